/** Farms that several tests begin with. */
final class Farms {
    private Farms() {
    }

    /** Provinces 0, 1 .. each of 10 mouths with a need of 5, without edicts. */
    static SaltFarm withProvinces(int n) {
        SaltFarm farm = new SaltFarm();
        for (int i = 0; i < n; i++) {
            farm.province(10, 5);
        }
        return farm;
    }

    /** Provinces 0, 1 .. with these prices, each of 10 mouths with a need of 5. */
    static SaltFarm withPrices(int... prices) {
        SaltFarm farm = withProvinces(prices.length);
        for (int i = 0; i < prices.length; i++) {
            Check.tell(farm, i, 0, "price is " + prices[i]);
        }
        return farm;
    }

    /** Ten provinces, sixteen borders, thirty edicts, eight stores, and a full tape. */
    static SaltFarm full() {
        SaltFarm farm = withProvinces(10);
        for (int i = 0; i < 16; i++) {
            farm.border(i % 10, (i + 1 + i / 10) % 10, 10 + i);
        }
        for (int i = 0; i < 30; i++) {
            Check.tell(farm, i % 10, i / 10, "price is " + (50 + i * 7 % 40) + ";duty is " + i % 4);
        }
        for (int i = 0; i < 8; i++) {
            farm.store(i, 100 + i);
        }
        for (int i = 0; i < 15; i++) {
            Check.feed(farm, "duty is 1;price is 9");
        }
        return farm;
    }
}
