-- all layings of guards: the order of both sides, by program (wip/gen/p68.py)
def inc1 (m : Nat → Nat) (b : Nat) (k : Nat) : Nat := if k = b then m k + 1 else m k
def add1 (m : Nat → Nat) (b n : Nat) (k : Nat) : Nat := if k = b then m k + n else m k
theorem add1_0 (m : Nat → Nat) (b : Nat) : add1 m b 0 = m := by
  funext k
  unfold add1
  split <;> rfl
theorem add1_s (m : Nat → Nat) (b n : Nat) : add1 (inc1 m b) b n = add1 m b (n + 1) := by
  funext k
  unfold add1 inc1
  by_cases e : k = b
  · rw [if_pos e, if_pos e, if_pos e]; omega
  · rw [if_neg e, if_neg e, if_neg e]
section
variable {σ : Type}
def XfR (B : Nat) (Xg : Nat → (Nat → Nat) → σ → σ) : Nat → (Nat → Nat) → σ → σ
  | 0, _, S => S
  | f + 1, m, S => XfR B Xg f m (Xg (f + 1) (inc1 m (B - (f + 1))) S)
/-- all layings of g more guards on the last f of B borders, m laid already -/
def Xf (st : (Nat → Nat) → σ → σ) (B : Nat) : Nat → Nat → (Nat → Nat) → σ → σ
  | 0 => fun _ m S => st m S
  | g + 1 => XfR B (Xf st B g)
/-- the model's loop: n - 1 down to 0 on border b -/
def Lp (st : (Nat → Nat) → σ → σ) (B left f : Nat) (m : Nat → Nat) (b : Nat) : Nat → σ → σ
  | 0, S => S
  | n + 1, S => Lp st B left f m b n (Xf st B (left - n) f (add1 m b n) S)
variable (st : (Nat → Nat) → σ → σ) (B : Nat)
theorem Lp_s (g f : Nat) (m : Nat → Nat) (b : Nat) : ∀ n S, n ≤ g + 1 → Lp st B (g + 1) f m b (n + 1) S = Xf st B (g + 1) f m (Lp st B g f (inc1 m b) b n S)
  | 0, S, _ => by
    show Xf st B (g + 1 - 0) f (add1 m b 0) S = _
    rw [add1_0]
    rfl
  | n + 1, S, h => by
    show Lp st B (g + 1) f m b (n + 1) (Xf st B (g + 1 - (n + 1)) f (add1 m b (n + 1)) S) = Xf st B (g + 1) f m (Lp st B g f (inc1 m b) b n (Xf st B (g - n) f (add1 (inc1 m b) b n) S))
    rw [Lp_s g f m b n _ (by omega), add1_s, show g + 1 - (n + 1) = g - n by omega]
theorem Xf_Lp (f : Nat) : ∀ g m S, Xf st B g (f + 1) m S = Lp st B g f m (B - (f + 1)) (g + 1) S
  | 0, m, S => by
    show st m S = Xf st B (0 - 0) f (add1 m (B - (f + 1)) 0) S
    rw [add1_0]
    rfl
  | g + 1, m, S => by
    rw [Lp_s st B g f m _ (g + 1) S (Nat.le_refl _), ← Xf_Lp f g]
    rfl
/-- how many of the first s posts are k -/
def cntP (p : Nat → Nat) : Nat → Nat → Nat
  | 0 => fun _ => 0
  | s + 1 => inc1 (cntP p s) (p s)
theorem cntP_le (p : Nat → Nat) : ∀ s k, cntP p s k ≤ s
  | 0, k => Nat.le_refl 0
  | s + 1, k => by
    have := cntP_le p s k
    show inc1 (cntP p s) (p s) k ≤ s + 1
    unfold inc1
    split <;> omega
theorem cntP_c {p p' : Nat → Nat} : ∀ s, (∀ i, i < s → p i = p' i) → cntP p s = cntP p' s
  | 0, _ => rfl
  | s + 1, h => by
    show inc1 (cntP p s) (p s) = inc1 (cntP p' s) (p' s)
    rw [cntP_c s (fun i hi => h i (by omega)), h s (by omega)]
/-- what comes behind the posts p -/
def rsT (G : Nat) (p : Nat → Nat) : Nat → σ → σ
  | 0, S => S
  | i + 1, S => rsT G p i (Xf st B (G - i) (B - (p i + 1)) (cntP p i) S)
theorem rsT_c {G : Nat} {p p' : Nat → Nat} : ∀ i S, (∀ j, j < i → p j = p' j) → rsT st B G p i S = rsT st B G p' i S
  | 0, S, _ => rfl
  | i + 1, S, h => by
    show rsT st B G p i (Xf st B (G - i) (B - (p i + 1)) (cntP p i) S) = rsT st B G p' i (Xf st B (G - i) (B - (p' i + 1)) (cntP p' i) S)
    rw [h i (by omega), cntP_c i (fun j hj => h j (by omega))]
    exact rsT_c i _ (fun j hj => h j (by omega))
theorem Xf_no (n : Nat) (m : Nat → Nat) (S : σ) (h : 1 ≤ n) : Xf st B n 0 m S = S := by
  obtain ⟨k, rfl⟩ : ∃ k, n = k + 1 := ⟨n - 1, by omega⟩
  rfl
theorem rsT_no {G : Nat} {p : Nat → Nat} (i : Nat) : ∀ n S, i + n ≤ G → (∀ j, i ≤ j → j < i + n → B ≤ p j + 1) → rsT st B G p (i + n) S = rsT st B G p i S
  | 0, S, _, _ => rfl
  | n + 1, S, h1, h2 => by
    show rsT st B G p (i + n) (Xf st B (G - (i + n)) (B - (p (i + n) + 1)) (cntP p (i + n)) S) = _
    have := h2 (i + n) (by omega) (by omega)
    rw [show B - (p (i + n) + 1) = 0 by omega, Xf_no st B _ _ _ (by omega)]
    exact rsT_no i n S (by omega) (fun j hj1 hj2 => h2 j hj1 (by omega))
theorem rsT_up {G b : Nat} {p : Nat → Nat} (hb : b < B) (S : σ) : ∀ n j, j + n = G → (∀ k, j ≤ k → k < G → p k = b) → rsT st B G p G (st (cntP p G) S) = rsT st B G p j (Xf st B n (B - b) (cntP p j) S)
  | 0, j, hj, _ => by
    have e : j = G := by omega
    subst e
    rfl
  | n + 1, j, hj, hp => by
    rw [rsT_up hb S n (j + 1) (by omega) (fun k h1 h2 => hp k (by omega) h2)]
    have e := hp j (Nat.le_refl j) (by omega)
    show rsT st B G p j (Xf st B (G - j) (B - (p j + 1)) (cntP p j) (Xf st B n (B - b) (inc1 (cntP p j) (p j)) S)) = _
    rw [e, show G - j = n + 1 by omega, show B - b = (B - (b + 1)) + 1 by omega]
    show _ = rsT st B G p j (XfR B (Xf st B n) (B - (b + 1)) (cntP p j) (Xf st B n (B - (b + 1) + 1) (inc1 (cntP p j) (B - (B - (b + 1) + 1))) S))
    rw [show B - (B - (b + 1) + 1) = b by omega]
    rfl
/-- all posts raised from i on -/
def shP (p : Nat → Nat) (i k : Nat) : Nat := if i ≤ k then p i + 1 else p k
theorem rsT_shift {G i : Nat} {p : Nat → Nat} (hi : i < G) (h1 : p i + 1 < B) (h2 : ∀ j, i < j → j < G → B ≤ p j + 1) (S : σ) : rsT st B G p G S = rsT st B G (shP p i) G (st (cntP (shP p i) G) S) := by
  rw [rsT_up st B (p := shP p i) h1 S (G - i) i (by omega) (fun k q1 q2 => if_pos q1)]
  rw [show rsT st B G p G S = rsT st B G p (i + 1) S by
    have := rsT_no st B (G := G) (p := p) (i + 1) (G - (i + 1)) S (by omega) (fun j q1 q2 => h2 j (by omega) (by omega))
    rw [show i + 1 + (G - (i + 1)) = G by omega] at this
    exact this]
  show rsT st B G p i (Xf st B (G - i) (B - (p i + 1)) (cntP p i) S) = _
  have e : ∀ j, j < i → p j = shP p i j := fun j hj => (if_neg (by omega)).symm
  rw [cntP_c i e]
  exact rsT_c st B i _ e
theorem rsT_end {G : Nat} {p : Nat → Nat} (h : ∀ j, j < G → B ≤ p j + 1) (S : σ) : rsT st B G p G S = S := by
  have := rsT_no st B (G := G) (p := p) 0 G S (by omega) (fun j _ q2 => h j (by omega))
  rw [Nat.zero_add] at this
  exact this
theorem rsT_first {G : Nat} (hG : B = 0 → G = 0) (S : σ) : rsT st B G (fun _ => 0) G (st (cntP (fun _ => 0) G) S) = Xf st B G B (fun _ => 0) S := by
  by_cases e : B = 0
  · have := hG e
    subst this
    rfl
  · rw [rsT_up st B (b := 0) (p := fun _ => 0) (by omega) S G 0 (by omega) (fun k _ _ => rfl)]
    rfl
end
/-- how many layings -/
def cst1 (_ : Nat → Nat) (n : Nat) : Nat := n + 1
theorem XfR_ge (B : Nat) {Xg : Nat → (Nat → Nat) → Nat → Nat} (h : ∀ f m n, n ≤ Xg f m n) : ∀ f m n, n ≤ XfR B Xg f m n
  | 0, _, n => Nat.le_refl n
  | f + 1, m, n => Nat.le_trans (h _ _ n) (XfR_ge B h f m _)
theorem Xf_ge (B : Nat) : ∀ g f m n, n ≤ Xf cst1 B g f m n
  | 0, _, _, n => Nat.le_succ n
  | g + 1, f, m, n => XfR_ge B (fun f m n => Xf_ge B g f m n) f m n
theorem rsT_ge (B G : Nat) (p : Nat → Nat) : ∀ i n, n ≤ rsT cst1 B G p i n
  | 0, n => Nat.le_refl n
  | i + 1, n => Nat.le_trans (Xf_ge B _ _ _ n) (rsT_ge B G p i _)
theorem Xf_few : ∀ g : Fin 4, ∀ B : Fin 17, Xf cst1 B.1 g.1 B.1 (fun _ => 0) 0 ≤ 816 := by decide +kernel
/-- the best so far: its sum, and the guards as they stand -/
def bst (val : (Nat → Nat) → Int64) (nB : Nat) (m : Nat → Nat) (S : Int64 × (Nat → Int32)) : Int64 × (Nat → Int32) := if S.1 < val m then (val m, fun k => if k < nB then nI (m k) else S.2 k) else S
