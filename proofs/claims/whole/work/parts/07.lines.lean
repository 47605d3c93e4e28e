-- putting a packet into the lines to the others: what each cell is afterwards
theorem cput_ne {X : VV} {i x c k : Nat} (h : c ≠ 37 + 2 * i) (h2 : c ≠ 37 + 2 * i + 1) : cput X i x c k = X c k := by
  unfold cput
  split
  · rw [pt_ne h, pt_ne h2]
  · rfl
theorem cpo_ne {X : VV} {p set x c k : Nat} (h : c < 37 ∨ 69 ≤ c) (hp : p < 4) : ∀ q, q ≤ 4 → cpo X p set x q c k = X c k
  | 0, _ => rfl
  | q + 1, hq => by
    rw [cpo]
    split
    · rw [cput_ne (by omega) (by omega), cpo_ne h hp q (by omega)]
    · exact cpo_ne h hp q (by omega)
theorem rpo_ne {Y : VV} {p set x c k : Nat} (h : c ≠ 88) (h2 : c ≠ 89) : ∀ q, rpo Y p set x q c k = Y c k
  | 0 => rfl
  | q + 1 => by
    rw [rpo]
    split
    · rw [pt_ne h2, pt_ne h, rpo_ne h h2 q]
    · exact rpo_ne h h2 q
theorem cput_line {X : VV} {i x : Nat} (h : X (37 + 2 * i) 2 < 75) : cput X i x (37 + 2 * i) 1 = X (37 + 2 * i) 1 ∧ cput X i x (37 + 2 * i) 2 = X (37 + 2 * i) 2 + 1 ∧ ∀ k, cput X i x (37 + 2 * i + 1) k = if k = X (37 + 2 * i) 2 then x else X (37 + 2 * i + 1) k := by
  unfold cput
  rw [if_pos h]
  refine ⟨?_, ?_, fun k => ?_⟩
  · rw [pt_nk (by decide), pt_ne (by omega)]
  · rw [pt_eq rfl rfl]
  · rw [pt_ne (by omega)]
    by_cases hk : k = X (37 + 2 * i) 2
    · rw [pt_eq rfl hk, if_pos hk]
    · rw [pt_nk hk, if_neg hk]
/-- the lines, with a bound for each -/
def RLc (X Y : VV) (cp : Nat → Nat → Nat) : Prop := ∀ p q, p < 4 → q < 4 → X (37 + 2 * (p * 4 + q)) 1 ≤ X (37 + 2 * (p * 4 + q)) 2 ∧ X (37 + 2 * (p * 4 + q)) 2 ≤ cp p q ∧ Y 89 (4 * p + q) = X (37 + 2 * (p * 4 + q)) 2 - X (37 + 2 * (p * 4 + q)) 1 ∧ ∀ k, X (37 + 2 * (p * 4 + q)) 1 ≤ k → k < X (37 + 2 * (p * 4 + q)) 2 → X (37 + 2 * (p * 4 + q) + 1) k < 80 ∧ tr p (X (37 + 2 * (p * 4 + q) + 1) k) = Y 88 (80 * (4 * p + q) + (k - X (37 + 2 * (p * 4 + q)) 1))
theorem put_step {X Y : VV} {cp : Nat → Nat → Nat} {p q w : Nat} (h : RLc X Y cp) (hcp : ∀ a b, a < 4 → b < 4 → cp a b ≤ 75) (hp : p < 4) (hq : q < 4) (hc : cp p q < 75) (hw : w < 80) : RLc (cput X (p * 4 + q) w) (pt (pt Y 88 (80 * (4 * p + q) + Y 89 (4 * p + q)) (tr p w)) 89 (4 * p + q) (Y 89 (4 * p + q) + 1)) (fun a b => if a = p ∧ b = q then cp a b + 1 else cp a b) := by
  obtain ⟨e1, e2, e3, e4⟩ := h p q hp hq
  obtain ⟨l1, l2, l3⟩ := cput_line (X := X) (i := p * 4 + q) (x := w) (by omega)
  intro a b ha hb
  by_cases hab : a = p ∧ b = q
  · obtain ⟨rfl, rfl⟩ := hab
    rw [l1, l2]
    refine ⟨by omega, by simp only [and_self, if_true]; omega, ?_, fun k k1 k2 => ?_⟩
    · rw [pt_eq rfl rfl, e3]; omega
    · rw [l3 k]
      by_cases hk : k = X (37 + 2 * (a * 4 + b)) 2
      · rw [if_pos hk]
        refine ⟨hw, ?_⟩
        rw [pt_ne (by decide), pt_eq rfl (by omega)]
      · rw [if_neg hk, pt_ne (by decide), pt_nk (by omega)]
        exact e4 k k1 (by omega)
  · obtain ⟨f1, f2, f3, f4⟩ := h a b ha hb
    have hne : a * 4 + b ≠ p * 4 + q := by omega
    have hb1 := hcp a b ha hb
    have hb2 := hcp p q hp hq
    rw [cput_ne (by omega) (by omega), cput_ne (by omega) (by omega)]
    refine ⟨f1, (by
      show _ ≤ (if a = p ∧ b = q then cp a b + 1 else cp a b)
      rw [if_neg hab]
      exact f2), ?_, fun k k1 k2 => ?_⟩
    · rw [pt_nk (by omega), pt_ne (by decide), f3]
    · rw [cput_ne (by omega) (by omega), pt_ne (by decide), pt_nk (by omega)]
      exact f4 k k1 k2
theorem put_all {X Y : VV} {cp : Nat → Nat → Nat} {p set w : Nat} (h : RLc X Y cp) (hp : p < 4) (hcp : ∀ a b, a < 4 → b < 4 → cp a b ≤ 75) (hc : ∀ q, q < 4 → cp p q < 75) (hw : w < 80) : ∀ q, q ≤ 4 → RLc (cpo X p set w q) (rpo Y p set (tr p w) q) (fun a b => if a = p ∧ b < q then cp a b + 1 else cp a b)
  | 0, _ => by
    simp only [cpo, rpo, Nat.not_lt_zero, and_false, if_false]
    exact h
  | q + 1, hq => by
    have ih := put_all h hp hcp hc hw q (by omega) (set := set)
    rw [cpo, rpo]
    by_cases hg : q ≠ p ∧ set / 2 ^ q % 2 = 1
    · rw [if_pos hg, if_pos ⟨hg.1, by have := hg.2; omega⟩]
      have hs := put_step ih (fun a b ha hb => by
        show (if a = p ∧ b < q then cp a b + 1 else cp a b) ≤ 75
        have h1 := hcp a b ha hb
        split
        · rename_i h2
          have := hc b hb
          rw [h2.1]; omega
        · exact h1) hp (by omega : q < 4) (w := w) (by
        show (if p = p ∧ q < q then cp p q + 1 else cp p q) < 75
        rw [if_neg (by omega)]
        exact hc q (by omega)) hw
      intro a b ha hb
      obtain ⟨s1, s2, s3⟩ := hs a b ha hb
      refine ⟨s1, Nat.le_trans s2 ?_, s3⟩
      simp only []
      split <;> split <;> split <;> omega
    · rw [if_neg hg, if_neg (fun z => hg ⟨z.1, by have := z.2; omega⟩)]
      intro a b ha hb
      obtain ⟨s1, s2, s3⟩ := ih a b ha hb
      refine ⟨s1, Nat.le_trans s2 ?_, s3⟩
      simp only []
      split <;> split <;> omega
theorem two_bit : ∀ p, p < 4 → ∀ q, q < 4 → 2 ^ p / 2 ^ q % 2 = 1 → q = p := by decide +kernel
theorem put_self {X : VV} {p w : Nat} (hp : p < 4) : ∀ q, q ≤ 4 → cpo X p (2 ^ p) w q = X
  | 0, _ => rfl
  | q + 1, hq => by
    rw [cpo, if_neg (fun z => z.1 (two_bit p hp q (by omega) z.2))]
    exact put_self hp q (by omega)
theorem rput_self {Y : VV} {p w : Nat} (hp : p < 4) : ∀ q, q ≤ 4 → rpo Y p (2 ^ p) w q = Y
  | 0, _ => rfl
  | q + 1, hq => by
    rw [rpo, if_neg (fun z => z.1 (two_bit p hp q (by omega) (by have := z.2; omega)))]
    exact rput_self hp q (by omega)
-- bits
theorem b_or {a c n : Nat} : (a ||| 2 ^ c) / 2 ^ n % 2 = if n = c then 1 else a / 2 ^ n % 2 := by
  have h : ∀ x n : Nat, x / 2 ^ n % 2 = (x.testBit n).toNat := by
    intro x n
    rw [Nat.testBit_eq_decide_div_mod_eq]
    by_cases hx : x / 2 ^ n % 2 = 1
    · simp [hx]
    · have : x / 2 ^ n % 2 = 0 := by omega
      simp [this]
  rw [h, h, Nat.testBit_or, Nat.testBit_two_pow]
  by_cases hn : n = c
  · subst hn; simp
  · have : ¬ c = n := fun e => hn e.symm
    simp [hn, this]
