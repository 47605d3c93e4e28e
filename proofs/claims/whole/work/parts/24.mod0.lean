theorem BD.p {Y : VV} (h : BD Y) : ∀ p, p < 4 → Y 70 p ≤ Y 69 10 ∧ Y 71 p ≤ 15 ∧ Y 72 p < 16 ∧ Y 73 p ≤ 1 ∧ Y 74 p ≤ 1 ∧ Y 75 p ≤ Y 69 10 ∧ Y 76 p ≤ 15 ∧ Y 77 p ≤ 4 ∧ Y 70 p ≤ Y 76 p ∧ (Y 75 p = 0 ∨ (Y 70 p < Y 75 p ∧ Y 75 p ≤ Y 76 p)) := h.1
theorem BD.v {Y : VV} (h : BD Y) : Y 69 10 ≤ 15 := h.2.1
theorem BD.d {Y : VV} (h : BD Y) : ∀ i, Y 78 i ≤ 4 := h.2.2.1
theorem BD.m {Y : VV} (h : BD Y) : ∀ i, Y 80 i < 16 := h.2.2.2.1
theorem BD.s {Y : VV} (h : BD Y) : ∀ i, Y 81 i ≤ 15 := h.2.2.2.2.1
theorem BD.vc {Y : VV} (h : BD Y) : ∀ i, Y 83 i ≤ 4 := h.2.2.2.2.2.1
theorem BD.kn {Y : VV} (h : BD Y) : ∀ i, Y 84 i ≤ 1 := h.2.2.2.2.2.2.1
theorem BD.sv {Y : VV} (h : BD Y) : ∀ i, Y 85 i ≤ 15 := h.2.2.2.2.2.2.2.1
theorem BD.cu {Y : VV} (h : BD Y) : ∀ i, Y 86 i ≤ 4 := h.2.2.2.2.2.2.2.2.1
theorem BD.he {Y : VV} (h : BD Y) : ∀ i, Y 87 i ≤ 1 := h.2.2.2.2.2.2.2.2.2.1
theorem BD.rsm {Y Z : VV} (h : BD Y) (hs : rsm Y Z) : BD Z := by
  have hs : ∀ c k, c ≠ 90 → ¬ (c = 69 ∧ k = 22) → Z c k = Y c k := hs
  unfold BD
  simp (disch := omega) only [hs]
  exact h
/-- what the reference's walk needs beyond BD: the lines -/
def RB (Y : VV) : Prop := BD Y ∧ ∀ i, i < 16 → Y 89 i ≤ 75 ∧ (0 < Y 89 i → Y 88 (80 * i) < 320)
theorem Rel.rb {X Y : VV} (h : Rel X Y) : RB Y := by
  refine ⟨h.2.2.2.2.2.2.2.2, fun i hi => ?_⟩
  obtain ⟨a1, a2, a3, a4⟩ := h.2.2.2.2.2.2.2.1 (i / 4) (i % 4) (by omega) (by omega)
  have hc := cap_le h.2.2.2.2.2.2.2.2 (p := i / 4) (by omega)
  rw [show 4 * (i / 4) + i % 4 = i by omega] at a3 a4
  refine ⟨by omega, fun h0 => ?_⟩
  obtain ⟨b1, b2⟩ := a4 _ (Nat.le_refl _) (by omega)
  simp only [Nat.sub_self, Nat.add_zero] at b2
  rw [← b2]
  unfold tr
  split <;> omega
theorem rps_lt {Y : VV} (h : BD Y) {p : Nat} (hp : p < 4) : rps Y p < 16 := by
  unfold rps
  split
  · show 2 ^ p < 2 ^ 4
    exact Nat.pow_lt_pow_right (by decide) hp
  · exact h.m _
theorem rpo_len {Y : VV} {p set x j : Nat} : ∀ q, q ≤ j → rpo Y p set x q 89 (4 * p + j) = Y 89 (4 * p + j)
  | 0, _ => rfl
  | q + 1, hq => by
    rw [rpo]
    split
    · rw [pt_nk (by omega), pt_ne (by decide), rpo_len q (by omega)]
    · exact rpo_len q (by omega)
theorem q_ge {x lo : Nat} (h : x < 2 ^ 32) (hl : lo < 2 ^ 31) (hc : ¬ nI x < nI lo) : lo ≤ x ∧ x < 2 ^ 31 := by
  by_cases hn : x < 2 ^ 31
  · refine ⟨?_, hn⟩
    rcases Nat.lt_or_ge x lo with z | z
    · exact absurd (nI_lt z hl) hc
    · exact z
  · exfalso
    apply hc
    have h1 := (q_lt0 h).mpr (by omega)
    have e1 := Int32.lt_iff_toInt_lt.mp h1
    have e0 : (0 : Int32).toInt = 0 := rfl
    have e2 : (nI lo).toInt = lo := nI_toInt hl
    rw [Int32.lt_iff_toInt_lt]
    omega
theorem q_le0 {a : Nat} (h : a < 2 ^ 31) : nI a ≤ 0 ↔ a = 0 := by
  have e := nI_leI (a := a) (b := 0) h (by decide)
  rw [show nI 0 = 0 by decide +kernel] at e
  rw [e]
  omega
theorem rlq_le {Y : VV} {p v both : Nat} (h86 : ∀ i, Y 86 i ≤ 4) (h90 : ∀ r, r < 4 → Y 90 r ≤ 4) : ∀ q r, r < 4 → rlq Y p v both q 90 r ≤ 4
  | 0, r, hr => h90 r hr
  | q + 1, r, hr => by
    have ih := rlq_le (p := p) (v := v) (both := both) h86 h90 q r hr
    rw [rlq]
    split
    · exact ih
    · rw [rlr_at, pt_ne (by decide), pt_ne (by decide)]
      split
      · rw [rlq_ne (by decide) (by omega)]
        exact h86 _
      · exact ih
theorem rlim_ok {Y Z : VV} {p h : Nat} (hb : BD Y) (hl : rlim Y p h Z) : rsm Y Z ∧ h ≤ 2 ∧ (¬ h = 0 → ∀ j, j < 4 → Z 90 j ≤ 4) := by
  rcases hl with ⟨rfl, -, rfl⟩ | ⟨rfl, -, -, hs⟩ | ⟨rfl, -, -, -, hs⟩ | ⟨rfl, -, -, -, rfl⟩
  · refine ⟨fun c k z1 z2 => ?_, by decide, fun _ j hj => ?_⟩
    · rw [rl0_ne z1]
      exact (rsm.rfl'.put69 0) c k z1 z2
    · rw [rl0_at, if_pos hj]
      exact Nat.le_refl _
  · exact ⟨hs, by decide, fun z => absurd rfl z⟩
  · exact ⟨hs, by decide, fun z => absurd rfl z⟩
  · refine ⟨fun c k z1 z2 => ?_, Nat.le_refl _, fun _ j hj => ?_⟩
    · rw [rlq_ne z1 z2, rl0_ne z1]
      exact (rsm.rfl'.put69 0) c k z1 z2
    · refine rlq_le (fun i => ?_) (fun r hr => ?_) 4 j hj
      · rw [rl0_ne (by decide), pt_ne (by decide)]
        exact hb.cu i
      · rw [rl0_at, if_pos hr]
        exact Nat.zero_le _
theorem rfo_ne {Y : VV} {set n c k : Nat} (h : c ≠ 81) (h2 : c ≠ 73) : ∀ q, rfo Y set n q c k = Y c k
  | 0 => rfl
  | q + 1 => by
    rw [rfo]
    split
    · rw [pt_ne h2, pt_ne h, rfo_ne h h2 q]
    · exact rfo_ne h h2 q
def rcn (Y : VV) (b : Nat) : Nat → Nat
  | 0 => 0
  | k + 1 => if Y 84 (b + k) = 0 then rcn Y b k else rcn Y b k + 1
theorem rcn_le {Y : VV} {b : Nat} : ∀ k, rcn Y b k ≤ k
  | 0 => Nat.le_refl _
  | k + 1 => by
    have := rcn_le (Y := Y) (b := b) k
    rw [rcn]
    split <;> omega
