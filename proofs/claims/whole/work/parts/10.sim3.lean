theorem rsm.rfl' {Y : VV} : rsm Y Y := fun _ _ _ _ => rfl
theorem rsm.trans {Y Z W : VV} (h : rsm Y Z) (h2 : rsm Z W) : rsm Y W := fun c k z1 z2 => (h2 c k z1 z2).trans (h c k z1 z2)
theorem rsm.put90 {Y Z : VV} (h : rsm Y Z) (k n : Nat) : rsm Y (pt Z 90 k n) := fun c j z1 z2 => by rw [pt_ne z1]; exact h c j z1 z2
theorem rsm.put69 {Y Z : VV} (h : rsm Y Z) (n : Nat) : rsm Y (pt Z 69 22 n) := fun c j z1 z2 => by
  by_cases e : c = 69
  · rw [pt_nk (fun z => z2 ⟨e, z⟩)]; exact h c j z1 z2
  · rw [pt_ne e]; exact h c j z1 z2
theorem Rel.rsm {X Y Z : VV} (h : Rel X Y) (hs : rsm Y Z) : Rel X Z := by
  obtain ⟨h1, h2, h3, h4, h5, h6, h7, h8, h9⟩ := h
  have hs : ∀ c k, c ≠ 90 → ¬ (c = 69 ∧ k = 22) → Z c k = Y c k := hs
  refine ⟨?_, ?_, ?_, ?_, ?_, ?_, ?_, ?_, ?_⟩
  · intro p hp
    simp (disch := omega) only [hs]
    exact h1 p hp
  · refine ⟨?_, ?_, ?_⟩
    · rw [hs 69 10 (by decide) (by omega)]
      exact h2.1
    · intro v hv
      simp (disch := omega) only [hs]
      exact h2.2.1 v hv
    · intro v p hv hp
      simp (disch := omega) only [hs]
      exact h2.2.2 v p hv hp
  · intro p v r hp hv hr
    simp (disch := omega) only [hs]
    exact h3 p v r hp hv hr
  · intro p r hp hr
    simp (disch := omega) only [hs]
    exact h4 p r hp hr
  · intro p v n hp hv hn
    simp (disch := omega) only [hs]
    exact h5 p v n hp hv hn
  · intro p c hp hc
    simp (disch := omega) only [hs]
    exact h6 p c hp hc
  · intro p i hp hi
    simp (disch := omega) only [hs]
    exact h7 p i hp hi
  · intro p q hp hq
    simp (disch := omega) only [cap, hs]
    exact h8 p q hp hq
  · unfold BD
    simp (disch := omega) only [hs]
    exact h9
theorem rl0_at {Y : VV} {x : Nat} : ∀ n r, rl0 Y x n 90 r = if r < n then x else Y 90 r
  | 0, r => by rw [if_neg (by omega)]; rfl
  | n + 1, r => by
    rw [rl0]
    by_cases e : r = n
    · rw [pt_eq rfl e, if_pos (by omega)]
    · rw [pt_nk e, rl0_at n r]
      by_cases z : r < n
      · rw [if_pos z, if_pos (by omega)]
      · rw [if_neg z, if_neg (by omega)]
theorem rl0_ne {Y : VV} {x c k : Nat} (h : c ≠ 90) : ∀ n, rl0 Y x n c k = Y c k
  | 0 => rfl
  | n + 1 => by rw [rl0, pt_ne h, rl0_ne h n]
theorem rlr_ne {U : VV} {s c k : Nat} (h : c ≠ 90) : ∀ n, rlr U s n c k = U c k
  | 0 => rfl
  | n + 1 => by
    rw [rlr]
    split
    · rw [pt_ne h, rlr_ne h n]
    · exact rlr_ne h n
theorem rlr_at {U : VV} {s : Nat} : ∀ n r, rlr U s n 90 r = if r < n ∧ U 90 r < U 86 (4 * s + r) then U 86 (4 * s + r) else U 90 r
  | 0, r => by rw [if_neg (by omega)]; rfl
  | n + 1, r => by
    have hn : rlr U s n 90 n = U 90 n := by rw [rlr_at n n, if_neg (by omega)]
    rw [rlr, hn]
    by_cases e : r = n
    · subst e
      by_cases z : U 90 r < U 86 (4 * s + r)
      · rw [if_pos z, pt_eq rfl rfl, if_pos ⟨by omega, z⟩]
      · rw [if_neg z, hn, if_neg (show ¬ (r < r + 1 ∧ U 90 r < U 86 (4 * s + r)) from fun w => z w.2)]
    · by_cases z : U 90 n < U 86 (4 * s + n)
      · rw [if_pos z, pt_nk e, rlr_at n r]
        by_cases y : r < n ∧ U 90 r < U 86 (4 * s + r)
        · rw [if_pos y, if_pos ⟨by omega, y.2⟩]
        · rw [if_neg y, if_neg (fun w => y ⟨by omega, w.2⟩)]
      · rw [if_neg z, rlr_at n r]
        by_cases y : r < n ∧ U 90 r < U 86 (4 * s + r)
        · rw [if_pos y, if_pos ⟨by omega, y.2⟩]
        · rw [if_neg y, if_neg (fun w => y ⟨by omega, w.2⟩)]
theorem rlq_ne {Y : VV} {p v both c k : Nat} (h : c ≠ 90) (h2 : ¬ (c = 69 ∧ k = 22)) : ∀ q, rlq Y p v both q c k = Y c k
  | 0 => rfl
  | q + 1 => by
    rw [rlq]
    split
    · exact rlq_ne h h2 q
    · rw [rlr_ne h]
      by_cases e : c = 69
      · rw [pt_nk (fun z => h2 ⟨e, z⟩)]; exact rlq_ne h h2 q
      · rw [pt_ne e]; exact rlq_ne h h2 q
theorem cnt_mx {a b : Nat} (ha : pkd a) (hb : pkd b) {r : Nat} (hr : r < 4) : cnt (mx4 a b) r = if cnt a r < cnt b r then cnt b r else cnt a r := cnt_pk (d := fun r => if cnt a r < cnt b r then cnt b r else cnt a r) (fun r hr => by
  have h1 := ha.2 r hr
  have h2 := hb.2 r hr
  show (if cnt a r < cnt b r then cnt b r else cnt a r) ≤ 255
  split <;> omega) r hr
theorem pkd_mx {a b : Nat} (ha : pkd a) (hb : pkd b) : pkd (mx4 a b) := pkd_pk (fun r hr => by
  have h1 := ha.2 r hr
  have h2 := hb.2 r hr
  show (if cnt a r < cnt b r then cnt b r else cnt a r) ≤ 4
  split <;> omega)
/-- those that come along -/
def ccd (X : VV) (p com q : Nat) : Prop := com / 2 ^ q % 2 = 1 ∧ X (5 + 8 * q + 5) (X 4 (X (5 + 8 * p) 5 * 4 + q)) = X (5 + 8 * p) 0
theorem cco_lt {X : VV} {p com : Nat} : ∀ q, q ≤ 4 → cco X p com q < 2 ^ 4
  | 0, _ => by show 0 < 2 ^ 4; decide
  | q + 1, hq => by
    have ih := cco_lt (X := X) (p := p) (com := com) q (by omega)
    rw [cco]
    split
    · exact or_lt ih (by omega)
    · exact ih
theorem cco_bit {X : VV} {p com j : Nat} : ∀ q, cco X p com q / 2 ^ j % 2 = 1 ↔ j < q ∧ ccd X p com j
  | 0 => by
    rw [cco, Nat.zero_div]
    constructor
    · intro h; omega
    · intro h; omega
  | q + 1 => by
    have ih := cco_bit (X := X) (p := p) (com := com) (j := j) q
    rw [cco]
    split
    · rename_i hc
      rw [b_or]
      by_cases e : j = q
      · subst e
        rw [if_pos rfl]
        exact ⟨fun _ => ⟨by omega, hc⟩, fun _ => rfl⟩
      · rw [if_neg e, ih]
        exact ⟨fun z => ⟨by omega, z.2⟩, fun z => ⟨by omega, z.2⟩⟩
    · rename_i hc
      rw [ih]
      constructor
      · exact fun z => ⟨by omega, z.2⟩
      · intro z
        have : j ≠ q := fun e => hc (by rw [← e]; exact z.2)
        exact ⟨by omega, z.2⟩
theorem and_bit (a b j : Nat) : (a &&& b) / 2 ^ j % 2 = 1 ↔ a / 2 ^ j % 2 = 1 ∧ b / 2 ^ j % 2 = 1 := by
  have h : ∀ x n : Nat, x / 2 ^ n % 2 = 1 ↔ x.testBit n = true := by
    intro x n
    rw [Nat.testBit_eq_decide_div_mod_eq]
    simp
  rw [h, h, h, Nat.testBit_and]
  simp
theorem sim_lim {X Y : VV} (h : Rel X Y) {p : Nat} (hp : p < 4) (hv0 : ¬ Y 75 p = 0) : ∀ q, q ≤ 4 →
    rlq (rl0 (pt Y 69 22 0) 0 4) p (Y 75 p) (Y 80 (Y 75 p) &&& rps Y p) q 69 22 = cco X p (Y 80 (Y 75 p) &&& rps Y p) q ∧
    pkd (cli X (Y 75 p) (cco X p (Y 80 (Y 75 p) &&& rps Y p) 4) q) ∧
    ∀ r, r < 4 → rlq (rl0 (pt Y 69 22 0) 0 4) p (Y 75 p) (Y 80 (Y 75 p) &&& rps Y p) q 90 r = cnt (cli X (Y 75 p) (cco X p (Y 80 (Y 75 p) &&& rps Y p) 4) q) r
  | 0, _ => by
    rw [rlq, cco, cli]
    refine ⟨by rw [rl0_ne (by decide), pt_eq rfl rfl], pkd_0, fun r hr => ?_⟩
    rw [rl0_at, if_pos hr, show cnt 0 r = 0 by unfold cnt; rw [Nat.zero_div]]
  | q + 1, hq => by
    obtain ⟨i1, i2, i3⟩ := sim_lim h hp hv0 q (by omega)
    have hq4 : q < 4 := by omega
    obtain ⟨h1, h2, h3, h4, h5, h6, h7, h8, h9⟩ := h
    obtain ⟨s0, s1, s2, s3, s4, s5, s6, s7, s8, s9⟩ := h1 p hp
    obtain ⟨b0, b1, b2, b3, b4, b5, b6, b7, b8, b9⟩ := h9.1 p hp
    have hv15 := h9.2.1
    have e4 : X 4 (Y 75 p * 4 + q) = Y 81 (4 * Y 75 p + q) := h2.2.2 (Y 75 p) q (by omega) hq4
    have hst := h9.2.2.2.2.1 (4 * Y 75 p + q)
    obtain ⟨f1, f2, f3⟩ := h6 q (Y 81 (4 * Y 75 p + q)) hq4 (by omega)
    have z85 : rl0 (pt Y 69 22 0) 0 4 85 (16 * q + rl0 (pt Y 69 22 0) 0 4 81 (4 * Y 75 p + q)) = Y 85 (16 * q + Y 81 (4 * Y 75 p + q)) := by
      simp (disch := omega) only [rl0_ne, pt_ne]
    have z70 : rl0 (pt Y 69 22 0) 0 4 70 p = Y 70 p := by
      simp (disch := omega) only [rl0_ne, pt_ne]
    have z81 : rl0 (pt Y 69 22 0) 0 4 81 (4 * Y 75 p + q) = Y 81 (4 * Y 75 p + q) := by
      simp (disch := omega) only [rl0_ne, pt_ne]
    have hcc : ccd X p (Y 80 (Y 75 p) &&& rps Y p) q ↔ ¬ ((Y 80 (Y 75 p) &&& rps Y p) / 2 ^ q % 2 = 0 ∨ ¬ Y 85 (16 * q + Y 81 (4 * Y 75 p + q)) = Y 70 p ∨ (Y 70 p = 0 ∧ ¬ q = p)) := by
      unfold ccd
      rw [s5, e4, f1, s0]
      constructor
      · rintro ⟨z1, z2⟩ (z | z | z)
        · omega
        · exact z z2
        · have hb := ((and_bit _ _ _).mp z1).2
          unfold rps at hb
          rw [if_pos z.1] at hb
          exact z.2 (two_bit p hp q hq4 hb)
      · intro z
        refine ⟨?_, ?_⟩
        · by_cases y : (Y 80 (Y 75 p) &&& rps Y p) / 2 ^ q % 2 = 0
          · exact absurd (Or.inl y) z
          · omega
        · by_cases y : Y 85 (16 * q + Y 81 (4 * Y 75 p + q)) = Y 70 p
          · exact y
          · exact absurd (Or.inr (Or.inl y)) z
    have hbit := cco_bit (X := X) (p := p) (com := Y 80 (Y 75 p) &&& rps Y p) (j := q) 4
    rw [rlq, z85, z70, z81, cli, e4]
    by_cases hg : ccd X p (Y 80 (Y 75 p) &&& rps Y p) q
    · have hg2 := hg
      unfold ccd at hg2
      rw [if_neg (hcc.mp hg), cco, if_pos hg2, if_pos (hbit.mpr ⟨hq4, hg⟩)]
      refine ⟨?_, pkd_mx i2 f2, fun r hr => ?_⟩
      · rw [rlr_ne (by decide), pt_eq rfl rfl, i1]
      · rw [rlr_at, cnt_mx i2 f2 hr, f3 r hr, pt_ne (by decide), pt_ne (by decide), i3 r hr, rlq_ne (by decide) (by omega), rl0_ne (by decide), pt_ne (by decide)]
        by_cases z : cnt (cli X (Y 75 p) (cco X p (Y 80 (Y 75 p) &&& rps Y p) 4) q) r < Y 86 (4 * (16 * q + Y 81 (4 * Y 75 p + q)) + r)
        · rw [if_pos ⟨hr, z⟩, if_pos z]
        · rw [if_neg (fun w => z w.2), if_neg z]
    · have hn : ¬ cco X p (Y 80 (Y 75 p) &&& rps Y p) 4 / 2 ^ q % 2 = 1 := fun z => hg (hbit.mp z).2
      have hr1 : (Y 80 (Y 75 p) &&& rps Y p) / 2 ^ q % 2 = 0 ∨ ¬ Y 85 (16 * q + Y 81 (4 * Y 75 p + q)) = Y 70 p ∨ (Y 70 p = 0 ∧ ¬ q = p) := by
        by_cases y : (Y 80 (Y 75 p) &&& rps Y p) / 2 ^ q % 2 = 0 ∨ ¬ Y 85 (16 * q + Y 81 (4 * Y 75 p + q)) = Y 70 p ∨ (Y 70 p = 0 ∧ ¬ q = p)
        · exact y
        · exact absurd (hcc.mpr y) hg
      have hg2 := hg
      unfold ccd at hg2
      rw [if_pos hr1, cco, if_neg hg2, if_neg hn]
      exact ⟨i1, i2, i3⟩
theorem sim_dl {X Z : VV} (h : Rel X Z) {p lim : Nat} (hp : p < 4) (hl : pkd lim) (h90 : ∀ r, r < 4 → Z 90 r = cnt lim r) {q : Nat} (hq : q < 4) : cdl X p lim q ↔ rdl Z p q := by
  obtain ⟨h1, h2, h3, h4, h5, h6, h7, h8, h9⟩ := h
  obtain ⟨s0, s1, s2, s3, s4, s5, s6, s7, s8, s9⟩ := h1 p hp
  obtain ⟨b0, b1, b2, b3, b4, b5, b6, b7, b8, b9⟩ := h9.1 p hp
  have hv15 := h9.2.1
  have hq9 := s9 q hq
  have hl4 := hl.2 q hq
  unfold cdl rdl
  rw [h90 q hq, s0, hq9]
  by_cases hd : Z 78 (4 * p + q) < cnt lim q
  · obtain ⟨k1, k2, k3⟩ := h3 p (Z 70 p) q hp (by omega) hq
    have k3 := k3 (Z 78 (4 * p + q)) (by omega)
    obtain ⟨m1, m2, m3⟩ := h5 q (Z 70 p) (Z 78 (4 * p + q)) hq (by omega) (by omega)
    have m0 := h9.2.2.2.2.2.2.2.2.2.2 (Z 70 p) q (Z 78 (4 * p + q)) (by omega) hq (by omega)
    have hkn := h9.2.2.2.2.2.2.1 (256 * p + 16 * Z 70 p + 4 * q + Z 78 (4 * p + q))
    rw [k3, show 256 * p + (16 * Z 70 p + 4 * q + Z 78 (4 * p + q)) = 256 * p + 16 * Z 70 p + 4 * q + Z 78 (4 * p + q) by omega]
    constructor
    · rintro ⟨z1, z2, z3⟩
      refine ⟨z1, by omega, fun r hr _ => ?_⟩
      have := z3 r hr
      rw [m3 r hr, s9 r hr] at this
      exact this
    · rintro ⟨z1, z2, z3⟩
      refine ⟨z1, by omega, fun r hr => ?_⟩
      rw [m3 r hr, s9 r hr]
      by_cases e : r = q
      · subst e
        rw [m0]
        exact Nat.zero_le _
      · exact z3 r hr e
  · exact ⟨fun z => absurd z.1 hd, fun z => absurd z.1 hd⟩
theorem re_ev {X Y : VV} (h : RE X Y) {p : Nat} (hp : p < 4) (a b c d : Nat) : RE (cev X p a b c d) (rev Y p a b c d) := by
  intro g i hg hi
  unfold cev rev
  by_cases e : g = p
  · subst e
    match i, hi with
    | 0, _ => simp (disch := omega) only [pt_eq, pt_ne, pt_nk]
    | 1, _ => simp (disch := omega) only [pt_eq, pt_ne, pt_nk]
    | 2, _ => simp (disch := omega) only [pt_eq, pt_ne, pt_nk]
    | 3, _ => simp (disch := omega) only [pt_eq, pt_ne, pt_nk]
  · simp (disch := omega) only [pt_eq, pt_ne, pt_nk]
    exact h g i hg hi
theorem cev_ne {X : VV} {p a b c d g k : Nat} (h : g ≠ 5 + 8 * p + 7) : cev X p a b c d g k = X g k := by
  unfold cev
  rw [pt_ne h, pt_ne h, pt_ne h, pt_ne h]
theorem rev_ne {Y : VV} {p a b c d g k : Nat} (h : g ≠ 79) : rev Y p a b c d g k = Y g k := by
  unfold rev
  rw [pt_ne h, pt_ne h, pt_ne h, pt_ne h]
theorem sim_dv {X Z : VV} (h : Rel X Z) {p q : Nat} (hp : p < 4) (hq : q < 4) (hd : Z 78 (4 * p + q) < 4) : Rel (cdv X p q) (rdv Z p q) := by
  obtain ⟨h1, h2, h3, h4, h5, h6, h7, h8, h9⟩ := h
  obtain ⟨s0, s1, s2, s3, s4, s5, s6, s7, s8, s9⟩ := h1 p hp
  obtain ⟨b0, b1, b2, b3, b4, b5, b6, b7, b8, b9⟩ := h9.1 p hp
  have hv15 := h9.2.1
  have hq9 := s9 q hq
  obtain ⟨m1, m2, m3⟩ := h5 q (Z 70 p) (Z 78 (4 * p + q)) hq (by omega) hd
  unfold cdv rdv
  rw [hq9, s0, m1]
  have hre := re_ev (X := pt X (5 + 8 * p) 8 (wc (X (5 + 8 * p) 8) q (Z 78 (4 * p + q) + 1))) (Y := pt Z 78 (4 * p + q) (Z 78 (4 * p + q) + 1)) (fun a i ha hi => by simp (disch := omega) only [pt_eq, pt_ne, pt_nk]; exact h7 a i ha hi) hp 1 q (Z 78 (4 * p + q) + 1) (Z 82 (16 * Z 70 p + 4 * q + Z 78 (4 * p + q)))
  refine ⟨?_, ?_, ?_, ?_, ?_, ?_, hre, ?_, ?_⟩
  · intro a ha
    by_cases hap : a = p
    · subst hap
      simp (disch := omega) only [cev_ne, rev_ne, pt_eq, pt_ne, pt_nk]
      refine ⟨s0, s1, s2, s3, s4, s5, s6, s7, pkd_wc s8 (by omega), fun r hr => ?_⟩
      rw [cnt_wc s8 (by omega) hr]
      by_cases e : r = q
      · subst e
        rw [if_pos rfl, pt_eq rfl rfl]
      · rw [if_neg e, pt_nk (by omega)]
        exact s9 r hr
    · simp (disch := omega) only [cev_ne, rev_ne, pt_eq, pt_ne, pt_nk]
      obtain ⟨t0, t1, t2, t3, t4, t5, t6, t7, t8, t9⟩ := h1 a ha
      refine ⟨t0, t1, t2, t3, t4, t5, t6, t7, t8, fun r hr => ?_⟩
      rw [pt_nk (by omega)]
      exact t9 r hr
  · refine ⟨?_, fun v hv => ?_, fun v b hv hb => ?_⟩ <;> simp (disch := omega) only [cev_ne, rev_ne, pt_eq, pt_ne, pt_nk]
    · exact h2.1
    · exact h2.2.1 v hv
    · exact h2.2.2 v b hv hb
  · intro a v r ha hv hr
    simp (disch := omega) only [cev_ne, rev_ne, pt_eq, pt_ne, pt_nk]
    exact h3 a v r ha hv hr
  · intro a r ha hr
    simp (disch := omega) only [cev_ne, rev_ne, pt_eq, pt_ne, pt_nk]
    exact h4 a r ha hr
  · intro a v n ha hv hn
    simp (disch := omega) only [cev_ne, rev_ne, pt_eq, pt_ne, pt_nk]
    exact h5 a v n ha hv hn
  · intro a c ha hc
    simp (disch := omega) only [cev_ne, rev_ne, pt_eq, pt_ne, pt_nk]
    exact h6 a c ha hc
  · intro a b ha hb
    simp (disch := omega) only [cap, cev_ne, rev_ne, pt_eq, pt_ne, pt_nk]
    exact h8 a b ha hb
  · obtain ⟨i0, i1, i2, i3⟩ := h9
    refine ⟨?_, ?_, fun i => ?_, ?_⟩
    · simp (disch := omega) only [rev_ne, pt_ne]
      exact i0
    · simp (disch := omega) only [rev_ne, pt_ne]
      exact i1
    · rw [rev_ne (by decide)]
      by_cases e : i = 4 * p + q
      · rw [pt_eq rfl e]; omega
      · rw [pt_nk e]; exact i2 i
    · simp (disch := omega) only [rev_ne, pt_ne]
      exact i3
theorem rz4_ne {Y : VV} {p c k : Nat} (h : c ≠ 78) : ∀ n, rz4 Y p n c k = Y c k
  | 0 => rfl
  | n + 1 => by rw [rz4, pt_ne h, rz4_ne h n]
theorem rz4_at {Y : VV} {p k : Nat} : ∀ n, rz4 Y p n 78 k = if 4 * p ≤ k ∧ k < 4 * p + n then 0 else Y 78 k
  | 0 => by rw [if_neg (by omega)]; rfl
  | n + 1 => by
    rw [rz4]
    by_cases e : k = 4 * p + n
    · rw [pt_eq rfl e, if_pos (by omega)]
    · rw [pt_nk e, rz4_at n]
      by_cases z : 4 * p ≤ k ∧ k < 4 * p + n
      · rw [if_pos z, if_pos (by omega)]
      · rw [if_neg z, if_neg (by omega)]
theorem sim_en {X Z : VV} (h : Rel X Z) {p : Nat} (hp : p < 4) (hv0 : ¬ Z 75 p = 0) (co : Nat) : Rel (cen (cev X p 2 (X (5 + 8 * p) 5) (X 3 (X (5 + 8 * p) 5)) co) p) (rz4 (pt (pt (pt (rev (pt Z 70 p (Z 75 p)) p 2 (Z 75 p) (Z 80 (Z 75 p)) co) 75 p 0) 74 p 0) 77 p 0) p 4) := by
  obtain ⟨h1, h2, h3, h4, h5, h6, h7, h8, h9⟩ := h
  obtain ⟨s0, s1, s2, s3, s4, s5, s6, s7, s8, s9⟩ := h1 p hp
  obtain ⟨b0, b1, b2, b3, b4, b5, b6, b7, b8, b9⟩ := h9.1 p hp
  have hv15 := h9.2.1
  rw [s5, h2.2.1 (Z 75 p) (by omega)]
  have hre := re_ev (X := X) (Y := pt Z 70 p (Z 75 p)) (fun a i ha hi => by simp (disch := omega) only [pt_eq, pt_ne, pt_nk]; exact h7 a i ha hi) hp 2 (Z 75 p) (Z 80 (Z 75 p)) co
  have e5 : cev X p 2 (Z 75 p) (Z 80 (Z 75 p)) co (5 + 8 * p) 5 = Z 75 p := by rw [cev_ne (by omega), s5]
  unfold cen
  rw [e5]
  refine ⟨?_, ?_, ?_, ?_, ?_, ?_, ?_, ?_, ?_⟩
  · intro a ha
    by_cases hap : a = p
    · subst hap
      simp (disch := omega) only [cev_ne, rev_ne, rz4_ne, pt_eq, pt_ne, pt_nk]
      refine ⟨trivial, s1, s2, s3, trivial, trivial, s6, trivial, pkd_0, fun r hr => ?_⟩
      rw [rz4_at, if_pos (by omega)]
      unfold cnt
      rw [Nat.zero_div]
    · simp (disch := omega) only [cev_ne, rev_ne, rz4_ne, pt_eq, pt_ne, pt_nk]
      obtain ⟨t0, t1, t2, t3, t4, t5, t6, t7, t8, t9⟩ := h1 a ha
      refine ⟨t0, t1, t2, t3, t4, t5, t6, t7, t8, fun r hr => ?_⟩
      rw [rz4_at, if_neg (by omega)]
      simp (disch := omega) only [rev_ne, pt_ne]
      exact t9 r hr
  · refine ⟨?_, fun v hv => ?_, fun v b hv hb => ?_⟩ <;> simp (disch := omega) only [cev_ne, rev_ne, rz4_ne, pt_eq, pt_ne, pt_nk]
    · exact h2.1
    · exact h2.2.1 v hv
    · exact h2.2.2 v b hv hb
  · intro a v r ha hv hr
    simp (disch := omega) only [cev_ne, rev_ne, rz4_ne, pt_eq, pt_ne, pt_nk]
    exact h3 a v r ha hv hr
  · intro a r ha hr
    simp (disch := omega) only [cev_ne, rev_ne, rz4_ne, pt_eq, pt_ne, pt_nk]
    exact h4 a r ha hr
  · intro a v n ha hv hn
    simp (disch := omega) only [cev_ne, rev_ne, rz4_ne, pt_eq, pt_ne, pt_nk]
    exact h5 a v n ha hv hn
  · intro a c ha hc
    simp (disch := omega) only [cev_ne, rev_ne, rz4_ne, pt_eq, pt_ne, pt_nk]
    exact h6 a c ha hc
  · intro a i ha hi
    simp (disch := omega) only [rz4_ne, pt_ne]
    exact hre a i ha hi
  · intro a b ha hb
    obtain ⟨f1, f2, f3, f4⟩ := h8 a b ha hb
    simp (disch := omega) only [cap, cev_ne, rev_ne, rz4_ne, pt_ne]
    refine ⟨f1, ?_, f3, f4⟩
    by_cases hap : a = p
    · subst hap
      simp (disch := omega) only [pt_eq, pt_ne, pt_nk]
      unfold cap at f2
      rw [if_neg hv0]
      split at f2 <;> omega
    · simp (disch := omega) only [pt_eq, pt_ne, pt_nk]
      exact f2
  · obtain ⟨i0, i1, i2, i3⟩ := h9
    refine ⟨fun a ha => ?_, ?_, fun i => ?_, ?_⟩
    · by_cases hap : a = p
      · subst hap
        simp (disch := omega) only [rev_ne, rz4_ne, pt_eq, pt_ne, pt_nk]
        exact ⟨b5, b1, b2, b3, Nat.zero_le _, Nat.zero_le _, b6, Nat.zero_le _, by omega, Or.inl trivial⟩
      · simp (disch := omega) only [rev_ne, rz4_ne, pt_eq, pt_ne, pt_nk]
        exact i0 a ha
    · simp (disch := omega) only [rev_ne, rz4_ne, pt_ne]
      exact i1
    · rw [rz4_at]
      split
      · exact Nat.zero_le _
      · simp (disch := omega) only [rev_ne, pt_ne]
        exact i2 i
    · simp (disch := omega) only [rev_ne, rz4_ne, pt_ne]
      exact i3
theorem sim_d1 {X Z : VV} (h : Rel X Z) {p lim : Nat} (hp : p < 4) (hl : pkd lim) (h90 : ∀ r, r < 4 → Z 90 r = cnt lim r) {r : Int32} {X' : VV} (hc : cd1 X p lim r X') : (r = 1 ∧ ∃ q, q < 4 ∧ rdl Z p q ∧ (∀ j, j < q → ¬ rdl Z p j) ∧ X' = cdv X p q ∧ Rel X' (rdv Z p q)) ∨ (r = 0 ∧ (∀ j, j < 4 → ¬ rdl Z p j) ∧ X' = X) := by
  rcases hc with ⟨rfl, q, hq, z1, z2, rfl⟩ | ⟨rfl, z1, rfl⟩
  · have hr := (sim_dl h hp hl h90 hq).mp z1
    refine Or.inl ⟨rfl, q, hq, hr, fun j hj w => z2 j hj ((sim_dl h hp hl h90 (by omega)).mpr w), rfl, sim_dv h hp hq ?_⟩
    have h1 := hr.1
    rw [h90 q hq] at h1
    have := hl.2 q hq
    omega
  · exact Or.inr ⟨rfl, fun j hj w => z1 j hj ((sim_dl h hp hl h90 hj).mpr w), rfl⟩
theorem q_least {P : Nat → Prop} {a b : Nat} (ha : P a) (hb : P b) (la : ∀ j, j < a → ¬ P j) (lb : ∀ j, j < b → ¬ P j) : a = b := by
  rcases Nat.lt_trichotomy a b with z | z | z
  · exact absurd ha (lb a z)
  · exact z
  · exact absurd hb (la b z)
theorem sim_step {X Y : VV} (h : Rel X Y) {p : Nat} (hp : p < 4) {r r' : Int32} {X' Y' : VV} (hc : cStep X p r X') (hr : rStep Y p r' Y') : r = r' ∧ Rel X' Y' := by
  have hR := h
  have hcp := cps_eq h hp
  obtain ⟨h1, h2, h3, h4, h5, h6, h7, h8, h9⟩ := h
  obtain ⟨s0, s1, s2, s3, s4, s5, s6, s7, s8, s9⟩ := h1 p hp
  obtain ⟨b0, b1, b2, b3, b4, b5, b6, b7, b8, b9⟩ := h9.1 p hp
  have hv15 := h9.2.1
  have e3 : X 3 (Y 75 p) = Y 80 (Y 75 p) := h2.2.1 _ (by omega)
  have hrd : crd X p (Y 80 (Y 75 p) &&& rps Y p) ↔ rrd Y p (Y 75 p) (Y 80 (Y 75 p) &&& rps Y p) := by
    unfold crd rrd
    rw [s5]
    constructor
    · intro z q hq hb
      have e4 : X 4 (Y 75 p * 4 + q) = Y 81 (4 * Y 75 p + q) := h2.2.2 (Y 75 p) q (by omega) hq
      have hst := h9.2.2.2.2.1 (4 * Y 75 p + q)
      have := z q hq (by omega)
      rw [e4, (h4 p q hp hq).2 _ (by omega), show 64 * p + 16 * q + Y 81 (4 * Y 75 p + q) = 64 * p + (16 * q + Y 81 (4 * Y 75 p + q)) by omega] at this
      omega
    · intro z q hq hb
      have e4 : X 4 (Y 75 p * 4 + q) = Y 81 (4 * Y 75 p + q) := h2.2.2 (Y 75 p) q (by omega) hq
      have hst := h9.2.2.2.2.1 (4 * Y 75 p + q)
      have hh := h9.2.2.2.2.2.2.2.2.2.1 (64 * p + (16 * q + Y 81 (4 * Y 75 p + q)))
      have := z q hq (by omega)
      rw [e4, (h4 p q hp hq).2 _ (by omega), show 64 * p + 16 * q + Y 81 (4 * Y 75 p + q) = 64 * p + (16 * q + Y 81 (4 * Y 75 p + q)) by omega]
      omega
  obtain ⟨hw, Z, hlim, hr⟩ := hr
  unfold cStep at hc
  rw [s4, s5, e3, hcp, hrd] at hc
  have fin : ∀ {lim : Nat} {W : VV} {r0 : Int32} {V : VV}, rsm Y W → pkd lim → (∀ j, j < 4 → W 90 j = cnt lim j) → cd1 X p lim r0 V → ∀ {rr : Int32} {V' : VV}, (r0 = 1 → (∃ q, q < 4 ∧ rdl W p q ∧ (∀ j, j < q → ¬ rdl W p j) ∧ rr = 1 ∧ V' = rdv W p q) → rr = 1 ∧ Rel V V') ∧ (r0 = 1 → ¬ ∀ j, j < 4 → ¬ rdl W p j) ∧ (r0 = 0 → (∀ j, j < 4 → ¬ rdl W p j) ∧ V = X) := by
    intro lim W r0 V hs hl h90 hd rr V'
    rcases sim_d1 (hR.rsm hs) hp hl h90 hd with ⟨rfl, q, hq, z1, z2, z3, z4⟩ | ⟨rfl, z1, rfl⟩
    · refine ⟨fun _ hx => ?_, fun _ w => w q hq z1, fun w => absurd w (by decide)⟩
      obtain ⟨q', hq', y1, y2, rfl, rfl⟩ := hx
      have := q_least (P := rdl W p) z1 y1 z2 y2
      subst this
      exact ⟨rfl, z4⟩
    · exact ⟨fun w => absurd w (by decide), fun w => absurd w (by decide), fun _ => ⟨z1, rfl⟩⟩
  rcases hlim with ⟨rfl, d1, rfl⟩ | ⟨rfl, d1, d2, hs⟩ | ⟨rfl, d1, d2, d3, hs⟩ | ⟨rfl, d1, d2, d3, rfl⟩
  · -- not blocked
    have hs : rsm Y (rl0 (pt Y 69 22 0) 4 4) := fun c k z1 z2 => by
      rw [rl0_ne z1]
      exact (rsm.rfl'.put69 0) c k z1 z2
    have hl : pkd 67372036 := ⟨by decide, c4 (by decide) (by decide) (by decide) (by decide)⟩
    have h90 : ∀ j, j < 4 → rl0 (pt Y 69 22 0) 4 4 90 j = cnt 67372036 j := fun j hj => by
      rw [rl0_at, if_pos hj]
      revert j
      exact c4 (P := fun j => 4 = cnt 67372036 j) (by decide) (by decide) (by decide) (by decide)
    rcases hc with ⟨a1, a2⟩ | ⟨a1, a2⟩ | ⟨a1, a2⟩ | ⟨a1, a2⟩
    · rcases hr with ⟨y1, -⟩ | ⟨-, y2⟩ | ⟨-, y2, y3, y4⟩ | ⟨y1, -⟩ | ⟨y1, -⟩
      · exact absurd y1 (by decide)
      · have ha := a2
        rcases a2 with ⟨rfl, -⟩ | ⟨rfl, -⟩
        · obtain ⟨g1, g2⟩ := (fin hs hl h90 ha (rr := r') (V' := Y')).1 rfl y2
          exact ⟨g1.symm, g2⟩
        · obtain ⟨q, hq, y5, -⟩ := y2
          exact absurd y5 (((fin hs hl h90 ha (rr := r') (V' := Y')).2.2 rfl).1 q hq)
      · have ha := a2
        rcases a2 with ⟨rfl, -⟩ | ⟨rfl, -⟩
        · exact absurd y2 ((fin hs hl h90 ha (rr := r') (V' := Y')).2.1 rfl)
        · rw [y3, y4, ((fin hs hl h90 ha (rr := r') (V' := Y')).2.2 rfl).2]
          exact ⟨rfl, hR.rsm hs⟩
      · exact absurd y1 (by decide)
      · exact absurd y1 (by decide)
    · exact absurd d1 a1
    · exact absurd d1 a1
    · exact absurd d1 a1
  · rcases hc with ⟨a1, a2⟩ | ⟨a1, a2, rfl, rfl⟩ | ⟨a1, a2, a3⟩ | ⟨a1, a2, a3⟩
    · exact absurd a1 d1
    · rcases hr with ⟨-, rfl, rfl⟩ | ⟨y1, -⟩ | ⟨y1, -⟩ | ⟨y1, -⟩ | ⟨y1, -⟩
      · exact ⟨rfl, hR.rsm hs⟩
      · exact absurd rfl y1
      · exact absurd y1 (by decide)
      · exact absurd y1 (by decide)
      · exact absurd y1 (by decide)
    · exact absurd d2 a2
    · exact absurd d2 a2
  · rcases hc with ⟨a1, a2⟩ | ⟨a1, a2, -⟩ | ⟨a1, a2, a3, rfl, rfl⟩ | ⟨a1, a2, a3, -⟩
    · exact absurd a1 d1
    · exact absurd a2 d2
    · rcases hr with ⟨-, rfl, rfl⟩ | ⟨y1, -⟩ | ⟨y1, -⟩ | ⟨y1, -⟩ | ⟨y1, -⟩
      · exact ⟨rfl, hR.rsm hs⟩
      · exact absurd rfl y1
      · exact absurd y1 (by decide)
      · exact absurd y1 (by decide)
      · exact absurd y1 (by decide)
    · exact absurd a3 d3
  · have hs : rsm Y (rlq (rl0 (pt Y 69 22 0) 0 4) p (Y 75 p) (Y 80 (Y 75 p) &&& rps Y p) 4) := fun c k z1 z2 => by
      rw [rlq_ne z1 z2, rl0_ne z1]
      exact (rsm.rfl'.put69 0) c k z1 z2
    obtain ⟨hco, hl, h90⟩ := sim_lim hR hp d2 4 (Nat.le_refl _)
    have hZ := hR.rsm hs
    generalize rlq (rl0 (pt Y 69 22 0) 0 4) p (Y 75 p) (Y 80 (Y 75 p) &&& rps Y p) 4 = W at hs hco h90 hZ hr
    have w75 : W 75 p = Y 75 p := hs 75 p (by decide) (by omega)
    rcases hc with ⟨a1, a2⟩ | ⟨a1, a2, -⟩ | ⟨a1, a2, a3, -⟩ | ⟨a1, a2, a3, a4⟩
    · exact absurd a1 d1
    · exact absurd a2 d2
    · exact absurd d3 a3
    · rcases a4 with ⟨rfl, a4⟩ | ⟨a4, a5⟩
      · rcases hr with ⟨y1, -⟩ | ⟨-, y2⟩ | ⟨y1, -⟩ | ⟨-, y2, -⟩ | ⟨-, y2, -⟩
        · exact absurd y1 (by decide)
        · obtain ⟨g1, g2⟩ := (fin hs hl h90 a4 (rr := r') (V' := Y')).1 rfl y2
          exact ⟨g1.symm, g2⟩
        · exact absurd y1 (by decide)
        · exact absurd y2 ((fin hs hl h90 a4 (rr := r') (V' := Y')).2.1 rfl)
        · exact absurd y2 ((fin hs hl h90 a4 (rr := r') (V' := Y')).2.1 rfl)
      · have hnone := ((fin hs hl h90 a4 (rr := r') (V' := Y')).2.2 rfl).1
        have heq : X (5 + 8 * p) 8 = cli X (Y 75 p) (cco X p (Y 80 (Y 75 p) &&& rps Y p) 4) 4 ↔ ∀ j, j < 4 → W 78 (4 * p + j) = W 90 j := by
          constructor
          · intro z j hj
            rw [h90 j hj, ← z, s9 j hj, hs 78 (4 * p + j) (by decide) (by omega)]
          · intro z
            refine pkd_ext s8 hl (fun j hj => ?_)
            rw [← h90 j hj, ← z j hj, s9 j hj, hs 78 (4 * p + j) (by decide) (by omega)]
        rcases hr with ⟨y1, -⟩ | ⟨-, q, hq, y2, -⟩ | ⟨y1, -⟩ | ⟨-, -, y3, rfl, rfl⟩ | ⟨-, -, y3, rfl, rfl⟩
        · exact absurd y1 (by decide)
        · exact absurd y2 (hnone q hq)
        · exact absurd y1 (by decide)
        · rcases a5 with ⟨-, rfl, rfl⟩ | ⟨a6, -⟩
          · exact ⟨rfl, hZ⟩
          · exact absurd (heq.mp a6) y3
        · rcases a5 with ⟨a6, -⟩ | ⟨-, rfl, rfl⟩
          · exact absurd (heq.mpr y3) a6
          · refine ⟨rfl, ?_⟩
            have := sim_en hZ hp (by rw [w75]; exact d2) (W 69 22)
            rw [s5, e3] at this
            rw [← hco]
            exact this
