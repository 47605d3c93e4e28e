theorem RLc.mono {X Y : VV} {cp cp' : Nat → Nat → Nat} (h : RLc X Y cp) (hc : ∀ a b, a < 4 → b < 4 → cp a b ≤ cp' a b) : RLc X Y cp' := fun a b ha hb => ⟨(h a b ha hb).1, Nat.le_trans (h a b ha hb).2.1 (hc a b ha hb), (h a b ha hb).2.2⟩
theorem Rel.mk2 {A B X' Y' : VV} (h : RS A B ∧ RG A B ∧ RK A B ∧ RH A B ∧ RM A B ∧ RC A B ∧ RE A B ∧ BD B) (hX : ∀ c k, c < 37 → X' c k = A c k) (hY : ∀ c k, 69 ≤ c → c ≠ 88 → c ≠ 89 → Y' c k = B c k) (hL : RLc X' Y' (fun p _ => cap Y' p)) : Rel X' Y' := by
  obtain ⟨h1, h2, h3, h4, h5, h6, h7, h9⟩ := h
  refine ⟨?_, ⟨?_, ?_, ?_⟩, ?_, ?_, ?_, ?_, ?_, hL, ?_⟩
  · intro p hp
    simp (disch := omega) only [hX, hY]
    exact h1 p hp
  · simp (disch := omega) only [hX, hY]
    exact h2.1
  · intro v hv
    simp (disch := omega) only [hX, hY]
    exact h2.2.1 v hv
  · intro v p hv hp
    simp (disch := omega) only [hX, hY]
    exact h2.2.2 v p hv hp
  · intro p v r hp hv hr
    simp (disch := omega) only [hX, hY]
    exact h3 p v r hp hv hr
  · intro p r hp hr
    simp (disch := omega) only [hX, hY]
    exact h4 p r hp hr
  · intro p v n hp hv hn
    simp (disch := omega) only [hX, hY]
    exact h5 p v n hp hv hn
  · intro p c hp hc
    simp (disch := omega) only [hX, hY]
    exact h6 p c hp hc
  · intro p i hp hi
    simp (disch := omega) only [hX, hY]
    exact h7 p i hp hi
  · unfold BD
    simp (disch := omega) only [hY]
    exact h9
theorem or_lt {a c n : Nat} (ha : a < 2 ^ n) (hc : c < n) : a ||| 2 ^ c < 2 ^ n := Nat.or_lt_two_pow ha (Nat.pow_lt_pow_right (by decide) hc)
theorem rk_learn {X Y : VV} (h : RK X Y) {p v r n : Nat} (hp : p < 4) (hv : v < 16) (hr : r < 4) (hn : n < 4) : RK (cln X p v r (n + 1)) (pt Y 84 (256 * p + 16 * v + 4 * r + n) 1) := by
  intro a b d ha hb hd
  obtain ⟨g1, g2, g3⟩ := h a b d ha hb hd
  unfold cln
  by_cases e : a = p ∧ b = v ∧ d = r
  · obtain ⟨rfl, rfl, rfl⟩ := e
    rw [pt_eq rfl rfl]
    refine ⟨or_lt (n := 5) g1 (by omega), ?_, fun j hj => ?_⟩
    · have := b_or (a := X (5 + 8 * a + 1) (b * 4 + d)) (c := n + 1) (n := 0)
      rw [if_neg (by omega)] at this
      simp only [Nat.pow_zero, Nat.div_one] at this
      rw [this]
      exact g2
    · rw [b_or]
      by_cases hjn : j = n
      · subst hjn
        rw [if_pos rfl, pt_eq rfl rfl]
      · rw [if_neg (by omega), pt_nk (by omega)]
        exact g3 j hj
  · have hne : a ≠ p ∨ b * 4 + d ≠ v * 4 + r := by omega
    have hX : pt X (5 + 8 * p + 1) (v * 4 + r) (X (5 + 8 * p + 1) (v * 4 + r) ||| 2 ^ (n + 1)) (5 + 8 * a + 1) (b * 4 + d) = X (5 + 8 * a + 1) (b * 4 + d) := by
      rcases hne with z | z
      · exact pt_ne (by omega)
      · exact pt_nk z
    rw [hX]
    refine ⟨g1, g2, fun j hj => ?_⟩
    rw [pt_nk (by omega)]
    exact g3 j hj
theorem rh_learn {X Y : VV} (h : RH X Y) {p r c : Nat} (hp : p < 4) (hr : r < 4) (hc : c < 16) : RH (csy X p r c) (pt Y 87 (64 * p + 16 * r + c) 1) := by
  intro a d ha hd
  obtain ⟨g1, g3⟩ := h a d ha hd
  unfold csy
  by_cases e : a = p ∧ d = r
  · obtain ⟨rfl, rfl⟩ := e
    rw [pt_eq rfl rfl]
    refine ⟨or_lt (n := 16) g1 (by omega), fun j hj => ?_⟩
    rw [b_or]
    by_cases hjn : j = c
    · subst hjn
      rw [if_pos rfl, pt_eq rfl rfl]
    · rw [if_neg (by omega), pt_nk (by omega)]
      exact g3 j hj
  · have hX : pt X (5 + 8 * p + 2) r (X (5 + 8 * p + 2) r ||| 2 ^ c) (5 + 8 * a + 2) d = X (5 + 8 * a + 2) d := by
      by_cases z : a = p
      · exact pt_nk (fun w => e ⟨z, w⟩)
      · exact pt_ne (by omega)
    rw [hX]
    refine ⟨g1, fun j hj => ?_⟩
    rw [pt_nk (by omega)]
    exact g3 j hj
theorem RK.congr {X Y X' Y' : VV} (h : RK X Y) (hX : ∀ p k, p < 4 → X' (5 + 8 * p + 1) k = X (5 + 8 * p + 1) k) (hY : ∀ k, Y' 84 k = Y 84 k) : RK X' Y' := fun a v r ha hv hr => by
  simp (disch := omega) only [hX, hY]
  exact h a v r ha hv hr
theorem RH.congr {X Y X' Y' : VV} (h : RH X Y) (hX : ∀ p k, p < 4 → X' (5 + 8 * p + 2) k = X (5 + 8 * p + 2) k) (hY : ∀ k, Y' 87 k = Y 87 k) : RH X' Y' := fun a r ha hr => by
  simp (disch := omega) only [hX, hY]
  exact h a r ha hr
theorem cps_eq {X Y : VV} (h : Rel X Y) {p : Nat} (hp : p < 4) : cps X p = rps Y p := by
  unfold cps rps
  rw [(h.1 p hp).1]
  have := (h.2.2.2.2.2.2.2.2.1 p hp).1
  have := h.2.2.2.2.2.2.2.2.2.1
  rw [h.2.1.2.1 (Y 70 p) (by omega)]
theorem sim_tell {X Y : VV} (h : Rel X Y) {p : Nat} (hp : p < 4) (v : Nat) : (cTell X p v).1 = (rTell Y p v).1 ∧ Rel (cTell X p v).2 (rTell Y p v).2 := by
  have hR := h
  obtain ⟨h1, h2, h3, h4, h5, h6, h7, h8, h9⟩ := h
  obtain ⟨s0, s1, s2, s3, s4, s5, s6, s7, s8, s9⟩ := h1 p hp
  obtain ⟨b0, b1, b2, b3, b4, b5, b6, b7, b8, b9⟩ := h9.1 p hp
  have hv15 := h9.2.1
  unfold cTell rTell
  by_cases c1 : 1 ≤ v ∧ v ≤ Y 69 10 ∧ ¬ Y 80 v / 2 ^ p % 2 = 0
  · have e3 : X 3 v = Y 80 v := h2.2.1 v (by omega)
    have e4 : X 4 (v * 4 + p) = Y 81 (4 * v + p) := h2.2.2 v p (by omega) hp
    have c1' : 1 ≤ v ∧ v ≤ X 0 4 ∧ X 3 v / 2 ^ p % 2 = 1 := ⟨c1.1, by rw [h2.1]; exact c1.2.1, by rw [e3]; have := c1.2.2; omega⟩
    rw [if_neg (not_not_intro c1'), if_neg (not_not_intro c1), s6, e4, s1]
    by_cases c2 : v ≤ Y 76 p
    · rw [if_pos c2, if_pos c2]
      exact ⟨rfl, hR⟩
    · rw [if_neg c2, if_neg c2]
      by_cases c3 : Y 81 (4 * v + p) = Y 71 p
      · rw [if_neg (not_not_intro c3), if_neg (not_not_intro c3)]
        refine ⟨rfl, ?_, ⟨by simp (disch := omega) only [pt_eq, pt_ne, pt_nk]; exact h2.1, fun v hv => by simp (disch := omega) only [pt_eq, pt_ne, pt_nk]; exact h2.2.1 v hv, fun v b hv hb => by simp (disch := omega) only [pt_eq, pt_ne, pt_nk]; exact h2.2.2 v b hv hb⟩, fun a v r ha hv hr => by simp (disch := omega) only [pt_eq, pt_ne, pt_nk]; exact h3 a v r ha hv hr, fun a r ha hr => by simp (disch := omega) only [pt_eq, pt_ne, pt_nk]; exact h4 a r ha hr, fun a v n ha hv hn => by simp (disch := omega) only [pt_eq, pt_ne, pt_nk]; exact h5 a v n ha hv hn, fun a c ha hc => by simp (disch := omega) only [pt_eq, pt_ne, pt_nk]; exact h6 a c ha hc, fun a i ha hi => by simp (disch := omega) only [pt_eq, pt_ne, pt_nk]; exact h7 a i ha hi, fun a b ha hb => by simp (disch := omega) only [cap, pt_eq, pt_ne, pt_nk]; exact h8 a b ha hb, ?_⟩
        · intro a ha
          by_cases hap : a = p
          · subst hap
            simp (disch := omega) only [pt_eq, pt_ne, pt_nk]
            exact ⟨s0, s1, s2, s3, s4, trivial, trivial, s7, s8, s9⟩
          · simp (disch := omega) only [pt_eq, pt_ne, pt_nk]
            exact h1 a ha
        · refine ⟨fun a ha => ?_, ?_⟩
          · by_cases hap : a = p
            · subst hap
              simp (disch := omega) only [pt_eq, pt_ne, pt_nk]
              exact ⟨b0, b1, b2, b3, b4, c1.2.1, by omega, b7, by omega, Or.inr ⟨by omega, Nat.le_refl _⟩⟩
            · simp (disch := omega) only [pt_eq, pt_ne, pt_nk]
              exact h9.1 a ha
          · simp (disch := omega) only [pt_eq, pt_ne, pt_nk]
            exact h9.2
      · rw [if_pos c3, if_pos c3]
        exact ⟨rfl, hR⟩
  · have c1' : ¬ (1 ≤ v ∧ v ≤ X 0 4 ∧ X 3 v / 2 ^ p % 2 = 1) := by
      rintro ⟨z1, z2, z3⟩
      rw [h2.1] at z2
      rw [h2.2.1 v (by omega)] at z3
      exact c1 ⟨z1, z2, by omega⟩
    rw [if_pos c1', if_pos c1]
    exact ⟨rfl, hR⟩
theorem rel_start {U W : VV} (h : Rel U W) {q n : Nat} (hq : q < 4) (hn : n < 16) : Rel (pt (pt U 4 (n * 4 + q) (U (5 + 8 * q) 1)) (5 + 8 * q) 3 0) (pt (pt W 81 (4 * n + q) (W 71 q)) 73 q 0) := by
  obtain ⟨h1, h2, h3, h4, h5, h6, h7, h8, h9⟩ := h
  refine ⟨?_, ⟨by simp (disch := omega) only [pt_eq, pt_ne, pt_nk]; exact h2.1, fun v hv => by simp (disch := omega) only [pt_eq, pt_ne, pt_nk]; exact h2.2.1 v hv, fun v b hv hb => ?_⟩, fun a v r ha hv hr => by simp (disch := omega) only [pt_eq, pt_ne, pt_nk]; exact h3 a v r ha hv hr, fun a r ha hr => by simp (disch := omega) only [pt_eq, pt_ne, pt_nk]; exact h4 a r ha hr, fun a v n ha hv hn => by simp (disch := omega) only [pt_eq, pt_ne, pt_nk]; exact h5 a v n ha hv hn, fun a c ha hc => by simp (disch := omega) only [pt_eq, pt_ne, pt_nk]; exact h6 a c ha hc, fun a i ha hi => by simp (disch := omega) only [pt_eq, pt_ne, pt_nk]; exact h7 a i ha hi, fun a b ha hb => by simp (disch := omega) only [cap, pt_eq, pt_ne, pt_nk]; exact h8 a b ha hb, ?_⟩
  · intro a ha
    by_cases hap : a = q
    · subst hap
      obtain ⟨s0, s1, s2, s3, s4, s5, s6, s7, s8, s9⟩ := h1 a ha
      simp (disch := omega) only [pt_eq, pt_ne, pt_nk]
      exact ⟨s0, s1, s2, trivial, s4, s5, s6, s7, s8, s9⟩
    · simp (disch := omega) only [pt_eq, pt_ne, pt_nk]
      exact h1 a ha
  · by_cases e : v = n ∧ b = q
    · obtain ⟨rfl, rfl⟩ := e
      simp (disch := omega) only [pt_eq, pt_ne, pt_nk]
      exact (h1 b hb).2.1
    · simp (disch := omega) only [pt_eq, pt_ne, pt_nk]
      exact h2.2.2 v b hv hb
  · obtain ⟨g0, g1, g2, g3, g4, g5⟩ := h9
    refine ⟨fun a ha => ?_, ?_, ?_, ?_, ?_, ?_⟩
    · by_cases hap : a = q
      · subst hap
        obtain ⟨b0, b1, b2, b3, b4, b5⟩ := g0 a ha
        simp (disch := omega) only [pt_eq, pt_ne, pt_nk]
        exact ⟨b0, b1, b2, Nat.zero_le _, b4, b5⟩
      · simp (disch := omega) only [pt_eq, pt_ne, pt_nk]
        exact g0 a ha
    · simp (disch := omega) only [pt_eq, pt_ne, pt_nk]
      exact g1
    · simp (disch := omega) only [pt_eq, pt_ne, pt_nk]
      exact g2
    · simp (disch := omega) only [pt_eq, pt_ne, pt_nk]
      exact g3
    · intro i
      by_cases e : i = 4 * n + q
      · subst e
        simp (disch := omega) only [pt_eq, pt_ne, pt_nk]
        exact (g0 q hq).2.1
      · simp (disch := omega) only [pt_eq, pt_ne, pt_nk]
        exact g4 i
    · simp (disch := omega) only [pt_eq, pt_ne, pt_nk]
      exact g5
theorem sim_fo {U W : VV} (h : Rel U W) {set n : Nat} (hn : n < 16) : ∀ q, q ≤ 4 → Rel (cfo U set n q) (rfo W set n q)
  | 0, _ => h
  | q + 1, hq => by
    have ih := sim_fo h (set := set) hn q (by omega)
    rw [cfo, rfo]
    by_cases hg : set / 2 ^ q % 2 = 1
    · rw [if_pos hg, if_pos (by omega)]
      exact rel_start ih (by omega) hn
    · rw [if_neg hg, if_neg (by omega)]
      exact ih
theorem sim_form {X Y : VV} (h : Rel X Y) {set : Nat} {r r' : Int32} {X' Y' : VV} (hc : cForm X set r X') (hr : rForm Y set r' Y') : r = r' ∧ Rel X' Y' := by
  have hR := h
  obtain ⟨h1, h2, h3, h4, h5, h6, h7, h8, h9⟩ := h
  have hv15 := h9.2.1
  have e0 := h2.1
  have hfm : cfm X set ↔ rfm Y set := by
    unfold cfm rfm
    constructor
    · intro z q hq hb
      have := z q hq hb
      rw [(h1 q hq).2.2.1, (h1 q hq).2.2.2.1] at this
      exact this
    · intro z q hq hb
      have := z q hq hb
      rw [(h1 q hq).2.2.1, (h1 q hq).2.2.2.1]
      exact this
  unfold cForm at hc
  unfold rForm at hr
  rw [e0, hfm] at hc
  rcases hc with ⟨a1, rfl, rfl⟩ | ⟨a1, a2, rfl, rfl⟩ | ⟨a1, a2, a3, rfl, rfl⟩ | ⟨a1, a2, a3, rfl, rfl⟩ <;> rcases hr with ⟨d1, rfl, rfl⟩ | ⟨d1, d2, rfl, rfl⟩ | ⟨d1, d2, d3, rfl, rfl⟩ | ⟨d1, d2, d3, rfl, rfl⟩
  all_goals first
    | exact ⟨rfl, hR⟩
    | exact absurd d1 a1
    | exact absurd a1 d1
    | (exfalso; omega)
    | exact absurd a3 d3
    | exact absurd d3 a3
    | skip
  refine ⟨rfl, sim_fo ?_ (by omega) 4 (Nat.le_refl _)⟩
  refine ⟨fun a ha => by simp (disch := omega) only [pt_eq, pt_ne, pt_nk]; exact h1 a ha, ⟨by simp (disch := omega) only [pt_eq, pt_ne, pt_nk], fun v hv => ?_, fun v b hv hb => by simp (disch := omega) only [pt_eq, pt_ne, pt_nk]; exact h2.2.2 v b hv hb⟩, fun a v r ha hv hr => by simp (disch := omega) only [pt_eq, pt_ne, pt_nk]; exact h3 a v r ha hv hr, fun a r ha hr => by simp (disch := omega) only [pt_eq, pt_ne, pt_nk]; exact h4 a r ha hr, fun a v n ha hv hn => by simp (disch := omega) only [pt_eq, pt_ne, pt_nk]; exact h5 a v n ha hv hn, fun a c ha hc => by simp (disch := omega) only [pt_eq, pt_ne, pt_nk]; exact h6 a c ha hc, fun a i ha hi => by simp (disch := omega) only [pt_eq, pt_ne, pt_nk]; exact h7 a i ha hi, fun a b ha hb => by simp (disch := omega) only [cap, pt_eq, pt_ne, pt_nk]; exact h8 a b ha hb, ?_⟩
  · by_cases e : v = Y 69 10 + 1
    · subst e
      simp (disch := omega) only [pt_eq, pt_ne, pt_nk]
    · simp (disch := omega) only [pt_eq, pt_ne, pt_nk]
      exact h2.2.1 v hv
  · obtain ⟨g0, g1, g2, g3, g5⟩ := h9
    refine ⟨fun a ha => ?_, ?_, ?_, ?_, ?_⟩
    · obtain ⟨b0, b1, b2, b3, b4, b5, b6⟩ := g0 a ha
      simp (disch := omega) only [pt_eq, pt_ne, pt_nk]
      exact ⟨by omega, b1, b2, b3, b4, by omega, b6⟩
    · simp (disch := omega) only [pt_eq, pt_ne, pt_nk]
      omega
    · simp (disch := omega) only [pt_eq, pt_ne, pt_nk]
      exact g2
    · intro i
      by_cases e : i = Y 69 10 + 1
      · subst e
        simp (disch := omega) only [pt_eq, pt_ne, pt_nk]
        omega
      · simp (disch := omega) only [pt_eq, pt_ne, pt_nk]
        exact g3 i
    · simp (disch := omega) only [pt_eq, pt_ne, pt_nk]
      exact g5
theorem rvc_ne {Y : VV} {p m c k : Nat} (h : c ≠ 83) : ∀ q, rvc Y p m q c k = Y c k
  | 0 => rfl
  | q + 1 => by rw [rvc, pt_ne h, rvc_ne h q]
theorem rvc_at {Y : VV} {p m k : Nat} : ∀ q, rvc Y p m q 83 k = if 4 * m ≤ k ∧ k < 4 * m + q then (if k - 4 * m = p then 0 else Y 78 (4 * p + (k - 4 * m))) else Y 83 k
  | 0 => by rw [if_neg (by omega)]; rfl
  | q + 1 => by
    rw [rvc]
    by_cases e : k = 4 * m + q
    · rw [pt_eq rfl e, if_pos (show 4 * m ≤ k ∧ k < 4 * m + (q + 1) by omega), show k - 4 * m = q by omega]
    · rw [pt_nk e, rvc_at q]
      by_cases z : 4 * m ≤ k ∧ k < 4 * m + q
      · rw [if_pos z, if_pos (show 4 * m ≤ k ∧ k < 4 * m + (q + 1) by omega)]
      · rw [if_neg z, if_neg (show ¬ (4 * m ≤ k ∧ k < 4 * m + (q + 1)) by omega)]
theorem sim_send {X Y : VV} (h : Rel X Y) {p : Nat} (hp : p < 4) (x : Nat) : (cSend X p x).1 = (rSend Y p x).1 ∧ Rel (cSend X p x).2 (rSend Y p x).2 := by
  have hR := h
  have hcp := cps_eq h hp
  have hcap := fun a (ha : a < 4) => cap_le h.2.2.2.2.2.2.2.2 ha
  obtain ⟨h1, h2, h3, h4, h5, h6, h7, h8, h9⟩ := h
  obtain ⟨s0, s1, s2, s3, s4, s5, s6, s7, s8, s9⟩ := h1 p hp
  obtain ⟨b0, b1, b2, b3, b4, b5, b6, b7, b8, b9⟩ := h9.1 p hp
  have hv15 := h9.2.1
  unfold cSend rSend
  rw [s4, s7, s0, hcp]
  by_cases c1 : Y 74 p = 0
  · rw [if_neg (not_not_intro c1), if_neg (not_not_intro c1)]
    by_cases c2 : Y 77 p = 4
    · rw [if_pos (by omega), if_pos c2]
      exact ⟨rfl, hR⟩
    · rw [if_neg (by omega), if_neg c2]
      have hvv : Y 70 p < 16 := by omega
      have hss : Y 77 p < 4 := by omega
      have etr : 16 * Y 70 p + 4 * p + Y 77 p = tr p (Y 70 p * 4 + Y 77 p) := by unfold tr; rw [if_pos (by omega)]; omega
      have hk := rk_learn h3 hp hvv hp hss
      rw [show 256 * p + 16 * Y 70 p + 4 * p + Y 77 p = 256 * p + (16 * Y 70 p + 4 * p + Y 77 p) by omega] at hk
      refine ⟨rfl, Rel.mk2 ⟨?_, ?_, ?_, ?_, ?_, ?_, ?_, ?_⟩ (fun c k hc => cpo_ne (Or.inl hc) hp 4 (Nat.le_refl _)) (fun c k _ z1 z2 => rpo_ne z1 z2 4) ?_⟩
      · intro a ha
        unfold cln
        by_cases hap : a = p
        · subst hap
          simp (disch := omega) only [pt_eq, pt_ne, pt_nk, rvc_ne]
          exact ⟨s0, s1, s2, s3, s4, s5, s6, trivial, s8, s9⟩
        · simp (disch := omega) only [pt_eq, pt_ne, pt_nk, rvc_ne]
          exact h1 a ha
      · unfold cln
        refine ⟨?_, fun v hv => ?_, fun v b hv hb => ?_⟩ <;> simp (disch := omega) only [pt_eq, pt_ne, pt_nk, rvc_ne]
        · exact h2.1
        · exact h2.2.1 v hv
        · exact h2.2.2 v b hv hb
      · refine hk.congr (fun a j ha => ?_) (fun j => ?_)
        · unfold cln
          by_cases e : a = p ∧ j = Y 70 p * 4 + p
          · obtain ⟨rfl, rfl⟩ := e
            simp (disch := omega) only [pt_eq, pt_ne, pt_nk]
          · have hne : 5 + 8 * a + 1 ≠ 5 + 8 * p + 1 ∨ j ≠ Y 70 p * 4 + p := by omega
            rcases hne with z | z <;> simp (disch := omega) only [pt_ne, pt_nk]
        · by_cases e : j = 256 * p + (16 * Y 70 p + 4 * p + Y 77 p)
          · rw [pt_eq rfl e, pt_eq rfl e]
          · rw [pt_nk e, pt_nk e]
            simp (disch := omega) only [pt_ne, rvc_ne]
      · unfold cln
        intro a r ha hr
        simp (disch := omega) only [pt_eq, pt_ne, pt_nk, rvc_ne]
        exact h4 a r ha hr
      · intro a v n ha hv hn
        obtain ⟨g1, g2, g3⟩ := h5 a v n ha hv hn
        unfold cln
        by_cases e : a = p ∧ v = Y 70 p ∧ n = Y 77 p
        · obtain ⟨rfl, rfl, rfl⟩ := e
          simp (disch := omega) only [pt_eq, pt_ne, pt_nk, rvc_ne]
          refine ⟨trivial, pkd_wc s8 (Nat.zero_le _), fun r hr => ?_⟩
          rw [cnt_wc s8 (Nat.zero_le _) hr, rvc_at, if_pos (show 4 * (16 * Y 70 a + 4 * a + Y 77 a) ≤ 4 * (16 * Y 70 a + 4 * a + Y 77 a) + r ∧ 4 * (16 * Y 70 a + 4 * a + Y 77 a) + r < 4 * (16 * Y 70 a + 4 * a + Y 77 a) + 4 by omega), show 4 * (16 * Y 70 a + 4 * a + Y 77 a) + r - 4 * (16 * Y 70 a + 4 * a + Y 77 a) = r by omega, s9 r hr]
          simp (disch := omega) only [pt_ne]
        · have hne : a ≠ p ∨ v * 4 + n ≠ Y 70 p * 4 + Y 77 p := by omega
          have hm : 16 * v + 4 * a + n ≠ 16 * Y 70 p + 4 * p + Y 77 p := by omega
          have e1 : ∀ (Z : VV) (j y : Nat), (j = 3 ∨ j = 4) → pt Z (5 + 8 * p + j) (Y 70 p * 4 + Y 77 p) y (5 + 8 * a + j) (v * 4 + n) = Z (5 + 8 * a + j) (v * 4 + n) := by
            intro Z j y hj
            rcases hne with z | z
            · exact pt_ne (by omega)
            · exact pt_nk z
          have e3 := e1 (pt X (5 + 8 * p) 7 (Y 77 p + 1)) 3 x (Or.inl rfl)
          have e4 := e1 (pt (pt X (5 + 8 * p) 7 (Y 77 p + 1)) (5 + 8 * p + 3) (Y 70 p * 4 + Y 77 p) x) 4 (wc (X (5 + 8 * p) 8) p 0) (Or.inr rfl)
          refine ⟨?_, ?_, fun r hr => ?_⟩
          · rw [pt_ne (by omega), pt_ne (by omega), e3, pt_ne (by omega), pt_ne (by decide), rvc_ne (by decide), pt_nk hm, pt_ne (by decide)]
            exact g1
          · rw [pt_ne (by omega), e4, pt_ne (by omega), pt_ne (by omega)]
            exact g2
          · rw [pt_ne (by omega), e4, pt_ne (by omega), pt_ne (by omega), pt_ne (by decide), rvc_at, if_neg (by omega), pt_ne (by decide), pt_ne (by decide)]
            exact g3 r hr
      · unfold cln
        intro a c ha hc
        simp (disch := omega) only [pt_eq, pt_ne, pt_nk, rvc_ne]
        exact h6 a c ha hc
      · unfold cln
        intro a i ha hi
        simp (disch := omega) only [pt_eq, pt_ne, pt_nk, rvc_ne]
        exact h7 a i ha hi
      · obtain ⟨g0, g1, g2, g3, g4, g5, g6, g7, g8, g9, g10⟩ := h9
        refine ⟨fun a ha => ?_, ?_, ?_, ?_, ?_, fun i => ?_, fun i => ?_, ?_, ?_, ?_, fun v a n hv ha hn => ?_⟩
        · by_cases hap : a = p
          · subst hap
            simp (disch := omega) only [pt_eq, pt_ne, pt_nk, rvc_ne]
            exact ⟨b0, b1, b2, b3, b4, b5, b6, by omega, b8, b9⟩
          · simp (disch := omega) only [pt_eq, pt_ne, pt_nk, rvc_ne]
            exact g0 a ha
        · simp (disch := omega) only [pt_eq, pt_ne, pt_nk, rvc_ne]
          exact g1
        · simp (disch := omega) only [pt_eq, pt_ne, pt_nk, rvc_ne]
          exact g2
        · simp (disch := omega) only [pt_eq, pt_ne, pt_nk, rvc_ne]
          exact g3
        · simp (disch := omega) only [pt_eq, pt_ne, pt_nk, rvc_ne]
          exact g4
        · rw [pt_ne (by decide), rvc_at]
          simp (disch := omega) only [pt_ne]
          split
          · split
            · omega
            · exact g2 _
          · exact g5 i
        · by_cases e : i = 256 * p + (16 * Y 70 p + 4 * p + Y 77 p)
          · rw [pt_eq rfl e]; exact Nat.le_refl _
          · rw [pt_nk e]
            simp (disch := omega) only [pt_ne, rvc_ne]
            exact g6 i
        · simp (disch := omega) only [pt_eq, pt_ne, pt_nk, rvc_ne]
          exact g7
        · simp (disch := omega) only [pt_eq, pt_ne, pt_nk, rvc_ne]
          exact g8
        · simp (disch := omega) only [pt_eq, pt_ne, pt_nk, rvc_ne]
          exact g9
        · rw [pt_ne (by decide), rvc_at]
          simp (disch := omega) only [pt_ne]
          by_cases z : 4 * (16 * Y 70 p + 4 * p + Y 77 p) ≤ 4 * (16 * v + 4 * a + n) + a ∧ 4 * (16 * v + 4 * a + n) + a < 4 * (16 * Y 70 p + 4 * p + Y 77 p) + 4
          · have y1 : 16 * v + 4 * a + n = 16 * Y 70 p + 4 * p + Y 77 p := by omega
            have y2 : a = p := by omega
            rw [if_pos z, if_pos (by omega)]
          · rw [if_neg z]
            exact g10 v a n hv ha hn
      · have hL : RLc (cln (pt (pt (pt X (5 + 8 * p) 7 (Y 77 p + 1)) (5 + 8 * p + 3) (Y 70 p * 4 + Y 77 p) x) (5 + 8 * p + 4) (Y 70 p * 4 + Y 77 p) (wc (X (5 + 8 * p) 8) p 0)) p (Y 70 p) p (Y 77 p + 1)) (pt (rvc (pt (pt Y 77 p (Y 77 p + 1)) 82 (16 * Y 70 p + 4 * p + Y 77 p) x) p (16 * Y 70 p + 4 * p + Y 77 p) 4) 84 (256 * p + (16 * Y 70 p + 4 * p + Y 77 p)) 1) (fun a _ => cap Y a) := by
          unfold cln
          intro a b ha hb
          simp (disch := omega) only [pt_eq, pt_ne, pt_nk, rvc_ne]
          exact h8 a b ha hb
        by_cases hv0 : Y 70 p = 0
        · have hps : rps Y p = 2 ^ p := by unfold rps; rw [if_pos hv0]
          rw [hps, put_self hp 4 (Nat.le_refl _), rput_self hp 4 (Nat.le_refl _)]
          refine hL.mono (fun a b ha hb => ?_)
          by_cases hap : a = p
          · subst hap
            simp (disch := omega) only [cap, pt_eq, pt_ne, pt_nk, rvc_ne]
            rw [if_pos hv0, if_pos hv0]
            exact Nat.le_refl _
          · simp (disch := omega) only [cap, pt_eq, pt_ne, pt_nk, rvc_ne]
            exact Nat.le_refl _
        · have hl75 : cap Y p < 75 := by unfold cap; rw [if_neg hv0]; omega
          have ha := put_all (set := rps Y p) (w := Y 70 p * 4 + Y 77 p) hL hp (fun a b ha _ => hcap a ha) (fun _ _ => hl75) (by omega) 4 (Nat.le_refl _)
          rw [← etr] at ha
          refine ha.mono (fun a b ha hb => ?_)
          by_cases hap : a = p
          · subst hap
            rw [if_pos ⟨rfl, hb⟩]
            simp (disch := omega) only [cap, rpo_ne, pt_eq, pt_ne, pt_nk, rvc_ne]
            rw [if_neg hv0, if_neg hv0]
            omega
          · rw [if_neg (fun z => hap z.1)]
            simp (disch := omega) only [cap, rpo_ne, pt_eq, pt_ne, pt_nk, rvc_ne]
            exact Nat.le_refl _
  · rw [if_pos c1, if_pos c1]
    exact ⟨rfl, hR⟩
