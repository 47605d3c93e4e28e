theorem rct_ne {Y : VV} {p m c k : Nat} (h : c ≠ 86) : ∀ q, rct Y p m q c k = Y c k
  | 0 => rfl
  | q + 1 => by rw [rct, pt_ne h, rct_ne h q]
theorem rct_at {Y : VV} {p m k : Nat} : ∀ q, rct Y p m q 86 k = if 4 * m ≤ k ∧ k < 4 * m + q then (if k - 4 * m = p then Y 77 p else Y 78 (4 * p + (k - 4 * m))) else Y 86 k
  | 0 => by rw [if_neg (by omega)]; rfl
  | q + 1 => by
    rw [rct]
    by_cases e : k = 4 * m + q
    · rw [pt_eq rfl e, if_pos (show 4 * m ≤ k ∧ k < 4 * m + (q + 1) by omega), show k - 4 * m = q by omega]
    · rw [pt_nk e, rct_at q]
      by_cases z : 4 * m ≤ k ∧ k < 4 * m + q
      · rw [if_pos z, if_pos (show 4 * m ≤ k ∧ k < 4 * m + (q + 1) by omega)]
      · rw [if_neg z, if_neg (show ¬ (4 * m ≤ k ∧ k < 4 * m + (q + 1)) by omega)]
theorem sim_change {X Y : VV} (h : Rel X Y) {p : Nat} (hp : p < 4) (set : Nat) : (cChange X p set).1 = (rChange Y p set).1 ∧ Rel (cChange X p set).2 (rChange Y p set).2 := by
  have hR := h
  have hcap := fun a (ha : a < 4) => cap_le h.2.2.2.2.2.2.2.2 ha
  obtain ⟨h1, h2, h3, h4, h5, h6, h7, h8, h9⟩ := h
  obtain ⟨s0, s1, s2, s3, s4, s5, s6, s7, s8, s9⟩ := h1 p hp
  obtain ⟨b0, b1, b2, b3, b4, b5, b6, b7, b8, b9⟩ := h9.1 p hp
  have hv15 := h9.2.1
  unfold cChange rChange
  rw [s1, s7, s0]
  by_cases c1 : 1 ≤ set ∧ set ≤ 15 ∧ set / 2 ^ p % 2 = 1
  · rw [if_neg (not_not_intro c1), if_neg (not_not_intro (show 1 ≤ set ∧ set ≤ 15 ∧ ¬ set / 2 ^ p % 2 = 0 from ⟨c1.1, c1.2.1, by have := c1.2.2; omega⟩))]
    by_cases c2 : Y 71 p = 15
    · rw [if_pos (by omega), if_pos c2]
      exact ⟨rfl, hR⟩
    · rw [if_neg (by omega), if_neg c2]
      have hnn : Y 71 p + 1 < 16 := by omega
      have etr : 256 + (16 * p + (Y 71 p + 1)) = tr p (64 + (Y 71 p + 1)) := by unfold tr; rw [if_neg (by omega)]; omega
      have hk := rh_learn h4 hp hp hnn
      rw [show 64 * p + 16 * p + (Y 71 p + 1) = 64 * p + (16 * p + (Y 71 p + 1)) by omega] at hk
      refine ⟨rfl, Rel.mk2 ⟨?_, ?_, ?_, ?_, ?_, ?_, ?_, ?_⟩ (fun c k hc => cpo_ne (Or.inl hc) hp 4 (Nat.le_refl _)) (fun c k _ z1 z2 => rpo_ne z1 z2 4) ?_⟩
      · intro a ha
        unfold csy
        by_cases hap : a = p
        · subst hap
          simp (disch := omega) only [pt_eq, pt_ne, pt_nk, rct_ne]
          exact ⟨s0, trivial, trivial, trivial, trivial, trivial, s6, s7, s8, s9⟩
        · simp (disch := omega) only [pt_eq, pt_ne, pt_nk, rct_ne]
          exact h1 a ha
      · unfold csy
        refine ⟨?_, fun v hv => ?_, fun v b hv hb => ?_⟩ <;> simp (disch := omega) only [pt_eq, pt_ne, pt_nk, rct_ne]
        · exact h2.1
        · exact h2.2.1 v hv
        · exact h2.2.2 v b hv hb
      · unfold csy
        intro a v r ha hv hr
        simp (disch := omega) only [pt_eq, pt_ne, pt_nk, rct_ne]
        exact h3 a v r ha hv hr
      · refine hk.congr (fun a j ha => ?_) (fun j => ?_)
        · unfold csy
          by_cases e : a = p ∧ j = p
          · obtain ⟨rfl, rfl⟩ := e
            simp (disch := omega) only [pt_eq, pt_ne, pt_nk, rct_ne]
          · have hne : 5 + 8 * a + 2 ≠ 5 + 8 * p + 2 ∨ j ≠ p := by omega
            rcases hne with z | z <;> simp (disch := omega) only [pt_ne, pt_nk]
        · by_cases e : j = 64 * p + (16 * p + (Y 71 p + 1))
          · rw [pt_eq rfl e, pt_eq rfl e]
          · rw [pt_nk e, pt_nk e]
            simp (disch := omega) only [pt_ne, rct_ne]
      · unfold csy
        intro a v n ha hv hn
        simp (disch := omega) only [pt_eq, pt_ne, pt_nk, rct_ne]
        exact h5 a v n ha hv hn
      · intro a c ha hc
        obtain ⟨g1, g2, g3⟩ := h6 a c ha hc
        unfold csy
        by_cases e : a = p ∧ c = Y 71 p + 1
        · obtain ⟨rfl, rfl⟩ := e
          simp (disch := omega) only [pt_eq, pt_ne, pt_nk, rct_ne]
          refine ⟨trivial, pkd_wc s8 b7, fun r hr => ?_⟩
          rw [cnt_wc s8 b7 hr, rct_at, if_pos (show 4 * (16 * a + (Y 71 a + 1)) ≤ 4 * (16 * a + (Y 71 a + 1)) + r ∧ 4 * (16 * a + (Y 71 a + 1)) + r < 4 * (16 * a + (Y 71 a + 1)) + 4 by omega), show 4 * (16 * a + (Y 71 a + 1)) + r - 4 * (16 * a + (Y 71 a + 1)) = r by omega, s9 r hr]
          simp (disch := omega) only [pt_ne]
        · have hne : a ≠ p ∨ c ≠ Y 71 p + 1 := by omega
          have hm : 16 * a + c ≠ 16 * p + (Y 71 p + 1) := by omega
          have e1 : ∀ (Z : VV) (j y : Nat), pt Z (5 + 8 * p + j) (Y 71 p + 1) y (5 + 8 * a + j) c = Z (5 + 8 * a + j) c := by
            intro Z j y
            rcases hne with z | z
            · exact pt_ne (by omega)
            · exact pt_nk z
          refine ⟨?_, ?_, fun r hr => ?_⟩
          · rw [pt_ne (by omega), pt_ne (by omega), e1, pt_ne (by omega), pt_ne (by omega), pt_ne (by omega), pt_ne (by omega), pt_ne (by omega), pt_ne (by decide), rct_ne (by decide), pt_nk hm, pt_ne (by decide), pt_ne (by decide), pt_ne (by decide), pt_ne (by decide), pt_ne (by decide)]
            exact g1
          · rw [pt_ne (by omega), e1, pt_ne (by omega), pt_ne (by omega), pt_ne (by omega), pt_ne (by omega), pt_ne (by omega), pt_ne (by omega)]
            exact g2
          · rw [pt_ne (by omega), e1, pt_ne (by omega), pt_ne (by omega), pt_ne (by omega), pt_ne (by omega), pt_ne (by omega), pt_ne (by omega), pt_ne (by decide), rct_at, if_neg (by omega), pt_ne (by decide), pt_ne (by decide), pt_ne (by decide), pt_ne (by decide), pt_ne (by decide), pt_ne (by decide)]
            exact g3 r hr
      · unfold csy
        intro a i ha hi
        simp (disch := omega) only [pt_eq, pt_ne, pt_nk, rct_ne]
        exact h7 a i ha hi
      · obtain ⟨g0, g1, g2, g3, g4, g5, g6, g7, g8, g9, g10⟩ := h9
        refine ⟨fun a ha => ?_, ?_, ?_, ?_, ?_, ?_, ?_, fun i => ?_, fun i => ?_, fun i => ?_, ?_⟩
        · by_cases hap : a = p
          · subst hap
            simp (disch := omega) only [pt_eq, pt_ne, pt_nk, rct_ne]
            exact ⟨b0, by omega, by omega, Nat.le_refl _, Nat.le_refl _, Nat.zero_le _, b6, b7, b8, Or.inl trivial⟩
          · simp (disch := omega) only [pt_eq, pt_ne, pt_nk, rct_ne]
            exact g0 a ha
        · simp (disch := omega) only [pt_eq, pt_ne, pt_nk, rct_ne]
          exact g1
        · simp (disch := omega) only [pt_eq, pt_ne, pt_nk, rct_ne]
          exact g2
        · simp (disch := omega) only [pt_eq, pt_ne, pt_nk, rct_ne]
          exact g3
        · simp (disch := omega) only [pt_eq, pt_ne, pt_nk, rct_ne]
          exact g4
        · simp (disch := omega) only [pt_eq, pt_ne, pt_nk, rct_ne]
          exact g5
        · simp (disch := omega) only [pt_eq, pt_ne, pt_nk, rct_ne]
          exact g6
        · by_cases e : i = 16 * p + (Y 71 p + 1)
          · subst e
            simp (disch := omega) only [pt_eq, pt_ne, pt_nk, rct_ne]
            omega
          · simp (disch := omega) only [pt_eq, pt_ne, pt_nk, rct_ne]
            exact g7 i
        · rw [pt_ne (by decide), rct_at]
          simp (disch := omega) only [pt_ne]
          split
          · split
            · exact b7
            · exact g2 _
          · exact g8 i
        · by_cases e : i = 64 * p + (16 * p + (Y 71 p + 1))
          · rw [pt_eq rfl e]; exact Nat.le_refl _
          · rw [pt_nk e]
            simp (disch := omega) only [pt_ne, rct_ne]
            exact g9 i
        · simp (disch := omega) only [pt_eq, pt_ne, pt_nk, rct_ne]
          exact g10
      · have hL : RLc (csy (pt (pt (pt (pt (pt (pt (pt X (5 + 8 * p) 1 (Y 71 p + 1)) (5 + 8 * p) 2 set) (5 + 8 * p) 4 1) (5 + 8 * p) 3 1) (5 + 8 * p) 5 0) (5 + 8 * p + 5) (Y 71 p + 1) (Y 70 p)) (5 + 8 * p + 6) (Y 71 p + 1) (wc (X (5 + 8 * p) 8) p (Y 77 p))) p p (Y 71 p + 1)) (pt (rct (pt (pt (pt (pt (pt (pt Y 71 p (Y 71 p + 1)) 72 p set) 74 p 1) 75 p 0) 73 p 1) 85 (16 * p + (Y 71 p + 1)) (Y 70 p)) p (16 * p + (Y 71 p + 1)) 4) 87 (64 * p + (16 * p + (Y 71 p + 1))) 1) (fun a _ => cap Y a) := by
          unfold csy
          intro a b ha hb
          simp (disch := omega) only [pt_eq, pt_ne, pt_nk, rct_ne]
          exact h8 a b ha hb
        have hl75 : cap Y p < 75 := by unfold cap; split <;> omega
        have ha := put_all (set := set) (w := 64 + (Y 71 p + 1)) hL hp (fun a b ha _ => hcap a ha) (fun _ _ => hl75) (by omega) 4 (Nat.le_refl _)
        rw [← etr] at ha
        refine ha.mono (fun a b ha hb => ?_)
        by_cases hap : a = p
        · subst hap
          rw [if_pos ⟨rfl, hb⟩]
          simp (disch := omega) only [cap, rpo_ne, pt_eq, pt_ne, pt_nk, rct_ne]
          omega
        · rw [if_neg (fun z => hap z.1)]
          simp (disch := omega) only [cap, rpo_ne, pt_eq, pt_ne, pt_nk, rct_ne]
          exact Nat.le_refl _
  · rw [if_pos c1, if_pos (fun z => c1 ⟨z.1, z.2.1, by have := z.2.2; omega⟩)]
    exact ⟨rfl, hR⟩
theorem rsh_ne {Y : VV} {i c k : Nat} (h : c ≠ 88) : ∀ n, rsh Y i n c k = Y c k
  | 0 => rfl
  | n + 1 => by rw [rsh, pt_ne h, rsh_ne h n]
theorem rsh_at {Y : VV} {i k : Nat} : ∀ n, rsh Y i n 88 k = if 80 * i ≤ k ∧ k < 80 * i + n then Y 88 (k + 1) else Y 88 k
  | 0 => by rw [if_neg (by omega)]; rfl
  | n + 1 => by
    rw [rsh]
    by_cases e : k = 80 * i + n
    · rw [pt_eq rfl e, rsh_at n, if_neg (by omega), if_pos (by omega), e]
    · rw [pt_nk e, rsh_at n]
      by_cases z : 80 * i ≤ k ∧ k < 80 * i + n
      · rw [if_pos z, if_pos (by omega)]
      · rw [if_neg z, if_neg (by omega)]
theorem crn_ne {X : VV} {q v r c k : Nat} (h : c ≠ 5 + 8 * q + 1) : ∀ n, crn X q v r n c k = X c k
  | 0 => rfl
  | n + 1 => by rw [crn, cln, pt_ne h, crn_ne h n]
theorem crl_ne {X : VV} {q v cut c k : Nat} (h : c ≠ 5 + 8 * q + 1) : ∀ r, crl X q v cut r c k = X c k
  | 0 => rfl
  | r + 1 => by rw [crl, crn_ne h, crl_ne h r]
theorem rkn_ne {Y : VV} {b c k : Nat} (h : c ≠ 84) : ∀ n, rkn Y b n c k = Y c k
  | 0 => rfl
  | n + 1 => by rw [rkn, pt_ne h, rkn_ne h n]
theorem rkl_ne {Y : VV} {q s c k : Nat} (h : c ≠ 84) : ∀ n, rkl Y q s n c k = Y c k
  | 0 => rfl
  | n + 1 => by rw [rkl, rkn_ne h, rkl_ne h n]
theorem rkn_le {Y : VV} (h : ∀ i, Y 84 i ≤ 1) {b : Nat} : ∀ n i, rkn Y b n 84 i ≤ 1
  | 0, i => h i
  | n + 1, i => by
    rw [rkn]
    by_cases e : i = b + n
    · rw [pt_eq rfl e]; exact Nat.le_refl _
    · rw [pt_nk e]; exact rkn_le h n i
theorem rkl_le {Y : VV} (h : ∀ i, Y 84 i ≤ 1) {q s : Nat} : ∀ n i, rkl Y q s n 84 i ≤ 1
  | 0, i => h i
  | n + 1, i => by rw [rkl]; exact rkn_le (rkl_le h n) _ i
theorem rk_n {X Y : VV} (h : RK X Y) {q v r : Nat} (hq : q < 4) (hv : v < 16) (hr : r < 4) : ∀ n, n ≤ 4 → RK (crn X q v r n) (rkn Y (256 * q + 16 * v + 4 * r) n)
  | 0, _ => h
  | n + 1, hn => by
    rw [crn, rkn]
    exact rk_learn (rk_n h hq hv hr n (by omega)) hq hv hr (by omega)
theorem rk_l {X Y : VV} (h : RK X Y) {q s cut : Nat} (hq : q < 4) (hv : Y 85 s < 16) (hc : ∀ r, r < 4 → cnt cut r = Y 86 (4 * s + r)) (h4 : ∀ i, Y 86 i ≤ 4) : ∀ r, r ≤ 4 → RK (crl X q (Y 85 s) cut r) (rkl Y q s r)
  | 0, _ => h
  | r + 1, hr => by
    rw [crl, rkl, hc r (by omega)]
    exact rk_n (rk_l h hq hv hc h4 r (by omega)) hq hv (by omega) _ (h4 _)
theorem sim_take {X Y : VV} (h : Rel X Y) {p q : Nat} (hp : p < 4) (hq : q < 4) (hne : X (37 + 2 * (p * 4 + q)) 1 < X (37 + 2 * (p * 4 + q)) 2) : Rel (pt X (37 + 2 * (p * 4 + q)) 1 (X (37 + 2 * (p * 4 + q)) 1 + 1)) (rsh (pt Y 89 (4 * p + q) (Y 89 (4 * p + q) - 1)) (4 * p + q) (Y 89 (4 * p + q) - 1)) := by
  have hcap := fun a (ha : a < 4) => cap_le h.2.2.2.2.2.2.2.2 ha
  obtain ⟨h1, h2, h3, h4, h5, h6, h7, h8, h9⟩ := h
  refine Rel.mk2 (A := X) (B := Y) ⟨h1, h2, h3, h4, h5, h6, h7, h9⟩ (fun c k hc => pt_ne (by omega)) (fun c k _ z1 z2 => by rw [rsh_ne z1, pt_ne z2]) ?_
  intro a b ha hb
  obtain ⟨f1, f2, f3, f4⟩ := h8 a b ha hb
  obtain ⟨e1, e2, e3, e4⟩ := h8 p q hp hq
  have hca := hcap a ha
  have hcp := hcap p hp
  have hcc : cap (rsh (pt Y 89 (4 * p + q) (Y 89 (4 * p + q) - 1)) (4 * p + q) (Y 89 (4 * p + q) - 1)) a = cap Y a := by
    simp (disch := omega) only [cap, rsh_ne, pt_ne]
  dsimp only
  rw [hcc]
  by_cases hab : a = p ∧ b = q
  · obtain ⟨rfl, rfl⟩ := hab
    rw [pt_eq rfl rfl, pt_nk (by decide)]
    refine ⟨by omega, f2, ?_, fun k k1 k2 => ?_⟩
    · rw [rsh_ne (by decide), pt_eq rfl rfl]; omega
    · rw [pt_ne (by omega), rsh_at, if_pos (by omega), pt_ne (by decide)]
      have := f4 k (by omega) k2
      rw [show 80 * (4 * a + b) + (k - (X (37 + 2 * (a * 4 + b)) 1 + 1)) + 1 = 80 * (4 * a + b) + (k - X (37 + 2 * (a * 4 + b)) 1) by omega]
      exact this
  · have hne2 : a * 4 + b ≠ p * 4 + q := by omega
    rw [pt_ne (by omega), pt_ne (by omega)]
    refine ⟨f1, f2, ?_, fun k k1 k2 => ?_⟩
    · rw [rsh_ne (by decide), pt_nk (by omega)]; exact f3
    · rw [pt_ne (by omega), rsh_at, if_neg (by omega), pt_ne (by decide)]
      exact f4 k k1 k2
theorem sim_carry {X Y : VV} (h : Rel X Y) {p q : Nat} (hp : p < 4) (hq : q < 4) : (cCarry X p q).1 = (rCarry Y p q).1 ∧ Rel (cCarry X p q).2 (rCarry Y p q).2 := by
  have hR := h
  obtain ⟨h1, h2, h3, h4, h5, h6, h7, h8, h9⟩ := h
  obtain ⟨e1, e2, e3, e4⟩ := h8 p q hp hq
  unfold cCarry rCarry
  by_cases c1 : X (37 + 2 * (p * 4 + q)) 2 ≤ X (37 + 2 * (p * 4 + q)) 1
  · rw [if_pos c1, if_pos (by omega)]
    exact ⟨rfl, hR⟩
  · rw [if_neg c1, if_neg (show ¬ Y 89 (4 * p + q) = 0 by omega)]
    have ht := sim_take hR hp hq (by omega)
    obtain ⟨w1, w2⟩ := e4 (X (37 + 2 * (p * 4 + q)) 1) (Nat.le_refl _) (by omega)
    simp only [Nat.sub_self, Nat.add_zero] at w2
    have t85 : ∀ k, rsh (pt Y 89 (4 * p + q) (Y 89 (4 * p + q) - 1)) (4 * p + q) (Y 89 (4 * p + q) - 1) 85 k = Y 85 k := fun k => by rw [rsh_ne (by decide), pt_ne (by decide)]
    have x5 : ∀ c k, c < 37 → pt X (37 + 2 * (p * 4 + q)) 1 (X (37 + 2 * (p * 4 + q)) 1 + 1) c k = X c k := fun c k hc => pt_ne (by omega)
    generalize X (37 + 2 * (p * 4 + q) + 1) (X (37 + 2 * (p * 4 + q)) 1) = w at w1 w2 ⊢
    rw [← w2]
    generalize pt X (37 + 2 * (p * 4 + q)) 1 (X (37 + 2 * (p * 4 + q)) 1 + 1) = U at ht x5 ⊢
    generalize rsh (pt Y 89 (4 * p + q) (Y 89 (4 * p + q) - 1)) (4 * p + q) (Y 89 (4 * p + q) - 1) = Z at ht t85 ⊢
    obtain ⟨g1, g2, g3, g4, g5, g6, g7, g8, g9⟩ := ht
    by_cases c2 : w < 64
    · have etr : tr p w = 16 * (w / 4) + 4 * p + w % 4 := by unfold tr; rw [if_pos c2]
      rw [if_pos c2, if_pos (by omega), etr, show 256 * q + (16 * (w / 4) + 4 * p + w % 4) = 256 * q + 16 * (w / 4) + 4 * p + w % 4 by omega]
      have hk := rk_learn g3 hq (v := w / 4) (by omega) hp (n := w % 4) (by omega)
      refine ⟨rfl, ?_, ?_, hk, ?_, ?_, ?_, ?_, ?_, ?_⟩
      · unfold cln
        intro a ha
        simp (disch := omega) only [pt_eq, pt_ne, pt_nk]
        exact g1 a ha
      · unfold cln
        refine ⟨?_, fun v hv => ?_, fun v b hv hb => ?_⟩ <;> simp (disch := omega) only [pt_eq, pt_ne, pt_nk]
        · exact g2.1
        · exact g2.2.1 v hv
        · exact g2.2.2 v b hv hb
      · unfold cln
        intro a r ha hr
        simp (disch := omega) only [pt_eq, pt_ne, pt_nk]
        exact g4 a r ha hr
      · unfold cln
        intro a v n ha hv hn
        simp (disch := omega) only [pt_eq, pt_ne, pt_nk]
        exact g5 a v n ha hv hn
      · unfold cln
        intro a c ha hc
        simp (disch := omega) only [pt_eq, pt_ne, pt_nk]
        exact g6 a c ha hc
      · unfold cln
        intro a i ha hi
        simp (disch := omega) only [pt_eq, pt_ne, pt_nk]
        exact g7 a i ha hi
      · unfold cln
        intro a b ha hb
        simp (disch := omega) only [cap, pt_eq, pt_ne, pt_nk]
        exact g8 a b ha hb
      · obtain ⟨i0, i1, i2, i3, i4, i5, i6, i7⟩ := g9
        refine ⟨?_, ?_, ?_, ?_, ?_, ?_, fun i => ?_, ?_⟩
        · simp (disch := omega) only [pt_eq, pt_ne, pt_nk]
          exact i0
        · simp (disch := omega) only [pt_eq, pt_ne, pt_nk]
          exact i1
        · simp (disch := omega) only [pt_eq, pt_ne, pt_nk]
          exact i2
        · simp (disch := omega) only [pt_eq, pt_ne, pt_nk]
          exact i3
        · simp (disch := omega) only [pt_eq, pt_ne, pt_nk]
          exact i4
        · simp (disch := omega) only [pt_eq, pt_ne, pt_nk]
          exact i5
        · show pt Z 84 (256 * q + 16 * (w / 4) + 4 * p + w % 4) 1 84 i ≤ 1
          by_cases e : i = 256 * q + 16 * (w / 4) + 4 * p + w % 4
          · rw [pt_eq rfl e]; exact Nat.le_refl _
          · rw [pt_nk e]; exact i6 i
        · simp (disch := omega) only [pt_eq, pt_ne, pt_nk]
          exact i7
    · have etr : tr p w = 256 + (16 * p + (w - 64)) := by unfold tr; rw [if_neg c2]
      have e16 : w - 64 < 16 := by omega
      rw [if_neg c2, if_neg (by omega), etr, show 256 + (16 * p + (w - 64)) - 256 = 16 * p + (w - 64) by omega]
      generalize w - 64 = c at e16 ⊢
      obtain ⟨f1, f2, f3⟩ := g6 p c hp e16
      rw [t85] at f1
      have hk := rh_learn g4 hq hp e16
      rw [show 64 * q + 16 * p + c = 64 * q + (16 * p + c) by omega] at hk
      have hmid : RS (csy U q p c) (pt Z 87 (64 * q + (16 * p + c)) 1) ∧ RG (csy U q p c) (pt Z 87 (64 * q + (16 * p + c)) 1) ∧ RK (csy U q p c) (pt Z 87 (64 * q + (16 * p + c)) 1) ∧ RH (csy U q p c) (pt Z 87 (64 * q + (16 * p + c)) 1) ∧ RM (csy U q p c) (pt Z 87 (64 * q + (16 * p + c)) 1) ∧ RC (csy U q p c) (pt Z 87 (64 * q + (16 * p + c)) 1) ∧ RE (csy U q p c) (pt Z 87 (64 * q + (16 * p + c)) 1) ∧ RL (csy U q p c) (pt Z 87 (64 * q + (16 * p + c)) 1) ∧ BD (pt Z 87 (64 * q + (16 * p + c)) 1) := by
        refine ⟨?_, ?_, ?_, hk, ?_, ?_, ?_, ?_, ?_⟩
        · unfold csy
          intro a ha
          simp (disch := omega) only [pt_eq, pt_ne, pt_nk]
          exact g1 a ha
        · unfold csy
          refine ⟨?_, fun v hv => ?_, fun v b hv hb => ?_⟩ <;> simp (disch := omega) only [pt_eq, pt_ne, pt_nk]
          · exact g2.1
          · exact g2.2.1 v hv
          · exact g2.2.2 v b hv hb
        · unfold csy
          intro a v r ha hv hr
          simp (disch := omega) only [pt_eq, pt_ne, pt_nk]
          exact g3 a v r ha hv hr
        · unfold csy
          intro a v n ha hv hn
          simp (disch := omega) only [pt_eq, pt_ne, pt_nk]
          exact g5 a v n ha hv hn
        · unfold csy
          intro a c ha hc
          simp (disch := omega) only [pt_eq, pt_ne, pt_nk]
          exact g6 a c ha hc
        · unfold csy
          intro a i ha hi
          simp (disch := omega) only [pt_eq, pt_ne, pt_nk]
          exact g7 a i ha hi
        · unfold csy
          intro a b ha hb
          simp (disch := omega) only [cap, pt_eq, pt_ne, pt_nk]
          exact g8 a b ha hb
        · obtain ⟨i0, i1, i2, i3, i4, i5, i6, i7, i8, i9, i10⟩ := g9
          refine ⟨?_, ?_, ?_, ?_, ?_, ?_, ?_, ?_, ?_, fun i => ?_, ?_⟩
          · simp (disch := omega) only [pt_eq, pt_ne, pt_nk]
            exact i0
          · simp (disch := omega) only [pt_eq, pt_ne, pt_nk]
            exact i1
          · simp (disch := omega) only [pt_eq, pt_ne, pt_nk]
            exact i2
          · simp (disch := omega) only [pt_eq, pt_ne, pt_nk]
            exact i3
          · simp (disch := omega) only [pt_eq, pt_ne, pt_nk]
            exact i4
          · simp (disch := omega) only [pt_eq, pt_ne, pt_nk]
            exact i5
          · simp (disch := omega) only [pt_eq, pt_ne, pt_nk]
            exact i6
          · simp (disch := omega) only [pt_eq, pt_ne, pt_nk]
            exact i7
          · simp (disch := omega) only [pt_eq, pt_ne, pt_nk]
            exact i8
          · by_cases e : i = 64 * q + (16 * p + c)
            · rw [pt_eq rfl e]; exact Nat.le_refl _
            · rw [pt_nk e]; exact i9 i
          · simp (disch := omega) only [pt_eq, pt_ne, pt_nk]
            exact i10
      unfold crs
      rw [f1]
      by_cases c3 : Y 85 (16 * p + c) = 0
      · rw [if_pos c3, if_pos c3]
        exact ⟨rfl, hmid⟩
      · rw [if_neg c3, if_neg c3]
        obtain ⟨j1, j2, j3, j4, j5, j6, j7, j8, j9⟩ := hmid
        have e85 : pt Z 87 (64 * q + (16 * p + c)) 1 85 (16 * p + c) = Y 85 (16 * p + c) := by rw [pt_ne (by decide), t85]
        have hl := rk_l j3 (s := 16 * p + c) (cut := U (5 + 8 * p + 6) c) hq (by rw [e85]; have := j9.2.2.2.2.2.2.2.1 (16 * p + c); rw [e85] at this; omega) (fun r hr => by rw [pt_ne (by decide)]; exact f3 r hr) (fun i => by rw [pt_ne (by decide)]; exact g9.2.2.2.2.2.2.2.2.1 i) 4 (Nat.le_refl _)
        rw [e85] at hl
        refine ⟨rfl, ?_, ?_, hl, ?_, ?_, ?_, ?_, ?_, ?_⟩
        · intro a ha
          simp (disch := omega) only [crl_ne, rkl_ne]
          exact j1 a ha
        · refine ⟨?_, fun v hv => ?_, fun v b hv hb => ?_⟩ <;> simp (disch := omega) only [crl_ne, rkl_ne]
          · exact j2.1
          · exact j2.2.1 v hv
          · exact j2.2.2 v b hv hb
        · intro a r ha hr
          simp (disch := omega) only [crl_ne, rkl_ne]
          exact j4 a r ha hr
        · intro a v n ha hv hn
          simp (disch := omega) only [crl_ne, rkl_ne]
          exact j5 a v n ha hv hn
        · intro a c ha hc
          simp (disch := omega) only [crl_ne, rkl_ne]
          exact j6 a c ha hc
        · intro a i ha hi
          simp (disch := omega) only [crl_ne, rkl_ne]
          exact j7 a i ha hi
        · intro a b ha hb
          simp (disch := omega) only [cap, crl_ne, rkl_ne]
          exact j8 a b ha hb
        · obtain ⟨i0, i1, i2, i3, i4, i5, i6, i7⟩ := j9
          refine ⟨?_, ?_, ?_, ?_, ?_, ?_, fun i => rkl_le i6 4 i, ?_⟩ <;> simp (disch := omega) only [rkl_ne]
          · exact i0
          · exact i1
          · exact i2
          · exact i3
          · exact i4
          · exact i5
          · exact i7
