theorem k_bipush_31 : (Int8.ofInt 31).toInt32 = nI 31 := by decide +kernel
set_option maxRecDepth 100000 in
set_option maxHeartbeats 4000000 in
theorem law_loop {p : Program} {l : Launch} {e : Env} {s : State} {m : MethodId} {below : List Frame} {meth : Method} {c : Code} {D : va_G} {ct : Nat → ClassId} {ad : Nat → Nat} {b L : Nat} {xs : Nat → Int32} {Q : State → Prop} (C : LC p s m c D ct ad b L xs) (fin : ∀ (V : VV) (t : Nat), G p l e room_1 s m #[Value.ref b] below meth c D vcl (fun q => s.heap.size ≤ q) 91 6692 Q (gw ad ct V) [some (.ref b), some (.ref (ad 0)), some (.ref (ad 69)), some (.int (nI (3 * t)))] 603 []) : ∀ (d t : Nat) (V : VV), L + 3 - 3 * t ≤ d → 3 * t ≤ L → Rel V V → G p l e room_1 s m #[Value.ref b] below meth c D vcl (fun q => s.heap.size ≤ q) 91 6692 Q (gw ad ct V) [some (.ref b), some (.ref (ad 0)), some (.ref (ad 69)), some (.int (nI (3 * t)))] 18 []
  | 0, t, V, hd, ht, h => by omega
  | d + 1, t, V, hd, ht, h => by
    obtain ⟨hx, hb, hml, hown, hts, hK, had, hAd, hX, hbl, hL⟩ := id C
    have hbA : ¬ (fun q => s.heap.size ≤ q) b := Nat.not_le.mpr hbl
    refine g_iload_n hx hb d_LW_law_18 rfl rfl ?_
    refine g_aload_n hx hb d_LW_law_19 rfl rfl ?_
    refine g_slen hx hb hX hbl hbA d_LW_law_20 ?_
    refine g_iconst hx hb d_LW_law_21 k_iconst_3 ?_
    refine g_isub hx hb d_LW_law_22 ?_
    refine g_icmp_gt (tgt := 603) hx hb d_LW_law_23 (by decide) (fun _ => fin V t) (fun hgt => ?_)
    have ht3 : 3 * t + 3 ≤ L := Nat.not_lt.mp (fun z => hgt ((q_le3 (by omega) (by omega)).mpr z))
    have cont : ∀ V', Rel V' V' → G p l e room_1 s m #[Value.ref b] below meth c D vcl (fun q => s.heap.size ≤ q) 91 6692 Q (gw ad ct V') [some (.ref b), some (.ref (ad 0)), some (.ref (ad 69)), some (.int (nI (3 * t)))] 597 [] := fun V' h' => by
      refine g_iinc (L' := [_, _, _, _]) (v := nI (3 * (t + 1))) hx hb d_LW_law_597 rfl (by rw [show Int32.ofInt 3 = nI 3 by decide +kernel, nI_add]; exact congrArg nI (by omega)) rfl ?_
      refine g_goto (tgt := 18) hx hb d_LW_law_600 (by decide) ?_
      exact law_loop C fin d (t + 1) V' (by omega) (by omega) h'
    refine g_aload_n hx hb d_LW_law_26 rfl rfl ?_
    refine g_iload_n hx hb d_LW_law_27 rfl rfl ?_
    refine g_sld hx hb hX hbl hbA (by omega) (by omega) d_LW_law_28 ?_
    refine g_bipush hx hb d_LW_law_29 k_bipush_31 ?_
    refine n_iand hx hb d_LW_law_31 ?_
    have hc32 : cd (xs (3 * t)) &&& 31 < 32 := Nat.lt_of_le_of_lt Nat.and_le_right (by decide)
    generalize cd (xs (3 * t)) &&& 31 = z at hc32 ⊢
    by_cases hz : z ≤ 16
    · have hcase : z = 0 ∨ z = 1 ∨ z = 2 ∨ z = 3 ∨ z = 4 ∨ z = 5 ∨ z = 6 ∨ z = 7 ∨ z = 8 ∨ z = 9 ∨ z = 10 ∨ z = 11 ∨ z = 12 ∨ z = 13 ∨ z = 14 ∨ z = 15 ∨ z = 16 := by omega
      rcases hcase with rfl | rfl | rfl | rfl | rfl | rfl | rfl | rfl | rfl | rfl | rfl | rfl | rfl | rfl | rfl | rfl | rfl
      · refine g_tableIn (off := 84) (tgt := 116) hx hb d_LW_law_32 (by decide +kernel) (by decide +kernel) (by decide +kernel) (by decide) ?_
        exact case_0 C h ht3 cont
      · refine g_tableIn (off := 117) (tgt := 149) hx hb d_LW_law_32 (by decide +kernel) (by decide +kernel) (by decide +kernel) (by decide) ?_
        exact case_1 C h ht3 cont
      · refine g_tableIn (off := 150) (tgt := 182) hx hb d_LW_law_32 (by decide +kernel) (by decide +kernel) (by decide +kernel) (by decide) ?_
        exact case_2 C h ht3 cont
      · refine g_tableIn (off := 173) (tgt := 205) hx hb d_LW_law_32 (by decide +kernel) (by decide +kernel) (by decide +kernel) (by decide) ?_
        exact case_3 C h ht3 cont
      · refine g_tableIn (off := 206) (tgt := 238) hx hb d_LW_law_32 (by decide +kernel) (by decide +kernel) (by decide +kernel) (by decide) ?_
        exact case_4 C h ht3 cont
      · refine g_tableIn (off := 239) (tgt := 271) hx hb d_LW_law_32 (by decide +kernel) (by decide +kernel) (by decide +kernel) (by decide) ?_
        exact case_5 C h ht3 cont
      · refine g_tableIn (off := 262) (tgt := 294) hx hb d_LW_law_32 (by decide +kernel) (by decide +kernel) (by decide +kernel) (by decide) ?_
        exact case_6 C h ht3 cont
      · refine g_tableIn (off := 295) (tgt := 327) hx hb d_LW_law_32 (by decide +kernel) (by decide +kernel) (by decide +kernel) (by decide) ?_
        exact case_7 C h ht3 cont
      · refine g_tableIn (off := 318) (tgt := 350) hx hb d_LW_law_32 (by decide +kernel) (by decide +kernel) (by decide +kernel) (by decide) ?_
        exact case_8 C h ht3 cont
      · refine g_tableIn (off := 341) (tgt := 373) hx hb d_LW_law_32 (by decide +kernel) (by decide +kernel) (by decide +kernel) (by decide) ?_
        exact case_9 C h ht3 cont
      · refine g_tableIn (off := 374) (tgt := 406) hx hb d_LW_law_32 (by decide +kernel) (by decide +kernel) (by decide +kernel) (by decide) ?_
        exact case_10 C h ht3 cont
      · refine g_tableIn (off := 397) (tgt := 429) hx hb d_LW_law_32 (by decide +kernel) (by decide +kernel) (by decide +kernel) (by decide) ?_
        exact case_11 C h ht3 cont
      · refine g_tableIn (off := 420) (tgt := 452) hx hb d_LW_law_32 (by decide +kernel) (by decide +kernel) (by decide +kernel) (by decide) ?_
        exact case_12 C h ht3 cont
      · refine g_tableIn (off := 443) (tgt := 475) hx hb d_LW_law_32 (by decide +kernel) (by decide +kernel) (by decide +kernel) (by decide) ?_
        exact case_13 C h ht3 cont
      · refine g_tableIn (off := 466) (tgt := 498) hx hb d_LW_law_32 (by decide +kernel) (by decide +kernel) (by decide +kernel) (by decide) ?_
        exact case_14 C h ht3 cont
      · refine g_tableIn (off := 499) (tgt := 531) hx hb d_LW_law_32 (by decide +kernel) (by decide +kernel) (by decide +kernel) (by decide) ?_
        exact case_15 C h ht3 cont
      · refine g_tableIn (off := 532) (tgt := 564) hx hb d_LW_law_32 (by decide +kernel) (by decide +kernel) (by decide +kernel) (by decide) ?_
        exact case_16 C h ht3 cont
    · refine g_tableOut (tgt := 597) hx hb d_LW_law_32 (Or.inr (by rw [nI_toInt (by omega)]; omega)) (by decide) ?_
      exact cont V h
