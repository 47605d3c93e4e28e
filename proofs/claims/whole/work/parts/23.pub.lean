theorem q_nm1 {n : Nat} (h : n < 2 ^ 31) : ¬ nI n = -1 := fun z => by
  have := nI_pos h
  rw [z] at this
  exact this (by decide)
theorem n0_eq : nI 0 = 0 := by decide +kernel
theorem n1_eq : nI 1 = 1 := by decide +kernel
theorem n2_eq : nI 2 = 2 := by decide +kernel
theorem cfo_ne {X : VV} {set n c k : Nat} (h : c ≠ 4) (h2 : ∀ j, j < 4 → c ≠ 5 + 8 * j) : ∀ {q : Nat}, q ≤ 4 → cfo X set n q c k = X c k
  | 0, _ => rfl
  | q + 1, hq => by
    rw [cfo]
    split
    · rw [pt_ne (h2 q (by omega)), pt_ne h, cfo_ne h h2 (by omega)]
    · exact cfo_ne h h2 (by omega)
set_option maxRecDepth 100000 in
set_option maxHeartbeats 4000000 in
theorem ct_GV_send (l : Launch) (D : va_G) (ad : Nat → Nat) (ct : Nat → ClassId) (had : adOk ad) (V : VV) (n x : Nat) (h1 : n < 2 ^ 32) (hcb : CB V) : CTi l y_GV_send (mw y_GV_send c_GV_send 5 (some .int)) { frames := 2, cells := 0, slots := 0, locals := 45 } (gK D ct) D vcl (gA ad) [.ref (ad 0), .int (nI n), .int (nI x)] (gw ad ct V) (fun r w => (¬ n < 4 ∧ r = -1 ∧ w = gw ad ct V) ∨ (n < 4 ∧ r = (cSend V n x).1 ∧ w = gw ad ct (cSend V n x).2)) := by
  refine ct_i (by decide) rfl rfl (Nat.le_of_ble_eq_true rfl) ?_
  intro pg en sx mx blw mth cdx hx hb hr hts hown hlk hml hK
  refine g_L (L' := [_, _, _, _, _]) rfl ?_
  refine g_iload_n hx hb d_GV_send_0 rfl rfl ?_
  refine g_callSi (nn := 1) ⟨hx, hb, hml.trans rfl, hown, hts⟩ (ct_GV_isProcess l D ad ct had _ _ (by omega)) (mk_S hts t_119 t_120 t_1 t_121 rfl rfl (by decide +kernel) ⟨Nat.le_of_ble_eq_true rfl, Nat.le_of_ble_eq_true rfl⟩) (fun _ h => h) (gK_ok D ct) hK (Nat.le_of_ble_eq_true rfl) ⟨Nat.zero_le _, Nat.zero_le _⟩ rfl rfl d_GV_send_1 ?_
  rintro _ _ ⟨rfl, rfl⟩
  refine n_if_ne (tgt := 9) hx hb d_GV_send_4 (by decide) bN_lt (fun hn => ?_) (fun hn => ?_)
  · have hn := bN_n0.mp hn
    have hpa := hcb.p n hn
    have hde := hpa.2.2.2.2.2.2.2.2
    refine g_aload_n hx hb d_GV_send_9 rfl rfl ?_
    refine g_get hx hb hts (in_mw in_GV) hown hK.1 w_0 rfl 0 (by decide) (hts _ (List.mem_cons_of_mem _ t_99)) rfl d_GV_send_10 ?_
    refine g_iload_n hx hb d_GV_send_13 rfl rfl ?_
    refine g_aald hx hb hK.1 w_1 2 rfl hn (by decide) (fP hn) d_GV_send_14 ?_
    refine g_astore_n (L' := [_, _, _, _, _]) hx hb d_GV_send_15 rfl (Nat.le_of_ble_eq_true rfl) rfl ?_
    refine g_aload_n hx hb d_GV_send_16 rfl rfl ?_
    refine g_getN hx hb hts (in_mw in_PS) hown hK.1 (w_P hn) rfl 4 (by decide) (nst_use hK nw_29 _) rfl d_GV_send_17 ?_
    refine n_if_eq (tgt := 26) hx hb d_GV_send_20 (by decide) (by omega) (fun hbl => ?_) (fun hbl => ?_)
    · refine g_aload_n hx hb d_GV_send_26 rfl rfl ?_
      refine g_getN hx hb hts (in_mw in_PS) hown hK.1 (w_P hn) rfl 7 (by decide) (nst_use hK nw_34 _) rfl d_GV_send_27 ?_
      refine g_iconst hx hb d_GV_send_30 k_iconst_4 ?_
      refine n_icmp_lt (tgt := 37) hx hb d_GV_send_31 (by decide) (by omega) (by omega) (fun hse => ?_) (fun hse => ?_)
      · refine g_aload_n hx hb d_GV_send_37 rfl rfl ?_
        refine g_dup hx hb d_GV_send_38 rfl ?_
        refine g_getN hx hb hts (in_mw in_PS) hown hK.1 (w_P hn) rfl 7 (by decide) (nst_use hK nw_34 _) rfl d_GV_send_39 ?_
        refine g_iconst hx hb d_GV_send_42 k_iconst_1 ?_
        refine n_iadd hx hb d_GV_send_43 ?_
        refine g_putN (ty := .int) hx hb hts (in_mw in_PS) ty_PS tyo_PS nm_PS hown hK.1 (gw_D had) (w_P hn) rfl 7 (by decide) (nst_use hK nw_34 _) rfl (by decide +kernel) rfl rfl (Nat.le_of_ble_eq_true rfl) d_GV_send_44 (s_P hn 7 _ (by decide)) ?_
        refine g_aload_n hx hb d_GV_send_47 rfl rfl ?_
        refine g_getN hx hb hts (in_mw in_PS) hown hK.1 (w_P hn) rfl 0 (by decide) (nst_use hK nw_24 _) rfl d_GV_send_48 ?_
        refine g_val (show nI _ = nI (V (5 + 8 * n) 0) from congrArg nI (by simp (disch := omega) only [pt_eq, pt_ne, pt_nk])) ?_
        refine g_aload_n hx hb d_GV_send_51 rfl rfl ?_
        refine g_getN hx hb hts (in_mw in_PS) hown hK.1 (w_P hn) rfl 7 (by decide) (nst_use hK nw_34 _) rfl d_GV_send_52 ?_
        refine g_val (show nI _ = nI ((V (5 + 8 * n) 7) + 1) from congrArg nI (by simp (disch := omega) only [pt_eq, pt_ne, pt_nk])) ?_
        refine g_callSi (nn := 2) ⟨hx, hb, hml.trans rfl, hown, hts⟩ (ct_GV_slotOf l D ad ct had _ _ _ (by omega)) (mk_S hts t_122 t_123 t_1 t_124 rfl rfl (by decide +kernel) ⟨Nat.le_of_ble_eq_true rfl, Nat.le_of_ble_eq_true rfl⟩) (fun _ h => h) (gK_ok D ct) hK (Nat.le_of_ble_eq_true rfl) ⟨Nat.zero_le _, Nat.zero_le _⟩ rfl rfl d_GV_send_55 ?_
        rintro _ _ ⟨rfl, rfl⟩
        refine g_val (show nI _ = nI (V (5 + 8 * n) 0 * 4 + V (5 + 8 * n) 7) from congrArg nI (by omega)) ?_
        refine g_istore (L' := [_, _, _, _, _]) hx hb d_GV_send_58 (Nat.le_of_ble_eq_true rfl) rfl ?_
        refine g_aload_n hx hb d_GV_send_60 rfl rfl ?_
        refine g_getN hx hb hts (in_mw in_PS) hown hK.1 (w_P hn) rfl 11 (by decide) (nst_use hK nw_41 _) rfl d_GV_send_61 ?_
        refine g_iload hx hb d_GV_send_64 rfl ?_
        refine g_iload_n hx hb d_GV_send_66 rfl rfl ?_
        refine g_iast hx hb hK.1 (gw_D had) (w_Pa (k := 3) hn (by decide) (by decide)) 0 rfl (show _ < 64 by omega) (by decide) d_GV_send_67 (s_Pa (k := 3) hn (by decide) (by decide) _ _) ?_
        refine g_aload_n hx hb d_GV_send_68 rfl rfl ?_
        refine g_getN hx hb hts (in_mw in_PS) hown hK.1 (w_P hn) rfl 12 (by decide) (nst_use hK nw_43 _) rfl d_GV_send_69 ?_
        refine g_iload hx hb d_GV_send_72 rfl ?_
        refine g_aload_n hx hb d_GV_send_74 rfl rfl ?_
        refine g_getN hx hb hts (in_mw in_PS) hown hK.1 (w_P hn) rfl 8 (by decide) (nst_use hK nw_36 _) rfl d_GV_send_75 ?_
        refine g_val (show nI _ = nI (V (5 + 8 * n) 8) from congrArg nI (by simp (disch := omega) only [pt_eq, pt_ne, pt_nk])) ?_
        refine g_iload_n hx hb d_GV_send_78 rfl rfl ?_
        refine g_iconst hx hb d_GV_send_79 k_iconst_0 ?_
        refine g_callSi (nn := 3) ⟨hx, hb, hml.trans rfl, hown, hts⟩ (ct_GV_withCount l D ad ct had _ _ _ _ hde hn (by omega)) (mk_S hts t_125 t_126 t_1 t_127 rfl rfl (by decide +kernel) ⟨Nat.le_of_ble_eq_true rfl, Nat.le_of_ble_eq_true rfl⟩) (fun _ h => h) (gK_ok D ct) hK (Nat.le_of_ble_eq_true rfl) ⟨Nat.zero_le _, Nat.zero_le _⟩ rfl rfl d_GV_send_80 ?_
        rintro _ _ ⟨rfl, rfl⟩
        refine g_iast hx hb hK.1 (gw_D had) (w_Pa (k := 4) hn (by decide) (by decide)) 0 rfl (show _ < 64 by omega) (by decide) d_GV_send_83 (s_Pa (k := 4) hn (by decide) (by decide) _ _) ?_
        refine g_aload_n hx hb d_GV_send_84 rfl rfl ?_
        refine g_aload_n hx hb d_GV_send_85 rfl rfl ?_
        refine g_getN hx hb hts (in_mw in_PS) hown hK.1 (w_P hn) rfl 0 (by decide) (nst_use hK nw_24 _) rfl d_GV_send_86 ?_
        refine g_val (show nI _ = nI (V (5 + 8 * n) 0) from congrArg nI (by simp (disch := omega) only [pt_eq, pt_ne, pt_nk])) ?_
        refine g_iload_n hx hb d_GV_send_89 rfl rfl ?_
        refine g_aload_n hx hb d_GV_send_90 rfl rfl ?_
        refine g_getN hx hb hts (in_mw in_PS) hown hK.1 (w_P hn) rfl 7 (by decide) (nst_use hK nw_34 _) rfl d_GV_send_91 ?_
        refine g_val (show nI _ = nI ((V (5 + 8 * n) 7) + 1) from congrArg nI (by simp (disch := omega) only [pt_eq, pt_ne, pt_nk])) ?_
        refine g_callVNv (C := "GroupViews$ProcessState") (nn := 3) ⟨hx, hb, hml.trans rfl, hown, hts⟩ (ct_PS_learnMessage l D ad ct had _ _ _ _ _ hn (by omega) (by omega)) (mk_VN hK hts nw_128 t_130 ts_PS_learnMessage t_2 t_131 rfl rfl (by decide +kernel) ⟨Nat.le_of_ble_eq_true rfl, Nat.le_of_ble_eq_true rfl⟩) hK.1 rfl (w_P hn) rfl (fun _ h => h) (gK_ok D ct) hK (Nat.le_of_ble_eq_true rfl) ⟨Nat.zero_le _, Nat.zero_le _⟩ rfl rfl d_GV_send_94 ?_
        rintro _ rfl
        refine g_aload_n hx hb d_GV_send_97 rfl rfl ?_
        refine g_iload_n hx hb d_GV_send_98 rfl rfl ?_
        refine g_aload_n hx hb d_GV_send_99 rfl rfl ?_
        refine g_iload_n hx hb d_GV_send_100 rfl rfl ?_
        refine g_callVi (C := "GroupViews") (nn := 1) ⟨hx, hb, hml.trans rfl, hown, hts⟩ (ct_GV_presentSet l D ad ct had _ _ hn (by unfold cln; simp (disch := omega) only [pt_eq, pt_ne, pt_nk]; omega)) (mk_V hts t_132 t_134 ts_GV_presentSet t_1 t_135 rfl rfl (by decide +kernel) ⟨Nat.le_of_ble_eq_true rfl, Nat.le_of_ble_eq_true rfl⟩) hK.1 rfl w_0 rfl (fun _ h => h) (gK_ok D ct) hK (Nat.le_of_ble_eq_true rfl) ⟨Nat.zero_le _, Nat.zero_le _⟩ rfl rfl d_GV_send_101 ?_
        rintro _ _ ⟨rfl, rfl⟩
        refine g_val (show nI _ = nI (cps V n) from congrArg nI (by unfold cps cln; simp (disch := omega) only [pt_eq, pt_ne, pt_nk])) ?_
        refine g_iload hx hb d_GV_send_104 rfl ?_
        refine g_callVv (C := "GroupViews") (nn := 3) ⟨hx, hb, hml.trans rfl, hown, hts⟩ (ct_GV_putToOthers l D ad ct had _ _ _ _ hn (Nat.lt_trans (cps_lt hcb hn) (by decide)) (fun i hi => by unfold cln; simp (disch := omega) only [pt_eq, pt_ne, pt_nk]; exact (hcb.ln i hi).2.1)) (mk_V hts t_136 t_138 ts_GV_putToOthers t_1 t_139 rfl rfl (by decide +kernel) ⟨Nat.le_of_ble_eq_true rfl, Nat.le_of_ble_eq_true rfl⟩) hK.1 rfl w_0 rfl (fun _ h => h) (gK_ok D ct) hK (Nat.le_of_ble_eq_true rfl) ⟨Nat.zero_le _, Nat.zero_le _⟩ rfl rfl d_GV_send_106 ?_
        rintro _ rfl
        refine g_aload_n hx hb d_GV_send_109 rfl rfl ?_
        refine g_getN hx hb hts (in_mw in_PS) hown hK.1 (w_P hn) rfl 7 (by decide) (nst_use hK nw_34 _) rfl d_GV_send_110 ?_
        refine g_val (show nI _ = nI (V (5 + 8 * n) 7 + 1) from congrArg nI (by rw [cpo_ne (by omega) hn 4 (by decide)]; unfold cln; simp (disch := omega) only [pt_eq, pt_ne, pt_nk])) ?_
        have hS : cSend V n x = (nI (V (5 + 8 * n) 7 + 1), cpo (cln (pt (pt (pt V (5 + 8 * n) 7 (V (5 + 8 * n) 7 + 1)) (5 + 8 * n + 3) (V (5 + 8 * n) 0 * 4 + V (5 + 8 * n) 7) x) (5 + 8 * n + 4) (V (5 + 8 * n) 0 * 4 + V (5 + 8 * n) 7) (wc (V (5 + 8 * n) 8) n 0)) n (V (5 + 8 * n) 0) n (V (5 + 8 * n) 7 + 1)) n (cps V n) (V (5 + 8 * n) 0 * 4 + V (5 + 8 * n) 7) 4) := by unfold cSend; rw [if_neg (not_not_intro hbl), if_neg (by omega)]
        exact g_iret hx hb hr hlk d_GV_send_113 (Or.inr ⟨hn, by rw [hS] <;> first | exact n0_eq | exact n1_eq | exact n2_eq, by rw [hS]⟩)
      · refine g_bipush hx hb d_GV_send_34 k_bipush_m3 ?_
        have hS : cSend V n x = (-3, V) := by unfold cSend; rw [if_neg (not_not_intro hbl), if_pos hse]
        exact g_iret hx hb hr hlk d_GV_send_36 (Or.inr ⟨hn, by rw [hS] <;> first | exact n0_eq | exact n1_eq | exact n2_eq, by rw [hS]⟩)
    · refine g_bipush hx hb d_GV_send_23 k_bipush_m2 ?_
      have hS : cSend V n x = (-2, V) := by unfold cSend; rw [if_pos hbl]
      exact g_iret hx hb hr hlk d_GV_send_25 (Or.inr ⟨hn, by rw [hS] <;> first | exact n0_eq | exact n1_eq | exact n2_eq, by rw [hS]⟩)
  · have hn := bN_0.mp hn
    refine g_iconst hx hb d_GV_send_7 k_iconst_m1 ?_
    exact g_iret hx hb hr hlk d_GV_send_8 (Or.inl ⟨hn, rfl, rfl⟩)
set_option maxRecDepth 100000 in
set_option maxHeartbeats 4000000 in
theorem ct_GV_change (l : Launch) (D : va_G) (ad : Nat → Nat) (ct : Nat → ClassId) (had : adOk ad) (V : VV) (n set : Nat) (h1 : n < 2 ^ 32) (h2 : set < 2 ^ 32) (hcb : CB V) : CTi l y_GV_change (mw y_GV_change c_GV_change 4 (some .int)) { frames := 2, cells := 0, slots := 0, locals := 45 } (gK D ct) D vcl (gA ad) [.ref (ad 0), .int (nI n), .int (nI set)] (gw ad ct V) (fun r w => (¬ n < 4 ∧ r = -1 ∧ w = gw ad ct V) ∨ (n < 4 ∧ r = (cChange V n set).1 ∧ w = gw ad ct (cChange V n set).2)) := by
  refine ct_i (by decide) rfl rfl (Nat.le_of_ble_eq_true rfl) ?_
  intro pg en sx mx blw mth cdx hx hb hr hts hown hlk hml hK
  refine g_L (L' := [_, _, _, _]) rfl ?_
  refine g_iload_n hx hb d_GV_change_0 rfl rfl ?_
  refine g_callSi (nn := 1) ⟨hx, hb, hml.trans rfl, hown, hts⟩ (ct_GV_isProcess l D ad ct had _ _ (by omega)) (mk_S hts t_119 t_120 t_1 t_121 rfl rfl (by decide +kernel) ⟨Nat.le_of_ble_eq_true rfl, Nat.le_of_ble_eq_true rfl⟩) (fun _ h => h) (gK_ok D ct) hK (Nat.le_of_ble_eq_true rfl) ⟨Nat.zero_le _, Nat.zero_le _⟩ rfl rfl d_GV_change_1 ?_
  rintro _ _ ⟨rfl, rfl⟩
  refine n_if_ne (tgt := 9) hx hb d_GV_change_4 (by decide) bN_lt (fun hn => ?_) (fun hn => ?_)
  · have hn := bN_n0.mp hn
    have hpa := hcb.p n hn
    have hde := hpa.2.2.2.2.2.2.2.2
    refine g_iload_n hx hb d_GV_change_9 rfl rfl ?_
    refine g_callSi (nn := 1) ⟨hx, hb, hml.trans rfl, hown, hts⟩ (ct_GV_isNonEmptySet l D ad ct had _ _ (by omega)) (mk_S hts t_154 t_155 t_1 t_156 rfl rfl (by decide +kernel) ⟨Nat.le_of_ble_eq_true rfl, Nat.le_of_ble_eq_true rfl⟩) (fun _ h => h) (gK_ok D ct) hK (Nat.le_of_ble_eq_true rfl) ⟨Nat.zero_le _, Nat.zero_le _⟩ rfl rfl d_GV_change_10 ?_
    rintro _ _ ⟨rfl, rfl⟩
    refine n_if_eq (tgt := 24) hx hb d_GV_change_13 (by decide) bN_lt (fun hne => ?_) (fun hne => ?_)
    · have hne := bN_0.mp hne
      refine g_bipush hx hb d_GV_change_24 k_bipush_m2 ?_
      have hS : cChange V n set = (-2, V) := by unfold cChange; rw [if_pos (fun z => by omega)]
      exact g_iret hx hb hr hlk d_GV_change_26 (Or.inr ⟨hn, by rw [hS] <;> first | exact n0_eq | exact n1_eq | exact n2_eq, by rw [hS]⟩)
    · have hne := bN_n0.mp hne
      refine g_iload_n hx hb d_GV_change_16 rfl rfl ?_
      refine g_iload_n hx hb d_GV_change_17 rfl rfl ?_
      refine g_callSi (nn := 2) ⟨hx, hb, hml.trans rfl, hown, hts⟩ (ct_GV_has l D ad ct had _ _ _ (by omega) (by omega)) (mk_S hts t_140 t_141 t_1 t_142 rfl rfl (by decide +kernel) ⟨Nat.le_of_ble_eq_true rfl, Nat.le_of_ble_eq_true rfl⟩) (fun _ h => h) (gK_ok D ct) hK (Nat.le_of_ble_eq_true rfl) ⟨Nat.zero_le _, Nat.zero_le _⟩ rfl rfl d_GV_change_18 ?_
      rintro _ _ ⟨rfl, rfl⟩
      refine n_if_ne (tgt := 27) hx hb d_GV_change_21 (by decide) (by omega) (fun hbit => ?_) (fun hbit => ?_)
      · refine g_aload_n hx hb d_GV_change_27 rfl rfl ?_
        refine g_get hx hb hts (in_mw in_GV) hown hK.1 w_0 rfl 0 (by decide) (hts _ (List.mem_cons_of_mem _ t_99)) rfl d_GV_change_28 ?_
        refine g_iload_n hx hb d_GV_change_31 rfl rfl ?_
        refine g_aald hx hb hK.1 w_1 2 rfl hn (by decide) (fP hn) d_GV_change_32 ?_
        refine g_astore_n (L' := [_, _, _, _]) hx hb d_GV_change_33 rfl (Nat.le_of_ble_eq_true rfl) rfl ?_
        refine g_aload_n hx hb d_GV_change_34 rfl rfl ?_
        refine g_getN hx hb hts (in_mw in_PS) hown hK.1 (w_P hn) rfl 1 (by decide) (nst_use hK nw_26 _) rfl d_GV_change_35 ?_
        refine g_bipush hx hb d_GV_change_38 k_bipush_15 ?_
        refine n_icmp_lt (tgt := 46) hx hb d_GV_change_40 (by decide) (by omega) (by omega) (fun hch => ?_) (fun hch => ?_)
        · refine g_aload_n hx hb d_GV_change_46 rfl rfl ?_
          refine g_dup hx hb d_GV_change_47 rfl ?_
          refine g_getN hx hb hts (in_mw in_PS) hown hK.1 (w_P hn) rfl 1 (by decide) (nst_use hK nw_26 _) rfl d_GV_change_48 ?_
          refine g_iconst hx hb d_GV_change_51 k_iconst_1 ?_
          refine n_iadd hx hb d_GV_change_52 ?_
          refine g_putN (ty := .int) hx hb hts (in_mw in_PS) ty_PS tyo_PS nm_PS hown hK.1 (gw_D had) (w_P hn) rfl 1 (by decide) (nst_use hK nw_26 _) rfl (by decide +kernel) rfl rfl (Nat.le_of_ble_eq_true rfl) d_GV_change_53 (s_P hn 1 _ (by decide)) ?_
          refine g_aload_n hx hb d_GV_change_56 rfl rfl ?_
          refine g_iload_n hx hb d_GV_change_57 rfl rfl ?_
          refine g_putN (ty := .int) hx hb hts (in_mw in_PS) ty_PS tyo_PS nm_PS hown hK.1 (gw_D had) (w_P hn) rfl 2 (by decide) (nst_use hK nw_27 _) rfl (by decide +kernel) rfl rfl (Nat.le_of_ble_eq_true rfl) d_GV_change_58 (s_P hn 2 _ (by decide)) ?_
          refine g_aload_n hx hb d_GV_change_61 rfl rfl ?_
          refine g_iconst hx hb d_GV_change_62 k_iconst_1 ?_
          refine g_putN (ty := .boolean) hx hb hts (in_mw in_PS) ty_PS tyo_PS nm_PS hown hK.1 (gw_D had) (w_P hn) rfl 4 (by decide) (nst_use hK nw_29 _) rfl (by decide +kernel) (by decide +kernel) rfl (Nat.le_of_ble_eq_true rfl) d_GV_change_63 (s_P hn 4 _ (by decide)) ?_
          refine g_aload_n hx hb d_GV_change_66 rfl rfl ?_
          refine g_iconst hx hb d_GV_change_67 k_iconst_1 ?_
          refine g_putN (ty := .boolean) hx hb hts (in_mw in_PS) ty_PS tyo_PS nm_PS hown hK.1 (gw_D had) (w_P hn) rfl 3 (by decide) (nst_use hK nw_28 _) rfl (by decide +kernel) (by decide +kernel) rfl (Nat.le_of_ble_eq_true rfl) d_GV_change_68 (s_P hn 3 _ (by decide)) ?_
          refine g_aload_n hx hb d_GV_change_71 rfl rfl ?_
          refine g_iconst hx hb d_GV_change_72 k_iconst_0 ?_
          refine g_putN (ty := .int) hx hb hts (in_mw in_PS) ty_PS tyo_PS nm_PS hown hK.1 (gw_D had) (w_P hn) rfl 5 (by decide) (nst_use hK nw_31 _) rfl (by decide +kernel) rfl rfl (Nat.le_of_ble_eq_true rfl) d_GV_change_73 (s_P hn 5 _ (by decide)) ?_
          refine g_aload_n hx hb d_GV_change_76 rfl rfl ?_
          refine g_getN hx hb hts (in_mw in_PS) hown hK.1 (w_P hn) rfl 13 (by decide) (nst_use hK nw_45 _) rfl d_GV_change_77 ?_
          refine g_aload_n hx hb d_GV_change_80 rfl rfl ?_
          refine g_getN hx hb hts (in_mw in_PS) hown hK.1 (w_P hn) rfl 1 (by decide) (nst_use hK nw_26 _) rfl d_GV_change_81 ?_
          refine g_val (show nI _ = nI ((V (5 + 8 * n) 1) + 1) from congrArg nI (by simp (disch := omega) only [pt_eq, pt_ne, pt_nk])) ?_
          refine g_aload_n hx hb d_GV_change_84 rfl rfl ?_
          refine g_getN hx hb hts (in_mw in_PS) hown hK.1 (w_P hn) rfl 0 (by decide) (nst_use hK nw_24 _) rfl d_GV_change_85 ?_
          refine g_val (show nI _ = nI (V (5 + 8 * n) 0) from congrArg nI (by simp (disch := omega) only [pt_eq, pt_ne, pt_nk])) ?_
          refine g_iast hx hb hK.1 (gw_D had) (w_Pa (k := 5) hn (by decide) (by decide)) 0 rfl (show _ < 16 by omega) (by decide) d_GV_change_88 (s_Pa (k := 5) hn (by decide) (by decide) _ _) ?_
          refine g_aload_n hx hb d_GV_change_89 rfl rfl ?_
          refine g_getN hx hb hts (in_mw in_PS) hown hK.1 (w_P hn) rfl 14 (by decide) (nst_use hK nw_47 _) rfl d_GV_change_90 ?_
          refine g_aload_n hx hb d_GV_change_93 rfl rfl ?_
          refine g_getN hx hb hts (in_mw in_PS) hown hK.1 (w_P hn) rfl 1 (by decide) (nst_use hK nw_26 _) rfl d_GV_change_94 ?_
          refine g_val (show nI _ = nI ((V (5 + 8 * n) 1) + 1) from congrArg nI (by simp (disch := omega) only [pt_eq, pt_ne, pt_nk])) ?_
          refine g_aload_n hx hb d_GV_change_97 rfl rfl ?_
          refine g_getN hx hb hts (in_mw in_PS) hown hK.1 (w_P hn) rfl 8 (by decide) (nst_use hK nw_36 _) rfl d_GV_change_98 ?_
          refine g_val (show nI _ = nI (V (5 + 8 * n) 8) from congrArg nI (by simp (disch := omega) only [pt_eq, pt_ne, pt_nk])) ?_
          refine g_iload_n hx hb d_GV_change_101 rfl rfl ?_
          refine g_aload_n hx hb d_GV_change_102 rfl rfl ?_
          refine g_getN hx hb hts (in_mw in_PS) hown hK.1 (w_P hn) rfl 7 (by decide) (nst_use hK nw_34 _) rfl d_GV_change_103 ?_
          refine g_val (show nI _ = nI (V (5 + 8 * n) 7) from congrArg nI (by simp (disch := omega) only [pt_eq, pt_ne, pt_nk])) ?_
          refine g_callSi (nn := 3) ⟨hx, hb, hml.trans rfl, hown, hts⟩ (ct_GV_withCount l D ad ct had _ _ _ _ hde hn hpa.2.2.2.2.2.2.2.1) (mk_S hts t_125 t_126 t_1 t_127 rfl rfl (by decide +kernel) ⟨Nat.le_of_ble_eq_true rfl, Nat.le_of_ble_eq_true rfl⟩) (fun _ h => h) (gK_ok D ct) hK (Nat.le_of_ble_eq_true rfl) ⟨Nat.zero_le _, Nat.zero_le _⟩ rfl rfl d_GV_change_106 ?_
          rintro _ _ ⟨rfl, rfl⟩
          refine g_iast hx hb hK.1 (gw_D had) (w_Pa (k := 6) hn (by decide) (by decide)) 0 rfl (show _ < 16 by omega) (by decide) d_GV_change_109 (s_Pa (k := 6) hn (by decide) (by decide) _ _) ?_
          refine g_aload_n hx hb d_GV_change_110 rfl rfl ?_
          refine g_iload_n hx hb d_GV_change_111 rfl rfl ?_
          refine g_aload_n hx hb d_GV_change_112 rfl rfl ?_
          refine g_getN hx hb hts (in_mw in_PS) hown hK.1 (w_P hn) rfl 1 (by decide) (nst_use hK nw_26 _) rfl d_GV_change_113 ?_
          refine g_val (show nI _ = nI ((V (5 + 8 * n) 1) + 1) from congrArg nI (by simp (disch := omega) only [pt_eq, pt_ne, pt_nk])) ?_
          refine g_callVNv (C := "GroupViews$ProcessState") (nn := 2) ⟨hx, hb, hml.trans rfl, hown, hts⟩ (ct_PS_learnSync l D ad ct had _ _ _ _ hn (by omega) (by omega)) (mk_VN hK hts nw_157 t_159 ts_PS_learnSync t_2 t_160 rfl rfl (by decide +kernel) ⟨Nat.le_of_ble_eq_true rfl, Nat.le_of_ble_eq_true rfl⟩) hK.1 rfl (w_P hn) rfl (fun _ h => h) (gK_ok D ct) hK (Nat.le_of_ble_eq_true rfl) ⟨Nat.zero_le _, Nat.zero_le _⟩ rfl rfl d_GV_change_116 ?_
          rintro _ rfl
          refine g_aload_n hx hb d_GV_change_119 rfl rfl ?_
          refine g_iload_n hx hb d_GV_change_120 rfl rfl ?_
          refine g_iload_n hx hb d_GV_change_121 rfl rfl ?_
          refine g_bipush hx hb d_GV_change_122 k_bipush_64 ?_
          refine g_aload_n hx hb d_GV_change_124 rfl rfl ?_
          refine g_getN hx hb hts (in_mw in_PS) hown hK.1 (w_P hn) rfl 1 (by decide) (nst_use hK nw_26 _) rfl d_GV_change_125 ?_
          refine g_val (show nI _ = nI (V (5 + 8 * n) 1 + 1) from congrArg nI (by unfold csy; simp (disch := omega) only [pt_eq, pt_ne, pt_nk])) ?_
          refine n_iadd hx hb d_GV_change_128 ?_
          refine g_callVv (C := "GroupViews") (nn := 3) ⟨hx, hb, hml.trans rfl, hown, hts⟩ (ct_GV_putToOthers l D ad ct had _ _ _ _ hn (by omega) (fun i hi => by unfold csy; simp (disch := omega) only [pt_eq, pt_ne, pt_nk]; exact (hcb.ln i hi).2.1)) (mk_V hts t_136 t_138 ts_GV_putToOthers t_1 t_139 rfl rfl (by decide +kernel) ⟨Nat.le_of_ble_eq_true rfl, Nat.le_of_ble_eq_true rfl⟩) hK.1 rfl w_0 rfl (fun _ h => h) (gK_ok D ct) hK (Nat.le_of_ble_eq_true rfl) ⟨Nat.zero_le _, Nat.zero_le _⟩ rfl rfl d_GV_change_129 ?_
          rintro _ rfl
          refine g_aload_n hx hb d_GV_change_132 rfl rfl ?_
          refine g_getN hx hb hts (in_mw in_PS) hown hK.1 (w_P hn) rfl 1 (by decide) (nst_use hK nw_26 _) rfl d_GV_change_133 ?_
          refine g_val (show nI _ = nI (V (5 + 8 * n) 1 + 1) from congrArg nI (by rw [cpo_ne (by omega) hn 4 (by decide)]; unfold csy; simp (disch := omega) only [pt_eq, pt_ne, pt_nk])) ?_
          have hS : cChange V n set = (nI (V (5 + 8 * n) 1 + 1), cpo (csy (pt (pt (pt (pt (pt (pt (pt V (5 + 8 * n) 1 (V (5 + 8 * n) 1 + 1)) (5 + 8 * n) 2 set) (5 + 8 * n) 4 1) (5 + 8 * n) 3 1) (5 + 8 * n) 5 0) (5 + 8 * n + 5) (V (5 + 8 * n) 1 + 1) (V (5 + 8 * n) 0)) (5 + 8 * n + 6) (V (5 + 8 * n) 1 + 1) (wc (V (5 + 8 * n) 8) n (V (5 + 8 * n) 7))) n n (V (5 + 8 * n) 1 + 1)) n set (64 + (V (5 + 8 * n) 1 + 1)) 4) := by unfold cChange; rw [if_neg (not_not_intro ⟨hne.1, hne.2, by omega⟩), if_neg (by omega)]
          exact g_iret hx hb hr hlk d_GV_change_136 (Or.inr ⟨hn, by rw [hS] <;> first | exact n0_eq | exact n1_eq | exact n2_eq, by rw [hS]⟩)
        · refine g_bipush hx hb d_GV_change_43 k_bipush_m3 ?_
          have hS : cChange V n set = (-3, V) := by unfold cChange; rw [if_neg (not_not_intro ⟨hne.1, hne.2, by omega⟩), if_pos hch]
          exact g_iret hx hb hr hlk d_GV_change_45 (Or.inr ⟨hn, by rw [hS] <;> first | exact n0_eq | exact n1_eq | exact n2_eq, by rw [hS]⟩)
      · refine g_bipush hx hb d_GV_change_24 k_bipush_m2 ?_
        have hS : cChange V n set = (-2, V) := by unfold cChange; rw [if_pos (fun z => by omega)]
        exact g_iret hx hb hr hlk d_GV_change_26 (Or.inr ⟨hn, by rw [hS] <;> first | exact n0_eq | exact n1_eq | exact n2_eq, by rw [hS]⟩)
  · have hn := bN_0.mp hn
    refine g_iconst hx hb d_GV_change_7 k_iconst_m1 ?_
    exact g_iret hx hb hr hlk d_GV_change_8 (Or.inl ⟨hn, rfl, rfl⟩)
set_option maxRecDepth 100000 in
set_option maxHeartbeats 4000000 in
theorem ct_GV_form (l : Launch) (D : va_G) (ad : Nat → Nat) (ct : Nat → ClassId) (had : adOk ad) (V : VV) (set : Nat) (h2 : set < 2 ^ 32) (hcb : CB V) : CTi l y_GV_form (mw y_GV_form c_GV_form 3 (some .int)) { frames := 2, cells := 0, slots := 0, locals := 43 } (gK D ct) D vcl (gA ad) [.ref (ad 0), .int (nI set)] (gw ad ct V) (fun r w => ∃ X', cForm V set r X' ∧ w = gw ad ct X') := by
  refine ct_i (by decide) rfl rfl (Nat.le_of_ble_eq_true rfl) ?_
  intro pg en sx mx blw mth cdx hx hb hr hts hown hlk hml hK
  refine g_L (L' := [_, _, _]) rfl ?_
  have hf := hcb.f
  refine g_iload_n hx hb d_GV_form_0 rfl rfl ?_
  refine g_callSi (nn := 1) ⟨hx, hb, hml.trans rfl, hown, hts⟩ (ct_GV_isNonEmptySet l D ad ct had _ _ (by omega)) (mk_S hts t_154 t_155 t_1 t_156 rfl rfl (by decide +kernel) ⟨Nat.le_of_ble_eq_true rfl, Nat.le_of_ble_eq_true rfl⟩) (fun _ h => h) (gK_ok D ct) hK (Nat.le_of_ble_eq_true rfl) ⟨Nat.zero_le _, Nat.zero_le _⟩ rfl rfl d_GV_form_1 ?_
  rintro _ _ ⟨rfl, rfl⟩
  refine n_if_ne (tgt := 10) hx hb d_GV_form_4 (by decide) bN_lt (fun hne => ?_) (fun hne => ?_)
  · have hne := bN_n0.mp hne
    refine g_aload_n hx hb d_GV_form_10 rfl rfl ?_
    refine g_get hx hb hts (in_mw in_GV) hown hK.1 w_0 rfl 4 (by decide) (hts _ (List.mem_cons_of_mem _ t_103)) rfl d_GV_form_11 ?_
    refine g_bipush hx hb d_GV_form_14 k_bipush_15 ?_
    refine n_icmp_lt (tgt := 22) hx hb d_GV_form_16 (by decide) (by omega) (by omega) (fun hfo => ?_) (fun hfo => ?_)
    · refine g_aload_n hx hb d_GV_form_22 rfl rfl ?_
      refine g_iload_n hx hb d_GV_form_23 rfl rfl ?_
      refine g_callVi (C := "GroupViews") (nn := 1) ⟨hx, hb, hml.trans rfl, hown, hts⟩ (ct_GV_canForm l D ad ct had _ _ (by omega) (fun p hp => ⟨(hcb.p p hp).2.2.2.1, (hcb.p p hp).2.2.1⟩)) (mk_V hts t_165 t_167 ts_GV_canForm t_1 t_168 rfl rfl (by decide +kernel) ⟨Nat.le_of_ble_eq_true rfl, Nat.le_of_ble_eq_true rfl⟩) hK.1 rfl w_0 rfl (fun _ h => h) (gK_ok D ct) hK (Nat.le_of_ble_eq_true rfl) ⟨Nat.zero_le _, Nat.zero_le _⟩ rfl rfl d_GV_form_24 ?_
      rintro _ _ ⟨rfl, rfl⟩
      refine n_if_ne (tgt := 33) hx hb d_GV_form_27 (by decide) bC_lt (fun hcf => ?_) (fun hcf => ?_)
      · have hcf := bC_n0.mp hcf
        refine g_aload_n hx hb d_GV_form_33 rfl rfl ?_
        refine g_dup hx hb d_GV_form_34 rfl ?_
        refine g_get hx hb hts (in_mw in_GV) hown hK.1 w_0 rfl 4 (by decide) (hts _ (List.mem_cons_of_mem _ t_103)) rfl d_GV_form_35 ?_
        refine g_iconst hx hb d_GV_form_38 k_iconst_1 ?_
        refine n_iadd hx hb d_GV_form_39 ?_
        refine g_put (ty := .int) hx hb hts (in_mw in_GV) ty_GV tyo_GV nm_GV hown hK.1 (gw_D had) w_0 rfl 4 (by decide) (hts _ (List.mem_cons_of_mem _ t_103)) rfl (by decide +kernel) rfl rfl (Nat.le_of_ble_eq_true rfl) d_GV_form_40 (s_0 _) ?_
        refine g_aload_n hx hb d_GV_form_43 rfl rfl ?_
        refine g_get hx hb hts (in_mw in_GV) hown hK.1 w_0 rfl 2 (by decide) (hts _ (List.mem_cons_of_mem _ t_101)) rfl d_GV_form_44 ?_
        refine g_aload_n hx hb d_GV_form_47 rfl rfl ?_
        refine g_get hx hb hts (in_mw in_GV) hown hK.1 w_0 rfl 4 (by decide) (hts _ (List.mem_cons_of_mem _ t_103)) rfl d_GV_form_48 ?_
        refine g_val (show nI _ = nI ((V 0 4) + 1) from congrArg nI (by simp (disch := omega) only [pt_eq, pt_ne, pt_nk])) ?_
        refine g_iload_n hx hb d_GV_form_51 rfl rfl ?_
        refine g_iast hx hb hK.1 (gw_D had) w_3 0 rfl (show _ < 16 by omega) (by decide) d_GV_form_52 (s_3 _ _) ?_
        refine g_iconst hx hb d_GV_form_53 k_iconst_0 ?_
        refine g_istore_n (L' := [_, _, _]) hx hb d_GV_form_54 rfl (Nat.le_of_ble_eq_true rfl) rfl ?_
        refine g_loop 4 (fun q => gw ad ct (cfo (pt (pt V 0 4 (V 0 4 + 1)) 3 (V 0 4 + 1) set) set (V 0 4 + 1) q)) (fun q => [some (.ref (ad 0)), some (.int (nI set)), some (.int (nI q))]) (fun q => True) 0 (by omega) trivial rfl rfl ?_
        intro q hq0_q hqE_q hI_q ih_q
        try dsimp only
        refine g_iload_n hx hb d_GV_form_55 rfl rfl ?_
        refine g_iconst hx hb d_GV_form_56 k_iconst_4 ?_
        refine n_icmp_ge (tgt := 106) hx hb d_GV_form_57 (by decide) (by omega) (by omega) (fun hc1 => ?_) (fun hc1 => ?_)
        · have hq4 : q = 4 := by omega
          subst hq4
          refine g_aload_n hx hb d_GV_form_106 rfl rfl ?_
          refine g_get hx hb hts (in_mw in_GV) hown hK.1 w_0 rfl 4 (by decide) (hts _ (List.mem_cons_of_mem _ t_103)) rfl d_GV_form_107 ?_
          refine g_val (show nI _ = nI (V 0 4 + 1) from congrArg nI (by rw [cfo_ne (by decide) (fun j _ => by omega) (by omega)]; simp (disch := omega) only [pt_eq, pt_ne, pt_nk])) ?_
          exact g_iret hx hb hr hlk d_GV_form_110 (⟨_, Or.inr (Or.inr (Or.inr ⟨hne, by omega, hcf, rfl, rfl⟩)), rfl⟩)
        · have hq : q < 4 := by omega
          refine g_iload_n hx hb d_GV_form_60 rfl rfl ?_
          refine g_iload_n hx hb d_GV_form_61 rfl rfl ?_
          refine g_callSi (nn := 2) ⟨hx, hb, hml.trans rfl, hown, hts⟩ (ct_GV_has l D ad ct had _ _ _ (by omega) (by omega)) (mk_S hts t_140 t_141 t_1 t_142 rfl rfl (by decide +kernel) ⟨Nat.le_of_ble_eq_true rfl, Nat.le_of_ble_eq_true rfl⟩) (fun _ h => h) (gK_ok D ct) hK (Nat.le_of_ble_eq_true rfl) ⟨Nat.zero_le _, Nat.zero_le _⟩ rfl rfl d_GV_form_62 ?_
          rintro _ _ ⟨rfl, rfl⟩
          refine n_if_eq (tgt := 100) hx hb d_GV_form_65 (by decide) (by omega) (fun hbit => ?_) (fun hbit => ?_)
          · refine n_iinc (L' := [_, _, _]) hx hb d_GV_form_100 rfl rfl ?_
            refine g_goto (tgt := 55) hx hb d_GV_form_103 (by decide) ?_
            refine g_w (congrArg (gw ad ct) (show _ = cfo (pt (pt V 0 4 (V 0 4 + 1)) 3 (V 0 4 + 1) set) set (V 0 4 + 1) (q + 1) from by rw [cfo, if_neg (by omega)])) ?_
            exact ih_q (by omega) trivial
          · refine g_aload_n hx hb d_GV_form_68 rfl rfl ?_
            refine g_get hx hb hts (in_mw in_GV) hown hK.1 w_0 rfl 3 (by decide) (hts _ (List.mem_cons_of_mem _ t_102)) rfl d_GV_form_69 ?_
            refine g_aload_n hx hb d_GV_form_72 rfl rfl ?_
            refine g_get hx hb hts (in_mw in_GV) hown hK.1 w_0 rfl 4 (by decide) (hts _ (List.mem_cons_of_mem _ t_103)) rfl d_GV_form_73 ?_
            refine g_val (show nI _ = nI (V 0 4 + 1) from congrArg nI (by rw [cfo_ne (by decide) (fun j _ => by omega) (by omega)]; simp (disch := omega) only [pt_eq, pt_ne, pt_nk])) ?_
            refine g_iload_n hx hb d_GV_form_76 rfl rfl ?_
            refine g_callSi (nn := 2) ⟨hx, hb, hml.trans rfl, hown, hts⟩ (ct_GV_startIndex l D ad ct had _ _ _) (mk_S hts t_169 t_170 t_1 t_171 rfl rfl (by decide +kernel) ⟨Nat.le_of_ble_eq_true rfl, Nat.le_of_ble_eq_true rfl⟩) (fun _ h => h) (gK_ok D ct) hK (Nat.le_of_ble_eq_true rfl) ⟨Nat.zero_le _, Nat.zero_le _⟩ rfl rfl d_GV_form_77 ?_
            rintro _ _ ⟨rfl, rfl⟩
            refine g_aload_n hx hb d_GV_form_80 rfl rfl ?_
            refine g_get hx hb hts (in_mw in_GV) hown hK.1 w_0 rfl 0 (by decide) (hts _ (List.mem_cons_of_mem _ t_99)) rfl d_GV_form_81 ?_
            refine g_iload_n hx hb d_GV_form_84 rfl rfl ?_
            refine g_aald hx hb hK.1 w_1 2 rfl hq (by decide) (fP hq) d_GV_form_85 ?_
            refine g_getN hx hb hts (in_mw in_PS) hown hK.1 (w_P hq) rfl 1 (by decide) (nst_use hK nw_26 _) rfl d_GV_form_86 ?_
            refine g_iast hx hb hK.1 (gw_D had) w_4 0 rfl (show _ < 64 by omega) (by decide) d_GV_form_89 (s_4 _ _) ?_
            refine g_aload_n hx hb d_GV_form_90 rfl rfl ?_
            refine g_get hx hb hts (in_mw in_GV) hown hK.1 w_0 rfl 0 (by decide) (hts _ (List.mem_cons_of_mem _ t_99)) rfl d_GV_form_91 ?_
            refine g_iload_n hx hb d_GV_form_94 rfl rfl ?_
            refine g_aald hx hb hK.1 w_1 2 rfl hq (by decide) (fP hq) d_GV_form_95 ?_
            refine g_iconst hx hb d_GV_form_96 k_iconst_0 ?_
            refine g_putN (ty := .boolean) hx hb hts (in_mw in_PS) ty_PS tyo_PS nm_PS hown hK.1 (gw_D had) (w_P hq) rfl 3 (by decide) (nst_use hK nw_28 _) rfl (by decide +kernel) (by decide +kernel) rfl (Nat.le_of_ble_eq_true rfl) d_GV_form_97 (s_P hq 3 _ (by decide)) ?_
            refine n_iinc (L' := [_, _, _]) hx hb d_GV_form_100 rfl rfl ?_
            refine g_goto (tgt := 55) hx hb d_GV_form_103 (by decide) ?_
            refine g_w (congrArg (gw ad ct) (show _ = cfo (pt (pt V 0 4 (V 0 4 + 1)) 3 (V 0 4 + 1) set) set (V 0 4 + 1) (q + 1) from by rw [cfo, if_pos (by omega)])) ?_
            exact ih_q (by omega) trivial
      · have hcf := bC_0.mp hcf
        refine g_bipush hx hb d_GV_form_30 k_bipush_m4 ?_
        exact g_iret hx hb hr hlk d_GV_form_32 (⟨_, Or.inr (Or.inr (Or.inl ⟨hne, by omega, hcf, rfl, rfl⟩)), rfl⟩)
    · refine g_bipush hx hb d_GV_form_19 k_bipush_m3 ?_
      exact g_iret hx hb hr hlk d_GV_form_21 (⟨_, Or.inr (Or.inl ⟨hne, hfo, rfl, rfl⟩), rfl⟩)
  · have hne := bN_0.mp hne
    refine g_bipush hx hb d_GV_form_7 k_bipush_m2 ?_
    exact g_iret hx hb hr hlk d_GV_form_9 (⟨_, Or.inl ⟨hne, rfl, rfl⟩, rfl⟩)
set_option maxRecDepth 100000 in
set_option maxHeartbeats 4000000 in
theorem ct_GV_tell (l : Launch) (D : va_G) (ad : Nat → Nat) (ct : Nat → ClassId) (had : adOk ad) (V : VV) (n v : Nat) (h1 : n < 2 ^ 32) (h2 : v < 2 ^ 32) (hcb : CB V) : CTi l y_GV_tell (mw y_GV_tell c_GV_tell 4 (some .int)) { frames := 1, cells := 0, slots := 0, locals := 21 } (gK D ct) D vcl (gA ad) [.ref (ad 0), .int (nI n), .int (nI v)] (gw ad ct V) (fun r w => (¬ n < 4 ∧ r = -1 ∧ w = gw ad ct V) ∨ (n < 4 ∧ r = (cTell V n v).1 ∧ w = gw ad ct (cTell V n v).2)) := by
  refine ct_i (by decide) rfl rfl (Nat.le_of_ble_eq_true rfl) ?_
  intro pg en sx mx blw mth cdx hx hb hr hts hown hlk hml hK
  refine g_L (L' := [_, _, _, _]) rfl ?_
  have hf := hcb.f
  refine g_iload_n hx hb d_GV_tell_0 rfl rfl ?_
  refine g_callSi (nn := 1) ⟨hx, hb, hml.trans rfl, hown, hts⟩ (ct_GV_isProcess l D ad ct had _ _ (by omega)) (mk_S hts t_119 t_120 t_1 t_121 rfl rfl (by decide +kernel) ⟨Nat.le_of_ble_eq_true rfl, Nat.le_of_ble_eq_true rfl⟩) (fun _ h => h) (gK_ok D ct) hK (Nat.le_of_ble_eq_true rfl) ⟨Nat.zero_le _, Nat.zero_le _⟩ rfl rfl d_GV_tell_1 ?_
  rintro _ _ ⟨rfl, rfl⟩
  refine n_if_ne (tgt := 9) hx hb d_GV_tell_4 (by decide) bN_lt (fun hn => ?_) (fun hn => ?_)
  · have hn := bN_n0.mp hn
    have hpa := hcb.p n hn
    have hde := hpa.2.2.2.2.2.2.2.2
    refine g_aload_n hx hb d_GV_tell_9 rfl rfl ?_
    refine g_iload_n hx hb d_GV_tell_10 rfl rfl ?_
    refine g_callVi (C := "GroupViews") (nn := 1) ⟨hx, hb, hml.trans rfl, hown, hts⟩ (ct_GV_isFormed l D ad ct had _ _ (by omega) (by omega)) (mk_V hts t_176 t_178 ts_GV_isFormed t_1 t_179 rfl rfl (by decide +kernel) ⟨Nat.le_of_ble_eq_true rfl, Nat.le_of_ble_eq_true rfl⟩) hK.1 rfl w_0 rfl (fun _ h => h) (gK_ok D ct) hK (Nat.le_of_ble_eq_true rfl) ⟨Nat.zero_le _, Nat.zero_le _⟩ rfl rfl d_GV_tell_11 ?_
    rintro _ _ ⟨rfl, rfl⟩
    refine n_if_eq (tgt := 30) hx hb d_GV_tell_14 (by decide) bN_lt (fun hfo => ?_) (fun hfo => ?_)
    · have hfo := bN_0.mp hfo
      refine g_bipush hx hb d_GV_tell_30 k_bipush_m2 ?_
      have hS : cTell V n v = (-2, V) := by unfold cTell; rw [if_pos (fun z => hfo ⟨z.1, z.2.1⟩)]
      exact g_iret hx hb hr hlk d_GV_tell_32 (Or.inr ⟨hn, by rw [hS] <;> first | exact n0_eq | exact n1_eq | exact n2_eq, by rw [hS]⟩)
    · have hfo := bN_n0.mp hfo
      have hs16 := hcb.s v (by omega)
      have ht16 := hcb.t (v * 4 + n) (by omega)
      refine g_aload_n hx hb d_GV_tell_17 rfl rfl ?_
      refine g_get hx hb hts (in_mw in_GV) hown hK.1 w_0 rfl 2 (by decide) (hts _ (List.mem_cons_of_mem _ t_101)) rfl d_GV_tell_18 ?_
      refine g_iload_n hx hb d_GV_tell_21 rfl rfl ?_
      refine g_iald hx hb hK.1 w_3 0 rfl (show _ < 16 by omega) (by decide) rfl d_GV_tell_22 ?_
      refine g_iload_n hx hb d_GV_tell_23 rfl rfl ?_
      refine g_callSi (nn := 2) ⟨hx, hb, hml.trans rfl, hown, hts⟩ (ct_GV_has l D ad ct had _ _ _ (by omega) (by omega)) (mk_S hts t_140 t_141 t_1 t_142 rfl rfl (by decide +kernel) ⟨Nat.le_of_ble_eq_true rfl, Nat.le_of_ble_eq_true rfl⟩) (fun _ h => h) (gK_ok D ct) hK (Nat.le_of_ble_eq_true rfl) ⟨Nat.zero_le _, Nat.zero_le _⟩ rfl rfl d_GV_tell_24 ?_
      rintro _ _ ⟨rfl, rfl⟩
      refine n_if_ne (tgt := 33) hx hb d_GV_tell_27 (by decide) (by omega) (fun hbit => ?_) (fun hbit => ?_)
      · refine g_aload_n hx hb d_GV_tell_33 rfl rfl ?_
        refine g_get hx hb hts (in_mw in_GV) hown hK.1 w_0 rfl 0 (by decide) (hts _ (List.mem_cons_of_mem _ t_99)) rfl d_GV_tell_34 ?_
        refine g_iload_n hx hb d_GV_tell_37 rfl rfl ?_
        refine g_aald hx hb hK.1 w_1 2 rfl hn (by decide) (fP hn) d_GV_tell_38 ?_
        refine g_astore_n (L' := [_, _, _, _]) hx hb d_GV_tell_39 rfl (Nat.le_of_ble_eq_true rfl) rfl ?_
        refine g_aload_n hx hb d_GV_tell_40 rfl rfl ?_
        refine g_getN hx hb hts (in_mw in_PS) hown hK.1 (w_P hn) rfl 6 (by decide) (nst_use hK nw_33 _) rfl d_GV_tell_41 ?_
        refine g_iload_n hx hb d_GV_tell_44 rfl rfl ?_
        refine n_icmp_lt (tgt := 51) hx hb d_GV_tell_45 (by decide) (by omega) (by omega) (fun hgt => ?_) (fun hgt => ?_)
        · refine g_aload_n hx hb d_GV_tell_51 rfl rfl ?_
          refine g_get hx hb hts (in_mw in_GV) hown hK.1 w_0 rfl 3 (by decide) (hts _ (List.mem_cons_of_mem _ t_102)) rfl d_GV_tell_52 ?_
          refine g_iload_n hx hb d_GV_tell_55 rfl rfl ?_
          refine g_iload_n hx hb d_GV_tell_56 rfl rfl ?_
          refine g_callSi (nn := 2) ⟨hx, hb, hml.trans rfl, hown, hts⟩ (ct_GV_startIndex l D ad ct had _ _ _) (mk_S hts t_169 t_170 t_1 t_171 rfl rfl (by decide +kernel) ⟨Nat.le_of_ble_eq_true rfl, Nat.le_of_ble_eq_true rfl⟩) (fun _ h => h) (gK_ok D ct) hK (Nat.le_of_ble_eq_true rfl) ⟨Nat.zero_le _, Nat.zero_le _⟩ rfl rfl d_GV_tell_57 ?_
          rintro _ _ ⟨rfl, rfl⟩
          refine g_iald hx hb hK.1 w_4 0 rfl (show _ < 64 by omega) (by decide) rfl d_GV_tell_60 ?_
          refine g_aload_n hx hb d_GV_tell_61 rfl rfl ?_
          refine g_getN hx hb hts (in_mw in_PS) hown hK.1 (w_P hn) rfl 1 (by decide) (nst_use hK nw_26 _) rfl d_GV_tell_62 ?_
          refine n_icmp_eq (tgt := 71) hx hb d_GV_tell_65 (by decide) (by omega) (by omega) (fun hst => ?_) (fun hst => ?_)
          · refine g_aload_n hx hb d_GV_tell_71 rfl rfl ?_
            refine g_iload_n hx hb d_GV_tell_72 rfl rfl ?_
            refine g_putN (ty := .int) hx hb hts (in_mw in_PS) ty_PS tyo_PS nm_PS hown hK.1 (gw_D had) (w_P hn) rfl 6 (by decide) (nst_use hK nw_33 _) rfl (by decide +kernel) rfl rfl (Nat.le_of_ble_eq_true rfl) d_GV_tell_73 (s_P hn 6 _ (by decide)) ?_
            refine g_aload_n hx hb d_GV_tell_76 rfl rfl ?_
            refine g_iload_n hx hb d_GV_tell_77 rfl rfl ?_
            refine g_putN (ty := .int) hx hb hts (in_mw in_PS) ty_PS tyo_PS nm_PS hown hK.1 (gw_D had) (w_P hn) rfl 5 (by decide) (nst_use hK nw_31 _) rfl (by decide +kernel) rfl rfl (Nat.le_of_ble_eq_true rfl) d_GV_tell_78 (s_P hn 5 _ (by decide)) ?_
            refine g_iconst hx hb d_GV_tell_81 k_iconst_0 ?_
            have hS : cTell V n v = (0, pt (pt V (5 + 8 * n) 6 v) (5 + 8 * n) 5 v) := by unfold cTell; rw [if_neg (not_not_intro ⟨hfo.1, hfo.2, by omega⟩), if_neg (by omega), if_neg (not_not_intro hst)]
            exact g_iret hx hb hr hlk d_GV_tell_82 (Or.inr ⟨hn, by rw [hS] <;> first | exact n0_eq | exact n1_eq | exact n2_eq, by rw [hS]⟩)
          · refine g_bipush hx hb d_GV_tell_68 k_bipush_m4 ?_
            have hS : cTell V n v = (-4, V) := by unfold cTell; rw [if_neg (not_not_intro ⟨hfo.1, hfo.2, by omega⟩), if_neg (by omega), if_pos hst]
            exact g_iret hx hb hr hlk d_GV_tell_70 (Or.inr ⟨hn, by rw [hS] <;> first | exact n0_eq | exact n1_eq | exact n2_eq, by rw [hS]⟩)
        · refine g_bipush hx hb d_GV_tell_48 k_bipush_m3 ?_
          have hS : cTell V n v = (-3, V) := by unfold cTell; rw [if_neg (not_not_intro ⟨hfo.1, hfo.2, by omega⟩), if_pos hgt]
          exact g_iret hx hb hr hlk d_GV_tell_50 (Or.inr ⟨hn, by rw [hS] <;> first | exact n0_eq | exact n1_eq | exact n2_eq, by rw [hS]⟩)
      · refine g_bipush hx hb d_GV_tell_30 k_bipush_m2 ?_
        have hS : cTell V n v = (-2, V) := by unfold cTell; rw [if_pos (fun z => by omega)]
        exact g_iret hx hb hr hlk d_GV_tell_32 (Or.inr ⟨hn, by rw [hS] <;> first | exact n0_eq | exact n1_eq | exact n2_eq, by rw [hS]⟩)
  · have hn := bN_0.mp hn
    refine g_iconst hx hb d_GV_tell_7 k_iconst_m1 ?_
    exact g_iret hx hb hr hlk d_GV_tell_8 (Or.inl ⟨hn, rfl, rfl⟩)
set_option maxRecDepth 100000 in
set_option maxHeartbeats 4000000 in
theorem ct_GV_carry (l : Launch) (D : va_G) (ad : Nat → Nat) (ct : Nat → ClassId) (had : adOk ad) (V : VV) (p q : Nat) (h1 : p < 2 ^ 32) (h2 : q < 2 ^ 32) (hcb : CB V) : CTi l y_GV_carry (mw y_GV_carry c_GV_carry 4 (some .int)) { frames := 2, cells := 0, slots := 0, locals := 50 } (gK D ct) D vcl (gA ad) [.ref (ad 0), .int (nI p), .int (nI q)] (gw ad ct V) (fun r w => (¬ (p < 4 ∧ q < 4 ∧ ¬ p = q) ∧ r = -1 ∧ w = gw ad ct V) ∨ ((p < 4 ∧ q < 4 ∧ ¬ p = q) ∧ r = (cCarry V p q).1 ∧ w = gw ad ct (cCarry V p q).2)) := by
  refine ct_i (by decide) rfl rfl (Nat.le_of_ble_eq_true rfl) ?_
  intro pg en sx mx blw mth cdx hx hb hr hts hown hlk hml hK
  refine g_L (L' := [_, _, _, _]) rfl ?_
  refine g_iload_n hx hb d_GV_carry_0 rfl rfl ?_
  refine g_iload_n hx hb d_GV_carry_1 rfl rfl ?_
  refine g_callSi (nn := 2) ⟨hx, hb, hml.trans rfl, hown, hts⟩ (ct_GV_isLine l D ad ct had _ _ _ (by omega) (by omega)) (mk_S hts t_184 t_185 t_1 t_186 rfl rfl (by decide +kernel) ⟨Nat.le_of_ble_eq_true rfl, Nat.le_of_ble_eq_true rfl⟩) (fun _ h => h) (gK_ok D ct) hK (Nat.le_of_ble_eq_true rfl) ⟨Nat.zero_le _, Nat.zero_le _⟩ rfl rfl d_GV_carry_2 ?_
  rintro _ _ ⟨rfl, rfl⟩
  refine n_if_ne (tgt := 10) hx hb d_GV_carry_5 (by decide) bN_lt (fun hn => ?_) (fun hn => ?_)
  · have hn := bN_n0.mp hn
    have hli := hcb.ln (p * 4 + q) (by omega)
    refine g_aload_n hx hb d_GV_carry_10 rfl rfl ?_
    refine g_get hx hb hts (in_mw in_GV) hown hK.1 w_0 rfl 1 (by decide) (hts _ (List.mem_cons_of_mem _ t_100)) rfl d_GV_carry_11 ?_
    refine g_iload_n hx hb d_GV_carry_14 rfl rfl ?_
    refine g_iload_n hx hb d_GV_carry_15 rfl rfl ?_
    refine g_callSi (nn := 2) ⟨hx, hb, hml.trans rfl, hown, hts⟩ (ct_GV_lineIndex l D ad ct had _ _ _) (mk_S hts t_143 t_144 t_1 t_145 rfl rfl (by decide +kernel) ⟨Nat.le_of_ble_eq_true rfl, Nat.le_of_ble_eq_true rfl⟩) (fun _ h => h) (gK_ok D ct) hK (Nat.le_of_ble_eq_true rfl) ⟨Nat.zero_le _, Nat.zero_le _⟩ rfl rfl d_GV_carry_16 ?_
    rintro _ _ ⟨rfl, rfl⟩
    refine g_aald hx hb hK.1 w_2 3 rfl (by omega) (by decide) (fL (by omega)) d_GV_carry_19 ?_
    refine g_callVNi (C := "GroupViews$Line") (nn := 0) ⟨hx, hb, hml.trans rfl, hown, hts⟩ (ct_LN_takeFirst l D ad ct had _ _ (by omega) (by omega) (by omega)) (mk_VN hK hts nw_187 t_189 ts_LN_takeFirst t_3 t_190 rfl rfl (by decide +kernel) ⟨Nat.le_of_ble_eq_true rfl, Nat.le_of_ble_eq_true rfl⟩) hK.1 rfl (w_L (by omega)) rfl (fun _ h => h) (gK_ok D ct) hK (Nat.le_of_ble_eq_true rfl) ⟨Nat.zero_le _, Nat.zero_le _⟩ rfl rfl d_GV_carry_20 ?_
    rintro _ _ (⟨hem, rfl, rfl⟩ | ⟨hem, rfl, rfl⟩)
    · refine g_istore_n (L' := [_, _, _, _]) hx hb d_GV_carry_23 rfl (Nat.le_of_ble_eq_true rfl) rfl ?_
      refine g_iload_n hx hb d_GV_carry_24 rfl rfl ?_
      refine g_iconst hx hb d_GV_carry_25 k_iconst_m1 ?_
      refine g_icmp_ne (tgt := 31) hx hb d_GV_carry_26 (by decide) (fun hm => ?_) (fun hm => ?_)
      · exact absurd rfl hm
      · refine g_iconst hx hb d_GV_carry_29 k_iconst_0 ?_
        have hS : cCarry V p q = (0, V) := by unfold cCarry; rw [if_pos hem]
        exact g_iret hx hb hr hlk d_GV_carry_30 (Or.inr ⟨hn, by rw [hS] <;> first | exact n0_eq | exact n1_eq | exact n2_eq, by rw [hS]⟩)
    · refine g_istore_n (L' := [_, _, _, _]) hx hb d_GV_carry_23 rfl (Nat.le_of_ble_eq_true rfl) rfl ?_
      refine g_iload_n hx hb d_GV_carry_24 rfl rfl ?_
      refine g_iconst hx hb d_GV_carry_25 k_iconst_m1 ?_
      refine g_icmp_ne (tgt := 31) hx hb d_GV_carry_26 (by decide) (fun hm => ?_) (fun hm => ?_)
      · have w80 := hli.2.2 (V (37 + 2 * (p * 4 + q)) 1) (Nat.le_refl _) hem
        refine g_iload_n hx hb d_GV_carry_31 rfl rfl ?_
        refine g_bipush hx hb d_GV_carry_32 k_bipush_64 ?_
        refine n_icmp_ge (tgt := 57) hx hb d_GV_carry_34 (by decide) (by omega) (by omega) (fun h64 => ?_) (fun h64 => ?_)
        · refine g_aload_n hx hb d_GV_carry_57 rfl rfl ?_
          refine g_aload_n hx hb d_GV_carry_58 rfl rfl ?_
          refine g_get hx hb hts (in_mw in_GV) hown hK.1 w_0 rfl 0 (by decide) (hts _ (List.mem_cons_of_mem _ t_99)) rfl d_GV_carry_59 ?_
          refine g_iload_n hx hb d_GV_carry_62 rfl rfl ?_
          refine g_aald hx hb hK.1 w_1 2 rfl hn.2.1 (by decide) (fP hn.2.1) d_GV_carry_63 ?_
          refine g_iload_n hx hb d_GV_carry_64 rfl rfl ?_
          refine g_iload_n hx hb d_GV_carry_65 rfl rfl ?_
          refine g_bipush hx hb d_GV_carry_66 k_bipush_64 ?_
          refine n_isub hx hb d_GV_carry_68 (by omega) ?_
          refine g_callVv (C := "GroupViews") (nn := 3) ⟨hx, hb, hml.trans rfl, hown, hts⟩ (ct_GV_receiveSync l D ad ct had _ _ _ _ hn.2.1 hn.1 (by omega) (by rw [pt_ne (by omega)]; exact hcb.cv p _ hn.1 (by omega)) (by rw [pt_ne (by omega)]; exact hcb.cu p _ hn.1 (by omega))) (mk_V hts t_197 t_199 ts_GV_receiveSync t_1 t_200 rfl rfl (by decide +kernel) ⟨Nat.le_of_ble_eq_true rfl, Nat.le_of_ble_eq_true rfl⟩) hK.1 rfl w_0 rfl (fun _ h => h) (gK_ok D ct) hK (Nat.le_of_ble_eq_true rfl) ⟨Nat.zero_le _, Nat.zero_le _⟩ rfl rfl d_GV_carry_69 ?_
          rintro _ rfl
          refine g_iconst hx hb d_GV_carry_72 k_iconst_2 ?_
          have hS : cCarry V p q = (2, crs (pt V (37 + 2 * (p * 4 + q)) 1 (V (37 + 2 * (p * 4 + q)) 1 + 1)) q p (V (37 + 2 * (p * 4 + q) + 1) (V (37 + 2 * (p * 4 + q)) 1) - 64)) := by unfold cCarry; rw [if_neg (by omega), if_neg (by omega)]
          exact g_iret hx hb hr hlk d_GV_carry_73 (Or.inr ⟨hn, by rw [hS] <;> first | exact n0_eq | exact n1_eq | exact n2_eq, by rw [hS]⟩)
        · refine g_aload_n hx hb d_GV_carry_37 rfl rfl ?_
          refine g_get hx hb hts (in_mw in_GV) hown hK.1 w_0 rfl 0 (by decide) (hts _ (List.mem_cons_of_mem _ t_99)) rfl d_GV_carry_38 ?_
          refine g_iload_n hx hb d_GV_carry_41 rfl rfl ?_
          refine g_aald hx hb hK.1 w_1 2 rfl hn.2.1 (by decide) (fP hn.2.1) d_GV_carry_42 ?_
          refine g_iload_n hx hb d_GV_carry_43 rfl rfl ?_
          refine g_callSi (nn := 1) ⟨hx, hb, hml.trans rfl, hown, hts⟩ (ct_GV_viewOfSlot l D ad ct had _ _ (by omega)) (mk_S hts t_191 t_192 t_1 t_193 rfl rfl (by decide +kernel) ⟨Nat.le_of_ble_eq_true rfl, Nat.le_of_ble_eq_true rfl⟩) (fun _ h => h) (gK_ok D ct) hK (Nat.le_of_ble_eq_true rfl) ⟨Nat.zero_le _, Nat.zero_le _⟩ rfl rfl d_GV_carry_44 ?_
          rintro _ _ ⟨rfl, rfl⟩
          refine g_iload_n hx hb d_GV_carry_47 rfl rfl ?_
          refine g_iload_n hx hb d_GV_carry_48 rfl rfl ?_
          refine g_callSi (nn := 1) ⟨hx, hb, hml.trans rfl, hown, hts⟩ (ct_GV_numberOfSlot l D ad ct had _ _ (by omega)) (mk_S hts t_194 t_195 t_1 t_196 rfl rfl (by decide +kernel) ⟨Nat.le_of_ble_eq_true rfl, Nat.le_of_ble_eq_true rfl⟩) (fun _ h => h) (gK_ok D ct) hK (Nat.le_of_ble_eq_true rfl) ⟨Nat.zero_le _, Nat.zero_le _⟩ rfl rfl d_GV_carry_49 ?_
          rintro _ _ ⟨rfl, rfl⟩
          refine g_callVNv (C := "GroupViews$ProcessState") (nn := 3) ⟨hx, hb, hml.trans rfl, hown, hts⟩ (ct_PS_learnMessage l D ad ct had _ _ _ _ _ hn.2.1 (by omega) (by omega)) (mk_VN hK hts nw_128 t_130 ts_PS_learnMessage t_2 t_131 rfl rfl (by decide +kernel) ⟨Nat.le_of_ble_eq_true rfl, Nat.le_of_ble_eq_true rfl⟩) hK.1 rfl (w_P hn.2.1) rfl (fun _ h => h) (gK_ok D ct) hK (Nat.le_of_ble_eq_true rfl) ⟨Nat.zero_le _, Nat.zero_le _⟩ rfl rfl d_GV_carry_52 ?_
          rintro _ rfl
          refine g_iconst hx hb d_GV_carry_55 k_iconst_1 ?_
          have hS : cCarry V p q = (1, cln (pt V (37 + 2 * (p * 4 + q)) 1 (V (37 + 2 * (p * 4 + q)) 1 + 1)) q (V (37 + 2 * (p * 4 + q) + 1) (V (37 + 2 * (p * 4 + q)) 1) / 4) p (V (37 + 2 * (p * 4 + q) + 1) (V (37 + 2 * (p * 4 + q)) 1) % 4 + 1)) := by unfold cCarry; rw [if_neg (by omega), if_pos h64]
          exact g_iret hx hb hr hlk d_GV_carry_56 (Or.inr ⟨hn, by rw [hS] <;> first | exact n0_eq | exact n1_eq | exact n2_eq, by rw [hS]⟩)
      · exact absurd hm (q_nm1 (by have := hli.2.2 (V (37 + 2 * (p * 4 + q)) 1) (Nat.le_refl _) hem; omega))
  · have hn := bN_0.mp hn
    refine g_iconst hx hb d_GV_carry_8 k_iconst_m1 ?_
    exact g_iret hx hb hr hlk d_GV_carry_9 (Or.inl ⟨hn, rfl, rfl⟩)
set_option maxRecDepth 100000 in
set_option maxHeartbeats 4000000 in
theorem ct_GV_step (l : Launch) (D : va_G) (ad : Nat → Nat) (ct : Nat → ClassId) (had : adOk ad) (V : VV) (n : Nat) (h1 : n < 2 ^ 32) (hcb : CB V) : CTi l y_GV_step (mw y_GV_step c_GV_step 6 (some .int)) { frames := 3, cells := 0, slots := 0, locals := 79 } (gK D ct) D vcl (gA ad) [.ref (ad 0), .int (nI n)] (gw ad ct V) (fun r w => (¬ n < 4 ∧ r = -1 ∧ w = gw ad ct V) ∨ (n < 4 ∧ ∃ X', cStep V n r X' ∧ w = gw ad ct X')) := by
  refine ct_i (by decide) rfl rfl (Nat.le_of_ble_eq_true rfl) ?_
  intro pg en sx mx blw mth cdx hx hb hr hts hown hlk hml hK
  refine g_L (L' := [_, _, _, _, _, _]) rfl ?_
  refine g_iload_n hx hb d_GV_step_0 rfl rfl ?_
  refine g_callSi (nn := 1) ⟨hx, hb, hml.trans rfl, hown, hts⟩ (ct_GV_isProcess l D ad ct had _ _ (by omega)) (mk_S hts t_119 t_120 t_1 t_121 rfl rfl (by decide +kernel) ⟨Nat.le_of_ble_eq_true rfl, Nat.le_of_ble_eq_true rfl⟩) (fun _ h => h) (gK_ok D ct) hK (Nat.le_of_ble_eq_true rfl) ⟨Nat.zero_le _, Nat.zero_le _⟩ rfl rfl d_GV_step_1 ?_
  rintro _ _ ⟨rfl, rfl⟩
  refine n_if_ne (tgt := 9) hx hb d_GV_step_4 (by decide) bN_lt (fun hn => ?_) (fun hn => ?_)
  · have hn := bN_n0.mp hn
    have hpa := hcb.p n hn
    have hde := hpa.2.2.2.2.2.2.2.2
    refine g_aload_n hx hb d_GV_step_9 rfl rfl ?_
    refine g_get hx hb hts (in_mw in_GV) hown hK.1 w_0 rfl 0 (by decide) (hts _ (List.mem_cons_of_mem _ t_99)) rfl d_GV_step_10 ?_
    refine g_iload_n hx hb d_GV_step_13 rfl rfl ?_
    refine g_aald hx hb hK.1 w_1 2 rfl hn (by decide) (fP hn) d_GV_step_14 ?_
    refine g_astore_n (L' := [_, _, _, _, _, _]) hx hb d_GV_step_15 rfl (Nat.le_of_ble_eq_true rfl) rfl ?_
    refine g_aload_n hx hb d_GV_step_16 rfl rfl ?_
    refine g_getN hx hb hts (in_mw in_PS) hown hK.1 (w_P hn) rfl 4 (by decide) (nst_use hK nw_29 _) rfl d_GV_step_17 ?_
    refine n_if_ne (tgt := 31) hx hb d_GV_step_20 (by decide) (by omega) (fun hbl => ?_) (fun hbl => ?_)
    · refine g_aload_n hx hb d_GV_step_31 rfl rfl ?_
      refine g_getN hx hb hts (in_mw in_PS) hown hK.1 (w_P hn) rfl 5 (by decide) (nst_use hK nw_31 _) rfl d_GV_step_32 ?_
      refine n_if_ne (tgt := 40) hx hb d_GV_step_35 (by decide) (by omega) (fun hpe => ?_) (fun hpe => ?_)
      · have hs16 := hcb.s (V (5 + 8 * n) 5) (by omega)
        have hps := cps_lt hcb hn
        have hcm : (V 3 (V (5 + 8 * n) 5) &&& cps V n) < 16 := Nat.lt_of_le_of_lt Nat.and_le_left hs16
        refine g_aload_n hx hb d_GV_step_40 rfl rfl ?_
        refine g_get hx hb hts (in_mw in_GV) hown hK.1 w_0 rfl 2 (by decide) (hts _ (List.mem_cons_of_mem _ t_101)) rfl d_GV_step_41 ?_
        refine g_aload_n hx hb d_GV_step_44 rfl rfl ?_
        refine g_getN hx hb hts (in_mw in_PS) hown hK.1 (w_P hn) rfl 5 (by decide) (nst_use hK nw_31 _) rfl d_GV_step_45 ?_
        refine g_iald hx hb hK.1 w_3 0 rfl (show _ < 16 by omega) (by decide) rfl d_GV_step_48 ?_
        refine g_aload_n hx hb d_GV_step_49 rfl rfl ?_
        refine g_iload_n hx hb d_GV_step_50 rfl rfl ?_
        refine g_callVi (C := "GroupViews") (nn := 1) ⟨hx, hb, hml.trans rfl, hown, hts⟩ (ct_GV_presentSet l D ad ct had _ _ hn (by omega)) (mk_V hts t_132 t_134 ts_GV_presentSet t_1 t_135 rfl rfl (by decide +kernel) ⟨Nat.le_of_ble_eq_true rfl, Nat.le_of_ble_eq_true rfl⟩) hK.1 rfl w_0 rfl (fun _ h => h) (gK_ok D ct) hK (Nat.le_of_ble_eq_true rfl) ⟨Nat.zero_le _, Nat.zero_le _⟩ rfl rfl d_GV_step_51 ?_
        rintro _ _ ⟨rfl, rfl⟩
        refine n_iand hx hb d_GV_step_54 ?_
        refine g_istore_n (L' := [_, _, _, _, _, _]) hx hb d_GV_step_55 rfl (Nat.le_of_ble_eq_true rfl) rfl ?_
        refine g_aload_n hx hb d_GV_step_56 rfl rfl ?_
        refine g_aload_n hx hb d_GV_step_57 rfl rfl ?_
        refine g_iload_n hx hb d_GV_step_58 rfl rfl ?_
        refine g_callVi (C := "GroupViews") (nn := 2) ⟨hx, hb, hml.trans rfl, hown, hts⟩ (ct_GV_isReady l D ad ct had _ _ _ hn hcm hcb) (mk_V hts t_225 t_227 ts_GV_isReady t_1 t_228 rfl rfl (by decide +kernel) ⟨Nat.le_of_ble_eq_true rfl, Nat.le_of_ble_eq_true rfl⟩) hK.1 rfl w_0 rfl (fun _ h => h) (gK_ok D ct) hK (Nat.le_of_ble_eq_true rfl) ⟨Nat.zero_le _, Nat.zero_le _⟩ rfl rfl d_GV_step_59 ?_
        rintro _ _ ⟨rfl, rfl⟩
        refine n_if_ne (tgt := 67) hx hb d_GV_step_62 (by decide) bC_lt (fun hrd => ?_) (fun hrd => ?_)
        · have hrd := bC_n0.mp hrd
          have hco : (cco V n (V 3 (V (5 + 8 * n) 5) &&& cps V n) 4) < 16 := cco_lt 4 (by decide)
          have hlm := cli_pkd hcb (v := V (5 + 8 * n) 5) (cs := (cco V n (V 3 (V (5 + 8 * n) 5) &&& cps V n) 4)) (by omega) 4 (by decide)
          have llm := pkd_lt hlm
          have lde := pkd_lt hde
          refine g_aload_n hx hb d_GV_step_67 rfl rfl ?_
          refine g_aload_n hx hb d_GV_step_68 rfl rfl ?_
          refine g_iload_n hx hb d_GV_step_69 rfl rfl ?_
          refine g_callVi (C := "GroupViews") (nn := 2) ⟨hx, hb, hml.trans rfl, hown, hts⟩ (ct_GV_companionsAmong l D ad ct had _ _ _ hn hcm hcb) (mk_V hts t_233 t_235 ts_GV_companionsAmong t_1 t_236 rfl rfl (by decide +kernel) ⟨Nat.le_of_ble_eq_true rfl, Nat.le_of_ble_eq_true rfl⟩) hK.1 rfl w_0 rfl (fun _ h => h) (gK_ok D ct) hK (Nat.le_of_ble_eq_true rfl) ⟨Nat.zero_le _, Nat.zero_le _⟩ rfl rfl d_GV_step_70 ?_
          rintro _ _ ⟨rfl, rfl⟩
          refine g_istore (L' := [_, _, _, _, _, _]) hx hb d_GV_step_73 (Nat.le_of_ble_eq_true rfl) rfl ?_
          refine g_aload_n hx hb d_GV_step_75 rfl rfl ?_
          refine g_aload_n hx hb d_GV_step_76 rfl rfl ?_
          refine g_getN hx hb hts (in_mw in_PS) hown hK.1 (w_P hn) rfl 5 (by decide) (nst_use hK nw_31 _) rfl d_GV_step_77 ?_
          refine g_iload hx hb d_GV_step_80 rfl ?_
          refine g_callVi (C := "GroupViews") (nn := 2) ⟨hx, hb, hml.trans rfl, hown, hts⟩ (ct_GV_limitsOf l D ad ct had _ _ _ (by omega) hco hcb) (mk_V hts t_237 t_239 ts_GV_limitsOf t_1 t_240 rfl rfl (by decide +kernel) ⟨Nat.le_of_ble_eq_true rfl, Nat.le_of_ble_eq_true rfl⟩) hK.1 rfl w_0 rfl (fun _ h => h) (gK_ok D ct) hK (Nat.le_of_ble_eq_true rfl) ⟨Nat.zero_le _, Nat.zero_le _⟩ rfl rfl d_GV_step_82 ?_
          rintro _ _ ⟨rfl, rfl⟩
          refine g_istore (L' := [_, _, _, _, _, _]) hx hb d_GV_step_85 (Nat.le_of_ble_eq_true rfl) rfl ?_
          refine g_aload_n hx hb d_GV_step_87 rfl rfl ?_
          refine g_aload_n hx hb d_GV_step_88 rfl rfl ?_
          refine g_iload hx hb d_GV_step_89 rfl ?_
          refine g_callVi (C := "GroupViews") (nn := 2) ⟨hx, hb, hml.trans rfl, hown, hts⟩ (ct_GV_deliverOne l D ad ct had _ _ _ hn hlm hcb) (mk_V hts t_209 t_211 ts_GV_deliverOne t_1 t_212 rfl rfl (by decide +kernel) ⟨Nat.le_of_ble_eq_true rfl, Nat.le_of_ble_eq_true rfl⟩) hK.1 rfl w_0 rfl (fun _ h => h) (gK_ok D ct) hK (Nat.le_of_ble_eq_true rfl) ⟨Nat.zero_le _, Nat.zero_le _⟩ rfl rfl d_GV_step_91 ?_
          rintro r1 _ ⟨X1, hd1, rfl⟩
          refine g_iconst hx hb d_GV_step_94 k_iconst_1 ?_
          refine g_icmp_ne (tgt := 100) hx hb d_GV_step_95 (by decide) (fun hr1 => ?_) (fun hr1 => ?_)
          · have hX : r1 = 0 ∧ (∀ j, j < 4 → ¬ cdl V n (cli V (V (5 + 8 * n) 5) (cco V n (V 3 (V (5 + 8 * n) 5) &&& cps V n) 4) 4) j) ∧ X1 = V := by
              rcases hd1 with ⟨z, -⟩ | z
              · exact absurd (z.trans n1_eq.symm) hr1
              · exact z
            refine g_w (congrArg (gw ad ct) hX.2.2) ?_
            refine g_aload_n hx hb d_GV_step_100 rfl rfl ?_
            refine g_getN hx hb hts (in_mw in_PS) hown hK.1 (w_P hn) rfl 8 (by decide) (nst_use hK nw_36 _) rfl d_GV_step_101 ?_
            refine g_iload hx hb d_GV_step_104 rfl ?_
            refine n_icmp_eq (tgt := 111) hx hb d_GV_step_106 (by decide) (by omega) (by omega) (fun heq => ?_) (fun heq => ?_)
            · refine g_aload_n hx hb d_GV_step_111 rfl rfl ?_
              refine g_iconst hx hb d_GV_step_112 k_iconst_2 ?_
              refine g_aload_n hx hb d_GV_step_113 rfl rfl ?_
              refine g_getN hx hb hts (in_mw in_PS) hown hK.1 (w_P hn) rfl 5 (by decide) (nst_use hK nw_31 _) rfl d_GV_step_114 ?_
              refine g_aload_n hx hb d_GV_step_117 rfl rfl ?_
              refine g_get hx hb hts (in_mw in_GV) hown hK.1 w_0 rfl 2 (by decide) (hts _ (List.mem_cons_of_mem _ t_101)) rfl d_GV_step_118 ?_
              refine g_aload_n hx hb d_GV_step_121 rfl rfl ?_
              refine g_getN hx hb hts (in_mw in_PS) hown hK.1 (w_P hn) rfl 5 (by decide) (nst_use hK nw_31 _) rfl d_GV_step_122 ?_
              refine g_iald hx hb hK.1 w_3 0 rfl (show _ < 16 by omega) (by decide) rfl d_GV_step_125 ?_
              refine g_iload hx hb d_GV_step_126 rfl ?_
              refine g_callVNv (C := "GroupViews$ProcessState") (nn := 4) ⟨hx, hb, hml.trans rfl, hown, hts⟩ (ct_PS_setEvent l D ad ct had _ _ _ _ _ _ hn) (mk_VN hK hts nw_221 t_223 ts_PS_setEvent t_2 t_224 rfl rfl (by decide +kernel) ⟨Nat.le_of_ble_eq_true rfl, Nat.le_of_ble_eq_true rfl⟩) hK.1 rfl (w_P hn) rfl (fun _ h => h) (gK_ok D ct) hK (Nat.le_of_ble_eq_true rfl) ⟨Nat.zero_le _, Nat.zero_le _⟩ rfl rfl d_GV_step_128 ?_
              rintro _ rfl
              refine g_aload_n hx hb d_GV_step_131 rfl rfl ?_
              refine g_callVNv (C := "GroupViews$ProcessState") (nn := 0) ⟨hx, hb, hml.trans rfl, hown, hts⟩ (ct_PS_enterPending l D ad ct had _ _ hn) (mk_VN hK hts nw_247 t_249 ts_PS_enterPending t_2 t_250 rfl rfl (by decide +kernel) ⟨Nat.le_of_ble_eq_true rfl, Nat.le_of_ble_eq_true rfl⟩) hK.1 rfl (w_P hn) rfl (fun _ h => h) (gK_ok D ct) hK (Nat.le_of_ble_eq_true rfl) ⟨Nat.zero_le _, Nat.zero_le _⟩ rfl rfl d_GV_step_132 ?_
              rintro _ rfl
              refine g_iconst hx hb d_GV_step_135 k_iconst_2 ?_
              exact g_iret hx hb hr hlk d_GV_step_136 (Or.inr ⟨hn, _, Or.inr (Or.inr (Or.inr ⟨hbl, hpe, hrd, Or.inr ⟨Or.inr ⟨rfl, hX.2.1, rfl⟩, Or.inr ⟨heq, rfl, rfl⟩⟩⟩)), rfl⟩)
            · refine g_iconst hx hb d_GV_step_109 k_iconst_0 ?_
              exact g_iret hx hb hr hlk d_GV_step_110 (Or.inr ⟨hn, _, Or.inr (Or.inr (Or.inr ⟨hbl, hpe, hrd, Or.inr ⟨Or.inr ⟨rfl, hX.2.1, rfl⟩, Or.inl ⟨heq, rfl, rfl⟩⟩⟩)), rfl⟩)
          · have hr1 := hr1.trans n1_eq
            refine g_iconst hx hb d_GV_step_98 k_iconst_1 ?_
            exact g_iret hx hb hr hlk d_GV_step_99 (Or.inr ⟨hn, X1, Or.inr (Or.inr (Or.inr ⟨hbl, hpe, hrd, Or.inl ⟨n1_eq, hr1 ▸ hd1⟩⟩)), rfl⟩)
        · have hrd := bC_0.mp hrd
          refine g_iconst hx hb d_GV_step_65 k_iconst_0 ?_
          exact g_iret hx hb hr hlk d_GV_step_66 (Or.inr ⟨hn, _, Or.inr (Or.inr (Or.inl ⟨hbl, hpe, hrd, rfl, rfl⟩)), rfl⟩)
      · refine g_iconst hx hb d_GV_step_38 k_iconst_0 ?_
        exact g_iret hx hb hr hlk d_GV_step_39 (Or.inr ⟨hn, _, Or.inr (Or.inl ⟨hbl, hpe, rfl, rfl⟩), rfl⟩)
    · refine g_aload_n hx hb d_GV_step_23 rfl rfl ?_
      refine g_aload_n hx hb d_GV_step_24 rfl rfl ?_
      refine g_ldc hx hb d_GV_step_25 hown (hts _ (List.mem_cons_of_mem _ t_208)) ?_
      refine g_val (show _ = nI 67372036 by decide +kernel) ?_
      refine g_callVi (C := "GroupViews") (nn := 2) ⟨hx, hb, hml.trans rfl, hown, hts⟩ (ct_GV_deliverOne l D ad ct had _ _ _ hn ⟨by decide, c4 (by decide) (by decide) (by decide) (by decide)⟩ hcb) (mk_V hts t_209 t_211 ts_GV_deliverOne t_1 t_212 rfl rfl (by decide +kernel) ⟨Nat.le_of_ble_eq_true rfl, Nat.le_of_ble_eq_true rfl⟩) hK.1 rfl w_0 rfl (fun _ h => h) (gK_ok D ct) hK (Nat.le_of_ble_eq_true rfl) ⟨Nat.zero_le _, Nat.zero_le _⟩ rfl rfl d_GV_step_27 ?_
      rintro r1 _ ⟨X1, hd1, rfl⟩
      exact g_iret hx hb hr hlk d_GV_step_30 (Or.inr ⟨hn, X1, Or.inl ⟨hbl, hd1⟩, rfl⟩)
  · have hn := bN_0.mp hn
    refine g_iconst hx hb d_GV_step_7 k_iconst_m1 ?_
    exact g_iret hx hb hr hlk d_GV_step_8 (Or.inl ⟨hn, rfl, rfl⟩)
set_option maxRecDepth 100000 in
set_option maxHeartbeats 4000000 in
theorem ct_GV_view (l : Launch) (D : va_G) (ad : Nat → Nat) (ct : Nat → ClassId) (had : adOk ad) (V : VV) (n : Nat) (h1 : n < 2 ^ 32) : CTi l y_GV_view (mw y_GV_view c_GV_view 2 (some .int)) { frames := 1, cells := 0, slots := 0, locals := 20 } (gK D ct) D vcl (gA ad) [.ref (ad 0), .int (nI n)] (gw ad ct V) (fun r w => (¬ n < 4 ∧ r = -1 ∧ w = gw ad ct V) ∨ (n < 4 ∧ r = nI (V (5 + 8 * n) 0) ∧ w = gw ad ct V)) := by
  refine ct_i (by decide) rfl rfl (Nat.le_of_ble_eq_true rfl) ?_
  intro pg en sx mx blw mth cdx hx hb hr hts hown hlk hml hK
  refine g_L (L' := [_, _]) rfl ?_
  refine g_iload_n hx hb d_GV_view_0 rfl rfl ?_
  refine g_callSi (nn := 1) ⟨hx, hb, hml.trans rfl, hown, hts⟩ (ct_GV_isProcess l D ad ct had _ _ (by omega)) (mk_S hts t_119 t_120 t_1 t_121 rfl rfl (by decide +kernel) ⟨Nat.le_of_ble_eq_true rfl, Nat.le_of_ble_eq_true rfl⟩) (fun _ h => h) (gK_ok D ct) hK (Nat.le_of_ble_eq_true rfl) ⟨Nat.zero_le _, Nat.zero_le _⟩ rfl rfl d_GV_view_1 ?_
  rintro _ _ ⟨rfl, rfl⟩
  refine n_if_eq (tgt := 19) hx hb d_GV_view_4 (by decide) bN_lt (fun hn => ?_) (fun hn => ?_)
  · have hn := bN_0.mp hn
    refine g_iconst hx hb d_GV_view_19 k_iconst_m1 ?_
    exact g_iret hx hb hr hlk d_GV_view_20 (Or.inl ⟨hn, rfl, rfl⟩)
  · have hn := bN_n0.mp hn
    refine g_aload_n hx hb d_GV_view_7 rfl rfl ?_
    refine g_get hx hb hts (in_mw in_GV) hown hK.1 w_0 rfl 0 (by decide) (hts _ (List.mem_cons_of_mem _ t_99)) rfl d_GV_view_8 ?_
    refine g_iload_n hx hb d_GV_view_11 rfl rfl ?_
    refine g_aald hx hb hK.1 w_1 2 rfl hn (by decide) (fP hn) d_GV_view_12 ?_
    refine g_getN hx hb hts (in_mw in_PS) hown hK.1 (w_P hn) rfl 0 (by decide) (nst_use hK nw_24 _) rfl d_GV_view_13 ?_
    refine g_goto (tgt := 20) hx hb d_GV_view_16 (by decide) ?_
    exact g_iret hx hb hr hlk d_GV_view_20 (Or.inr ⟨hn, rfl, rfl⟩)
set_option maxRecDepth 100000 in
set_option maxHeartbeats 4000000 in
theorem ct_GV_pending (l : Launch) (D : va_G) (ad : Nat → Nat) (ct : Nat → ClassId) (had : adOk ad) (V : VV) (n : Nat) (h1 : n < 2 ^ 32) : CTi l y_GV_pending (mw y_GV_pending c_GV_pending 2 (some .int)) { frames := 1, cells := 0, slots := 0, locals := 20 } (gK D ct) D vcl (gA ad) [.ref (ad 0), .int (nI n)] (gw ad ct V) (fun r w => (¬ n < 4 ∧ r = -1 ∧ w = gw ad ct V) ∨ (n < 4 ∧ r = nI (V (5 + 8 * n) 5) ∧ w = gw ad ct V)) := by
  refine ct_i (by decide) rfl rfl (Nat.le_of_ble_eq_true rfl) ?_
  intro pg en sx mx blw mth cdx hx hb hr hts hown hlk hml hK
  refine g_L (L' := [_, _]) rfl ?_
  refine g_iload_n hx hb d_GV_pending_0 rfl rfl ?_
  refine g_callSi (nn := 1) ⟨hx, hb, hml.trans rfl, hown, hts⟩ (ct_GV_isProcess l D ad ct had _ _ (by omega)) (mk_S hts t_119 t_120 t_1 t_121 rfl rfl (by decide +kernel) ⟨Nat.le_of_ble_eq_true rfl, Nat.le_of_ble_eq_true rfl⟩) (fun _ h => h) (gK_ok D ct) hK (Nat.le_of_ble_eq_true rfl) ⟨Nat.zero_le _, Nat.zero_le _⟩ rfl rfl d_GV_pending_1 ?_
  rintro _ _ ⟨rfl, rfl⟩
  refine n_if_eq (tgt := 19) hx hb d_GV_pending_4 (by decide) bN_lt (fun hn => ?_) (fun hn => ?_)
  · have hn := bN_0.mp hn
    refine g_iconst hx hb d_GV_pending_19 k_iconst_m1 ?_
    exact g_iret hx hb hr hlk d_GV_pending_20 (Or.inl ⟨hn, rfl, rfl⟩)
  · have hn := bN_n0.mp hn
    refine g_aload_n hx hb d_GV_pending_7 rfl rfl ?_
    refine g_get hx hb hts (in_mw in_GV) hown hK.1 w_0 rfl 0 (by decide) (hts _ (List.mem_cons_of_mem _ t_99)) rfl d_GV_pending_8 ?_
    refine g_iload_n hx hb d_GV_pending_11 rfl rfl ?_
    refine g_aald hx hb hK.1 w_1 2 rfl hn (by decide) (fP hn) d_GV_pending_12 ?_
    refine g_getN hx hb hts (in_mw in_PS) hown hK.1 (w_P hn) rfl 5 (by decide) (nst_use hK nw_31 _) rfl d_GV_pending_13 ?_
    refine g_goto (tgt := 20) hx hb d_GV_pending_16 (by decide) ?_
    exact g_iret hx hb hr hlk d_GV_pending_20 (Or.inr ⟨hn, rfl, rfl⟩)
set_option maxRecDepth 100000 in
set_option maxHeartbeats 4000000 in
theorem ct_GV_changes (l : Launch) (D : va_G) (ad : Nat → Nat) (ct : Nat → ClassId) (had : adOk ad) (V : VV) (n : Nat) (h1 : n < 2 ^ 32) : CTi l y_GV_changes (mw y_GV_changes c_GV_changes 2 (some .int)) { frames := 1, cells := 0, slots := 0, locals := 20 } (gK D ct) D vcl (gA ad) [.ref (ad 0), .int (nI n)] (gw ad ct V) (fun r w => (¬ n < 4 ∧ r = -1 ∧ w = gw ad ct V) ∨ (n < 4 ∧ r = nI (V (5 + 8 * n) 1) ∧ w = gw ad ct V)) := by
  refine ct_i (by decide) rfl rfl (Nat.le_of_ble_eq_true rfl) ?_
  intro pg en sx mx blw mth cdx hx hb hr hts hown hlk hml hK
  refine g_L (L' := [_, _]) rfl ?_
  refine g_iload_n hx hb d_GV_changes_0 rfl rfl ?_
  refine g_callSi (nn := 1) ⟨hx, hb, hml.trans rfl, hown, hts⟩ (ct_GV_isProcess l D ad ct had _ _ (by omega)) (mk_S hts t_119 t_120 t_1 t_121 rfl rfl (by decide +kernel) ⟨Nat.le_of_ble_eq_true rfl, Nat.le_of_ble_eq_true rfl⟩) (fun _ h => h) (gK_ok D ct) hK (Nat.le_of_ble_eq_true rfl) ⟨Nat.zero_le _, Nat.zero_le _⟩ rfl rfl d_GV_changes_1 ?_
  rintro _ _ ⟨rfl, rfl⟩
  refine n_if_eq (tgt := 19) hx hb d_GV_changes_4 (by decide) bN_lt (fun hn => ?_) (fun hn => ?_)
  · have hn := bN_0.mp hn
    refine g_iconst hx hb d_GV_changes_19 k_iconst_m1 ?_
    exact g_iret hx hb hr hlk d_GV_changes_20 (Or.inl ⟨hn, rfl, rfl⟩)
  · have hn := bN_n0.mp hn
    refine g_aload_n hx hb d_GV_changes_7 rfl rfl ?_
    refine g_get hx hb hts (in_mw in_GV) hown hK.1 w_0 rfl 0 (by decide) (hts _ (List.mem_cons_of_mem _ t_99)) rfl d_GV_changes_8 ?_
    refine g_iload_n hx hb d_GV_changes_11 rfl rfl ?_
    refine g_aald hx hb hK.1 w_1 2 rfl hn (by decide) (fP hn) d_GV_changes_12 ?_
    refine g_getN hx hb hts (in_mw in_PS) hown hK.1 (w_P hn) rfl 1 (by decide) (nst_use hK nw_26 _) rfl d_GV_changes_13 ?_
    refine g_goto (tgt := 20) hx hb d_GV_changes_16 (by decide) ?_
    exact g_iret hx hb hr hlk d_GV_changes_20 (Or.inr ⟨hn, rfl, rfl⟩)
set_option maxRecDepth 100000 in
set_option maxHeartbeats 4000000 in
theorem ct_GV_sent (l : Launch) (D : va_G) (ad : Nat → Nat) (ct : Nat → ClassId) (had : adOk ad) (V : VV) (n : Nat) (h1 : n < 2 ^ 32) : CTi l y_GV_sent (mw y_GV_sent c_GV_sent 2 (some .int)) { frames := 1, cells := 0, slots := 0, locals := 20 } (gK D ct) D vcl (gA ad) [.ref (ad 0), .int (nI n)] (gw ad ct V) (fun r w => (¬ n < 4 ∧ r = -1 ∧ w = gw ad ct V) ∨ (n < 4 ∧ r = nI (V (5 + 8 * n) 7) ∧ w = gw ad ct V)) := by
  refine ct_i (by decide) rfl rfl (Nat.le_of_ble_eq_true rfl) ?_
  intro pg en sx mx blw mth cdx hx hb hr hts hown hlk hml hK
  refine g_L (L' := [_, _]) rfl ?_
  refine g_iload_n hx hb d_GV_sent_0 rfl rfl ?_
  refine g_callSi (nn := 1) ⟨hx, hb, hml.trans rfl, hown, hts⟩ (ct_GV_isProcess l D ad ct had _ _ (by omega)) (mk_S hts t_119 t_120 t_1 t_121 rfl rfl (by decide +kernel) ⟨Nat.le_of_ble_eq_true rfl, Nat.le_of_ble_eq_true rfl⟩) (fun _ h => h) (gK_ok D ct) hK (Nat.le_of_ble_eq_true rfl) ⟨Nat.zero_le _, Nat.zero_le _⟩ rfl rfl d_GV_sent_1 ?_
  rintro _ _ ⟨rfl, rfl⟩
  refine n_if_eq (tgt := 19) hx hb d_GV_sent_4 (by decide) bN_lt (fun hn => ?_) (fun hn => ?_)
  · have hn := bN_0.mp hn
    refine g_iconst hx hb d_GV_sent_19 k_iconst_m1 ?_
    exact g_iret hx hb hr hlk d_GV_sent_20 (Or.inl ⟨hn, rfl, rfl⟩)
  · have hn := bN_n0.mp hn
    refine g_aload_n hx hb d_GV_sent_7 rfl rfl ?_
    refine g_get hx hb hts (in_mw in_GV) hown hK.1 w_0 rfl 0 (by decide) (hts _ (List.mem_cons_of_mem _ t_99)) rfl d_GV_sent_8 ?_
    refine g_iload_n hx hb d_GV_sent_11 rfl rfl ?_
    refine g_aald hx hb hK.1 w_1 2 rfl hn (by decide) (fP hn) d_GV_sent_12 ?_
    refine g_getN hx hb hts (in_mw in_PS) hown hK.1 (w_P hn) rfl 7 (by decide) (nst_use hK nw_34 _) rfl d_GV_sent_13 ?_
    refine g_goto (tgt := 20) hx hb d_GV_sent_16 (by decide) ?_
    exact g_iret hx hb hr hlk d_GV_sent_20 (Or.inr ⟨hn, rfl, rfl⟩)
set_option maxRecDepth 100000 in
set_option maxHeartbeats 4000000 in
theorem ct_GV_event (l : Launch) (D : va_G) (ad : Nat → Nat) (ct : Nat → ClassId) (had : adOk ad) (V : VV) (n i : Nat) (h1 : n < 2 ^ 32) (h2 : i < 2 ^ 32) : CTi l y_GV_event (mw y_GV_event c_GV_event 3 (some .int)) { frames := 1, cells := 0, slots := 0, locals := 20 } (gK D ct) D vcl (gA ad) [.ref (ad 0), .int (nI n), .int (nI i)] (gw ad ct V) (fun r w => (¬ (n < 4 ∧ i < 4) ∧ r = 0 ∧ w = gw ad ct V) ∨ ((n < 4 ∧ i < 4) ∧ r = nI (V (5 + 8 * n + 7) i) ∧ w = gw ad ct V)) := by
  refine ct_i (by decide) rfl rfl (Nat.le_of_ble_eq_true rfl) ?_
  intro pg en sx mx blw mth cdx hx hb hr hts hown hlk hml hK
  refine g_L (L' := [_, _, _]) rfl ?_
  refine g_iload_n hx hb d_GV_event_0 rfl rfl ?_
  refine g_callSi (nn := 1) ⟨hx, hb, hml.trans rfl, hown, hts⟩ (ct_GV_isProcess l D ad ct had _ _ (by omega)) (mk_S hts t_119 t_120 t_1 t_121 rfl rfl (by decide +kernel) ⟨Nat.le_of_ble_eq_true rfl, Nat.le_of_ble_eq_true rfl⟩) (fun _ h => h) (gK_ok D ct) hK (Nat.le_of_ble_eq_true rfl) ⟨Nat.zero_le _, Nat.zero_le _⟩ rfl rfl d_GV_event_1 ?_
  rintro _ _ ⟨rfl, rfl⟩
  refine n_if_eq (tgt := 16) hx hb d_GV_event_4 (by decide) bN_lt (fun hn => ?_) (fun hn => ?_)
  · have hn := bN_0.mp hn
    refine g_iconst hx hb d_GV_event_16 k_iconst_0 ?_
    exact g_iret hx hb hr hlk d_GV_event_17 (Or.inl ⟨by omega, rfl, rfl⟩)
  · have hn := bN_n0.mp hn
    refine g_iload_n hx hb d_GV_event_7 rfl rfl ?_
    refine g_if_lt (tgt := 16) hx hb d_GV_event_8 (by decide) (fun hi0 => ?_) (fun hi0 => ?_)
    · have hi0 := (q_lt0 h2).mp hi0
      refine g_iconst hx hb d_GV_event_16 k_iconst_0 ?_
      exact g_iret hx hb hr hlk d_GV_event_17 (Or.inl ⟨by omega, rfl, rfl⟩)
    · have hi0 : i < 2 ^ 31 := Nat.not_le.mp (fun z => hi0 ((q_lt0 h2).mpr z))
      refine g_iload_n hx hb d_GV_event_11 rfl rfl ?_
      refine g_iconst hx hb d_GV_event_12 k_iconst_3 ?_
      refine n_icmp_le (tgt := 18) hx hb d_GV_event_13 (by decide) (by omega) (by omega) (fun hi3 => ?_) (fun hi3 => ?_)
      · refine g_aload_n hx hb d_GV_event_18 rfl rfl ?_
        refine g_get hx hb hts (in_mw in_GV) hown hK.1 w_0 rfl 0 (by decide) (hts _ (List.mem_cons_of_mem _ t_99)) rfl d_GV_event_19 ?_
        refine g_iload_n hx hb d_GV_event_22 rfl rfl ?_
        refine g_aald hx hb hK.1 w_1 2 rfl hn (by decide) (fP hn) d_GV_event_23 ?_
        refine g_getN hx hb hts (in_mw in_PS) hown hK.1 (w_P hn) rfl 15 (by decide) (nst_use hK nw_49 _) rfl d_GV_event_24 ?_
        refine g_iload_n hx hb d_GV_event_27 rfl rfl ?_
        refine g_iald hx hb hK.1 (w_Pa (k := 7) hn (by decide) (by decide)) 0 rfl (show _ < 4 by omega) (by decide) rfl d_GV_event_28 ?_
        exact g_iret hx hb hr hlk d_GV_event_29 (Or.inr ⟨by omega, rfl, rfl⟩)
      · refine g_iconst hx hb d_GV_event_16 k_iconst_0 ?_
        exact g_iret hx hb hr hlk d_GV_event_17 (Or.inl ⟨by omega, rfl, rfl⟩)
set_option maxRecDepth 100000 in
set_option maxHeartbeats 4000000 in
theorem ct_GV_members (l : Launch) (D : va_G) (ad : Nat → Nat) (ct : Nat → ClassId) (had : adOk ad) (V : VV) (v : Nat) (h2 : v < 2 ^ 32) (hcb : CB V) : CTi l y_GV_members (mw y_GV_members c_GV_members 2 (some .int)) { frames := 1, cells := 0, slots := 0, locals := 21 } (gK D ct) D vcl (gA ad) [.ref (ad 0), .int (nI v)] (gw ad ct V) (fun r w => (¬ (1 ≤ v ∧ v ≤ V 0 4) ∧ r = 0 ∧ w = gw ad ct V) ∨ ((1 ≤ v ∧ v ≤ V 0 4) ∧ r = nI (V 3 v) ∧ w = gw ad ct V)) := by
  refine ct_i (by decide) rfl rfl (Nat.le_of_ble_eq_true rfl) ?_
  intro pg en sx mx blw mth cdx hx hb hr hts hown hlk hml hK
  refine g_L (L' := [_, _]) rfl ?_
  have hf := hcb.f
  refine g_aload_n hx hb d_GV_members_0 rfl rfl ?_
  refine g_iload_n hx hb d_GV_members_1 rfl rfl ?_
  refine g_callVi (C := "GroupViews") (nn := 1) ⟨hx, hb, hml.trans rfl, hown, hts⟩ (ct_GV_isFormed l D ad ct had _ _ (by omega) (by omega)) (mk_V hts t_176 t_178 ts_GV_isFormed t_1 t_179 rfl rfl (by decide +kernel) ⟨Nat.le_of_ble_eq_true rfl, Nat.le_of_ble_eq_true rfl⟩) hK.1 rfl w_0 rfl (fun _ h => h) (gK_ok D ct) hK (Nat.le_of_ble_eq_true rfl) ⟨Nat.zero_le _, Nat.zero_le _⟩ rfl rfl d_GV_members_2 ?_
  rintro _ _ ⟨rfl, rfl⟩
  refine n_if_eq (tgt := 17) hx hb d_GV_members_5 (by decide) bN_lt (fun hn => ?_) (fun hn => ?_)
  · have hn := bN_0.mp hn
    refine g_iconst hx hb d_GV_members_17 k_iconst_0 ?_
    exact g_iret hx hb hr hlk d_GV_members_18 (Or.inl ⟨hn, rfl, rfl⟩)
  · have hn := bN_n0.mp hn
    refine g_aload_n hx hb d_GV_members_8 rfl rfl ?_
    refine g_get hx hb hts (in_mw in_GV) hown hK.1 w_0 rfl 2 (by decide) (hts _ (List.mem_cons_of_mem _ t_101)) rfl d_GV_members_9 ?_
    refine g_iload_n hx hb d_GV_members_12 rfl rfl ?_
    refine g_iald hx hb hK.1 w_3 0 rfl (show _ < 16 by omega) (by decide) rfl d_GV_members_13 ?_
    refine g_goto (tgt := 18) hx hb d_GV_members_14 (by decide) ?_
    exact g_iret hx hb hr hlk d_GV_members_18 (Or.inr ⟨hn, rfl, rfl⟩)
set_option maxRecDepth 100000 in
set_option maxHeartbeats 4000000 in
theorem ct_GV_start (l : Launch) (D : va_G) (ad : Nat → Nat) (ct : Nat → ClassId) (had : adOk ad) (V : VV) (v n : Nat) (h2 : v < 2 ^ 32) (h1 : n < 2 ^ 32) (hcb : CB V) : CTi l y_GV_start (mw y_GV_start c_GV_start 3 (some .int)) { frames := 1, cells := 0, slots := 0, locals := 21 } (gK D ct) D vcl (gA ad) [.ref (ad 0), .int (nI v), .int (nI n)] (gw ad ct V) (fun r w => (¬ ((1 ≤ v ∧ v ≤ V 0 4) ∧ n < 4) ∧ r = 0 ∧ w = gw ad ct V) ∨ (((1 ≤ v ∧ v ≤ V 0 4) ∧ n < 4) ∧ r = nI (V 4 (v * 4 + n)) ∧ w = gw ad ct V)) := by
  refine ct_i (by decide) rfl rfl (Nat.le_of_ble_eq_true rfl) ?_
  intro pg en sx mx blw mth cdx hx hb hr hts hown hlk hml hK
  refine g_L (L' := [_, _, _]) rfl ?_
  have hf := hcb.f
  refine g_aload_n hx hb d_GV_start_0 rfl rfl ?_
  refine g_iload_n hx hb d_GV_start_1 rfl rfl ?_
  refine g_callVi (C := "GroupViews") (nn := 1) ⟨hx, hb, hml.trans rfl, hown, hts⟩ (ct_GV_isFormed l D ad ct had _ _ (by omega) (by omega)) (mk_V hts t_176 t_178 ts_GV_isFormed t_1 t_179 rfl rfl (by decide +kernel) ⟨Nat.le_of_ble_eq_true rfl, Nat.le_of_ble_eq_true rfl⟩) hK.1 rfl w_0 rfl (fun _ h => h) (gK_ok D ct) hK (Nat.le_of_ble_eq_true rfl) ⟨Nat.zero_le _, Nat.zero_le _⟩ rfl rfl d_GV_start_2 ?_
  rintro _ _ ⟨rfl, rfl⟩
  refine n_if_eq (tgt := 28) hx hb d_GV_start_5 (by decide) bN_lt (fun hfo => ?_) (fun hfo => ?_)
  · have hfo := bN_0.mp hfo
    refine g_iconst hx hb d_GV_start_28 k_iconst_0 ?_
    exact g_iret hx hb hr hlk d_GV_start_29 (Or.inl ⟨by omega, rfl, rfl⟩)
  · have hfo := bN_n0.mp hfo
    refine g_iload_n hx hb d_GV_start_8 rfl rfl ?_
    refine g_callSi (nn := 1) ⟨hx, hb, hml.trans rfl, hown, hts⟩ (ct_GV_isProcess l D ad ct had _ _ (by omega)) (mk_S hts t_119 t_120 t_1 t_121 rfl rfl (by decide +kernel) ⟨Nat.le_of_ble_eq_true rfl, Nat.le_of_ble_eq_true rfl⟩) (fun _ h => h) (gK_ok D ct) hK (Nat.le_of_ble_eq_true rfl) ⟨Nat.zero_le _, Nat.zero_le _⟩ rfl rfl d_GV_start_9 ?_
    rintro _ _ ⟨rfl, rfl⟩
    refine n_if_eq (tgt := 28) hx hb d_GV_start_12 (by decide) bN_lt (fun hn => ?_) (fun hn => ?_)
    · have hn := bN_0.mp hn
      refine g_iconst hx hb d_GV_start_28 k_iconst_0 ?_
      exact g_iret hx hb hr hlk d_GV_start_29 (Or.inl ⟨by omega, rfl, rfl⟩)
    · have hn := bN_n0.mp hn
      refine g_aload_n hx hb d_GV_start_15 rfl rfl ?_
      refine g_get hx hb hts (in_mw in_GV) hown hK.1 w_0 rfl 3 (by decide) (hts _ (List.mem_cons_of_mem _ t_102)) rfl d_GV_start_16 ?_
      refine g_iload_n hx hb d_GV_start_19 rfl rfl ?_
      refine g_iload_n hx hb d_GV_start_20 rfl rfl ?_
      refine g_callSi (nn := 2) ⟨hx, hb, hml.trans rfl, hown, hts⟩ (ct_GV_startIndex l D ad ct had _ _ _) (mk_S hts t_169 t_170 t_1 t_171 rfl rfl (by decide +kernel) ⟨Nat.le_of_ble_eq_true rfl, Nat.le_of_ble_eq_true rfl⟩) (fun _ h => h) (gK_ok D ct) hK (Nat.le_of_ble_eq_true rfl) ⟨Nat.zero_le _, Nat.zero_le _⟩ rfl rfl d_GV_start_21 ?_
      rintro _ _ ⟨rfl, rfl⟩
      refine g_iald hx hb hK.1 w_4 0 rfl (show _ < 64 by omega) (by decide) rfl d_GV_start_24 ?_
      refine g_goto (tgt := 29) hx hb d_GV_start_25 (by decide) ?_
      exact g_iret hx hb hr hlk d_GV_start_29 (Or.inr ⟨⟨hfo, hn⟩, rfl, rfl⟩)
set_option maxRecDepth 100000 in
set_option maxHeartbeats 4000000 in
theorem ct_GV_blocked (l : Launch) (D : va_G) (ad : Nat → Nat) (ct : Nat → ClassId) (had : adOk ad) (V : VV) (n : Nat) (h1 : n < 2 ^ 32) (hcb : CB V) : CTi l y_GV_blocked (mw y_GV_blocked c_GV_blocked 2 (some .boolean)) { frames := 1, cells := 0, slots := 0, locals := 20 } (gK D ct) D vcl (gA ad) [.ref (ad 0), .int (nI n)] (gw ad ct V) (fun r w => (¬ n < 4 ∧ r = 0 ∧ w = gw ad ct V) ∨ (n < 4 ∧ r = nI (V (5 + 8 * n) 4) ∧ w = gw ad ct V)) := by
  refine ct_i (by decide) rfl rfl (Nat.le_of_ble_eq_true rfl) ?_
  intro pg en sx mx blw mth cdx hx hb hr hts hown hlk hml hK
  refine g_L (L' := [_, _]) rfl ?_
  refine g_iload_n hx hb d_GV_blocked_0 rfl rfl ?_
  refine g_callSi (nn := 1) ⟨hx, hb, hml.trans rfl, hown, hts⟩ (ct_GV_isProcess l D ad ct had _ _ (by omega)) (mk_S hts t_119 t_120 t_1 t_121 rfl rfl (by decide +kernel) ⟨Nat.le_of_ble_eq_true rfl, Nat.le_of_ble_eq_true rfl⟩) (fun _ h => h) (gK_ok D ct) hK (Nat.le_of_ble_eq_true rfl) ⟨Nat.zero_le _, Nat.zero_le _⟩ rfl rfl d_GV_blocked_1 ?_
  rintro _ _ ⟨rfl, rfl⟩
  refine n_if_eq (tgt := 23) hx hb d_GV_blocked_4 (by decide) bN_lt (fun hn => ?_) (fun hn => ?_)
  · have hn := bN_0.mp hn
    refine g_iconst hx hb d_GV_blocked_23 k_iconst_0 ?_
    exact g_zret hx hb hr hlk (by decide +kernel) d_GV_blocked_24 (Or.inl ⟨hn, rfl, rfl⟩)
  · have hn := bN_n0.mp hn
    have hpa := hcb.p n hn
    have hde := hpa.2.2.2.2.2.2.2.2
    refine g_aload_n hx hb d_GV_blocked_7 rfl rfl ?_
    refine g_get hx hb hts (in_mw in_GV) hown hK.1 w_0 rfl 0 (by decide) (hts _ (List.mem_cons_of_mem _ t_99)) rfl d_GV_blocked_8 ?_
    refine g_iload_n hx hb d_GV_blocked_11 rfl rfl ?_
    refine g_aald hx hb hK.1 w_1 2 rfl hn (by decide) (fP hn) d_GV_blocked_12 ?_
    refine g_getN hx hb hts (in_mw in_PS) hown hK.1 (w_P hn) rfl 4 (by decide) (nst_use hK nw_29 _) rfl d_GV_blocked_13 ?_
    refine n_if_eq (tgt := 23) hx hb d_GV_blocked_16 (by decide) (by omega) (fun hbl => ?_) (fun hbl => ?_)
    · refine g_iconst hx hb d_GV_blocked_23 k_iconst_0 ?_
      exact g_zret hx hb hr hlk (by decide +kernel) d_GV_blocked_24 (Or.inr ⟨hn, congrArg nI (by omega), rfl⟩)
    · refine g_iconst hx hb d_GV_blocked_19 k_iconst_1 ?_
      refine g_goto (tgt := 24) hx hb d_GV_blocked_20 (by decide) ?_
      exact g_zret hx hb hr hlk (by decide +kernel) d_GV_blocked_24 (Or.inr ⟨hn, congrArg nI (by omega), rfl⟩)
set_option maxRecDepth 100000 in
set_option maxHeartbeats 4000000 in
theorem ct_GV_delivered (l : Launch) (D : va_G) (ad : Nat → Nat) (ct : Nat → ClassId) (had : adOk ad) (V : VV) (n q : Nat) (h1 : n < 2 ^ 32) (h2 : q < 2 ^ 32) (hcb : CB V) : CTi l y_GV_delivered (mw y_GV_delivered c_GV_delivered 3 (some .int)) { frames := 1, cells := 0, slots := 0, locals := 21 } (gK D ct) D vcl (gA ad) [.ref (ad 0), .int (nI n), .int (nI q)] (gw ad ct V) (fun r w => (¬ (n < 4 ∧ q < 4) ∧ r = -1 ∧ w = gw ad ct V) ∨ ((n < 4 ∧ q < 4) ∧ r = nI (cnt (V (5 + 8 * n) 8) q) ∧ w = gw ad ct V)) := by
  refine ct_i (by decide) rfl rfl (Nat.le_of_ble_eq_true rfl) ?_
  intro pg en sx mx blw mth cdx hx hb hr hts hown hlk hml hK
  refine g_L (L' := [_, _, _]) rfl ?_
  refine g_iload_n hx hb d_GV_delivered_0 rfl rfl ?_
  refine g_callSi (nn := 1) ⟨hx, hb, hml.trans rfl, hown, hts⟩ (ct_GV_isProcess l D ad ct had _ _ (by omega)) (mk_S hts t_119 t_120 t_1 t_121 rfl rfl (by decide +kernel) ⟨Nat.le_of_ble_eq_true rfl, Nat.le_of_ble_eq_true rfl⟩) (fun _ h => h) (gK_ok D ct) hK (Nat.le_of_ble_eq_true rfl) ⟨Nat.zero_le _, Nat.zero_le _⟩ rfl rfl d_GV_delivered_1 ?_
  rintro _ _ ⟨rfl, rfl⟩
  refine n_if_eq (tgt := 14) hx hb d_GV_delivered_4 (by decide) bN_lt (fun hn => ?_) (fun hn => ?_)
  · have hn := bN_0.mp hn
    refine g_iconst hx hb d_GV_delivered_14 k_iconst_m1 ?_
    exact g_iret hx hb hr hlk d_GV_delivered_15 (Or.inl ⟨by omega, rfl, rfl⟩)
  · have hn := bN_n0.mp hn
    have hpa := hcb.p n hn
    have hde := hpa.2.2.2.2.2.2.2.2
    have lde := pkd_lt hde
    refine g_iload_n hx hb d_GV_delivered_7 rfl rfl ?_
    refine g_callSi (nn := 1) ⟨hx, hb, hml.trans rfl, hown, hts⟩ (ct_GV_isProcess l D ad ct had _ _ (by omega)) (mk_S hts t_119 t_120 t_1 t_121 rfl rfl (by decide +kernel) ⟨Nat.le_of_ble_eq_true rfl, Nat.le_of_ble_eq_true rfl⟩) (fun _ h => h) (gK_ok D ct) hK (Nat.le_of_ble_eq_true rfl) ⟨Nat.zero_le _, Nat.zero_le _⟩ rfl rfl d_GV_delivered_8 ?_
    rintro _ _ ⟨rfl, rfl⟩
    refine n_if_ne (tgt := 16) hx hb d_GV_delivered_11 (by decide) bN_lt (fun hq => ?_) (fun hq => ?_)
    · have hq := bN_n0.mp hq
      refine g_aload_n hx hb d_GV_delivered_16 rfl rfl ?_
      refine g_get hx hb hts (in_mw in_GV) hown hK.1 w_0 rfl 0 (by decide) (hts _ (List.mem_cons_of_mem _ t_99)) rfl d_GV_delivered_17 ?_
      refine g_iload_n hx hb d_GV_delivered_20 rfl rfl ?_
      refine g_aald hx hb hK.1 w_1 2 rfl hn (by decide) (fP hn) d_GV_delivered_21 ?_
      refine g_getN hx hb hts (in_mw in_PS) hown hK.1 (w_P hn) rfl 8 (by decide) (nst_use hK nw_36 _) rfl d_GV_delivered_22 ?_
      refine g_iload_n hx hb d_GV_delivered_25 rfl rfl ?_
      refine g_callSi (nn := 2) ⟨hx, hb, hml.trans rfl, hown, hts⟩ (ct_GV_countOf l D ad ct had _ _ _ (by omega) (by omega)) (mk_S hts t_201 t_202 t_1 t_203 rfl rfl (by decide +kernel) ⟨Nat.le_of_ble_eq_true rfl, Nat.le_of_ble_eq_true rfl⟩) (fun _ h => h) (gK_ok D ct) hK (Nat.le_of_ble_eq_true rfl) ⟨Nat.zero_le _, Nat.zero_le _⟩ rfl rfl d_GV_delivered_26 ?_
      rintro _ _ ⟨rfl, rfl⟩
      exact g_iret hx hb hr hlk d_GV_delivered_29 (Or.inr ⟨⟨hn, hq⟩, rfl, rfl⟩)
    · have hq := bN_0.mp hq
      refine g_iconst hx hb d_GV_delivered_14 k_iconst_m1 ?_
      exact g_iret hx hb hr hlk d_GV_delivered_15 (Or.inl ⟨by omega, rfl, rfl⟩)
set_option maxRecDepth 100000 in
set_option maxHeartbeats 4000000 in
theorem ct_GV_known (l : Launch) (D : va_G) (ad : Nat → Nat) (ct : Nat → ClassId) (had : adOk ad) (V : VV) (n q : Nat) (h1 : n < 2 ^ 32) (h2 : q < 2 ^ 32) (hcb : CB V) : CTi l y_GV_known (mw y_GV_known c_GV_known 3 (some .int)) { frames := 2, cells := 0, slots := 0, locals := 41 } (gK D ct) D vcl (gA ad) [.ref (ad 0), .int (nI n), .int (nI q)] (gw ad ct V) (fun r w => (¬ (n < 4 ∧ q < 4) ∧ r = -1 ∧ w = gw ad ct V) ∨ ((n < 4 ∧ q < 4) ∧ r = nI (popc (V (5 + 8 * n + 1) (V (5 + 8 * n) 0 * 4 + q))) ∧ w = gw ad ct V)) := by
  refine ct_i (by decide) rfl rfl (Nat.le_of_ble_eq_true rfl) ?_
  intro pg en sx mx blw mth cdx hx hb hr hts hown hlk hml hK
  refine g_L (L' := [_, _, _]) rfl ?_
  refine g_iload_n hx hb d_GV_known_0 rfl rfl ?_
  refine g_callSi (nn := 1) ⟨hx, hb, hml.trans rfl, hown, hts⟩ (ct_GV_isProcess l D ad ct had _ _ (by omega)) (mk_S hts t_119 t_120 t_1 t_121 rfl rfl (by decide +kernel) ⟨Nat.le_of_ble_eq_true rfl, Nat.le_of_ble_eq_true rfl⟩) (fun _ h => h) (gK_ok D ct) hK (Nat.le_of_ble_eq_true rfl) ⟨Nat.zero_le _, Nat.zero_le _⟩ rfl rfl d_GV_known_1 ?_
  rintro _ _ ⟨rfl, rfl⟩
  refine n_if_eq (tgt := 14) hx hb d_GV_known_4 (by decide) bN_lt (fun hn => ?_) (fun hn => ?_)
  · have hn := bN_0.mp hn
    refine g_iconst hx hb d_GV_known_14 k_iconst_m1 ?_
    exact g_iret hx hb hr hlk d_GV_known_15 (Or.inl ⟨by omega, rfl, rfl⟩)
  · have hn := bN_n0.mp hn
    have hpa := hcb.p n hn
    have hde := hpa.2.2.2.2.2.2.2.2
    refine g_iload_n hx hb d_GV_known_7 rfl rfl ?_
    refine g_callSi (nn := 1) ⟨hx, hb, hml.trans rfl, hown, hts⟩ (ct_GV_isProcess l D ad ct had _ _ (by omega)) (mk_S hts t_119 t_120 t_1 t_121 rfl rfl (by decide +kernel) ⟨Nat.le_of_ble_eq_true rfl, Nat.le_of_ble_eq_true rfl⟩) (fun _ h => h) (gK_ok D ct) hK (Nat.le_of_ble_eq_true rfl) ⟨Nat.zero_le _, Nat.zero_le _⟩ rfl rfl d_GV_known_8 ?_
    rintro _ _ ⟨rfl, rfl⟩
    refine n_if_ne (tgt := 16) hx hb d_GV_known_11 (by decide) bN_lt (fun hq => ?_) (fun hq => ?_)
    · have hq := bN_n0.mp hq
      refine g_aload_n hx hb d_GV_known_16 rfl rfl ?_
      refine g_get hx hb hts (in_mw in_GV) hown hK.1 w_0 rfl 0 (by decide) (hts _ (List.mem_cons_of_mem _ t_99)) rfl d_GV_known_17 ?_
      refine g_iload_n hx hb d_GV_known_20 rfl rfl ?_
      refine g_aald hx hb hK.1 w_1 2 rfl hn (by decide) (fP hn) d_GV_known_21 ?_
      refine g_iload_n hx hb d_GV_known_22 rfl rfl ?_
      refine g_callVNi (C := "GroupViews$ProcessState") (nn := 1) ⟨hx, hb, hml.trans rfl, hown, hts⟩ (ct_PS_messagesKnownOf l D ad ct had _ _ _ hn (by omega) (hcb.kn n _ hn (by omega))) (mk_VN hK hts nw_291 t_293 ts_PS_messagesKnownOf t_2 t_294 rfl rfl (by decide +kernel) ⟨Nat.le_of_ble_eq_true rfl, Nat.le_of_ble_eq_true rfl⟩) hK.1 rfl (w_P hn) rfl (fun _ h => h) (gK_ok D ct) hK (Nat.le_of_ble_eq_true rfl) ⟨Nat.zero_le _, Nat.zero_le _⟩ rfl rfl d_GV_known_23 ?_
      rintro _ _ ⟨rfl, rfl⟩
      exact g_iret hx hb hr hlk d_GV_known_26 (Or.inr ⟨⟨hn, hq⟩, rfl, rfl⟩)
    · have hq := bN_0.mp hq
      refine g_iconst hx hb d_GV_known_14 k_iconst_m1 ?_
      exact g_iret hx hb hr hlk d_GV_known_15 (Or.inl ⟨by omega, rfl, rfl⟩)
set_option maxRecDepth 100000 in
set_option maxHeartbeats 4000000 in
theorem ct_GV_waiting (l : Launch) (D : va_G) (ad : Nat → Nat) (ct : Nat → ClassId) (had : adOk ad) (V : VV) (p q : Nat) (h1 : p < 2 ^ 32) (h2 : q < 2 ^ 32) (hcb : CB V) : CTi l y_GV_waiting (mw y_GV_waiting c_GV_waiting 3 (some .int)) { frames := 2, cells := 0, slots := 0, locals := 41 } (gK D ct) D vcl (gA ad) [.ref (ad 0), .int (nI p), .int (nI q)] (gw ad ct V) (fun r w => (¬ (p < 4 ∧ q < 4 ∧ ¬ p = q) ∧ r = -1 ∧ w = gw ad ct V) ∨ ((p < 4 ∧ q < 4 ∧ ¬ p = q) ∧ r = nI (V (37 + 2 * (p * 4 + q)) 2 - V (37 + 2 * (p * 4 + q)) 1) ∧ w = gw ad ct V)) := by
  refine ct_i (by decide) rfl rfl (Nat.le_of_ble_eq_true rfl) ?_
  intro pg en sx mx blw mth cdx hx hb hr hts hown hlk hml hK
  refine g_L (L' := [_, _, _]) rfl ?_
  refine g_iload_n hx hb d_GV_waiting_0 rfl rfl ?_
  refine g_iload_n hx hb d_GV_waiting_1 rfl rfl ?_
  refine g_callSi (nn := 2) ⟨hx, hb, hml.trans rfl, hown, hts⟩ (ct_GV_isLine l D ad ct had _ _ _ (by omega) (by omega)) (mk_S hts t_184 t_185 t_1 t_186 rfl rfl (by decide +kernel) ⟨Nat.le_of_ble_eq_true rfl, Nat.le_of_ble_eq_true rfl⟩) (fun _ h => h) (gK_ok D ct) hK (Nat.le_of_ble_eq_true rfl) ⟨Nat.zero_le _, Nat.zero_le _⟩ rfl rfl d_GV_waiting_2 ?_
  rintro _ _ ⟨rfl, rfl⟩
  refine n_if_eq (tgt := 24) hx hb d_GV_waiting_5 (by decide) bN_lt (fun hn => ?_) (fun hn => ?_)
  · have hn := bN_0.mp hn
    refine g_iconst hx hb d_GV_waiting_24 k_iconst_m1 ?_
    exact g_iret hx hb hr hlk d_GV_waiting_25 (Or.inl ⟨hn, rfl, rfl⟩)
  · have hn := bN_n0.mp hn
    refine g_aload_n hx hb d_GV_waiting_8 rfl rfl ?_
    refine g_get hx hb hts (in_mw in_GV) hown hK.1 w_0 rfl 1 (by decide) (hts _ (List.mem_cons_of_mem _ t_100)) rfl d_GV_waiting_9 ?_
    refine g_iload_n hx hb d_GV_waiting_12 rfl rfl ?_
    refine g_iload_n hx hb d_GV_waiting_13 rfl rfl ?_
    refine g_callSi (nn := 2) ⟨hx, hb, hml.trans rfl, hown, hts⟩ (ct_GV_lineIndex l D ad ct had _ _ _) (mk_S hts t_143 t_144 t_1 t_145 rfl rfl (by decide +kernel) ⟨Nat.le_of_ble_eq_true rfl, Nat.le_of_ble_eq_true rfl⟩) (fun _ h => h) (gK_ok D ct) hK (Nat.le_of_ble_eq_true rfl) ⟨Nat.zero_le _, Nat.zero_le _⟩ rfl rfl d_GV_waiting_14 ?_
    rintro _ _ ⟨rfl, rfl⟩
    refine g_aald hx hb hK.1 w_2 3 rfl (by omega) (by decide) (fL (by omega)) d_GV_waiting_17 ?_
    refine g_callVNi (C := "GroupViews$Line") (nn := 0) ⟨hx, hb, hml.trans rfl, hown, hts⟩ (ct_LN_length l D ad ct had _ _ (by omega) (hcb.ln (p * 4 + q) (by omega)).1) (mk_VN hK hts nw_305 t_307 ts_LN_length t_3 t_308 rfl rfl (by decide +kernel) ⟨Nat.le_of_ble_eq_true rfl, Nat.le_of_ble_eq_true rfl⟩) hK.1 rfl (w_L (by omega)) rfl (fun _ h => h) (gK_ok D ct) hK (Nat.le_of_ble_eq_true rfl) ⟨Nat.zero_le _, Nat.zero_le _⟩ rfl rfl d_GV_waiting_18 ?_
    rintro _ _ ⟨rfl, rfl⟩
    refine g_goto (tgt := 25) hx hb d_GV_waiting_21 (by decide) ?_
    exact g_iret hx hb hr hlk d_GV_waiting_25 (Or.inr ⟨hn, rfl, rfl⟩)
