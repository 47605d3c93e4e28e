set_option maxRecDepth 100000 in
set_option maxHeartbeats 4000000 in
theorem ct_MD_within (l : Launch) (D : va_G) (ad : Nat → Nat) (ct : Nat → ClassId) (had : adOk ad) (V : VV) (x lo hi : Nat) (h : x < 2 ^ 32) (h1 : lo < 2 ^ 31) (h2 : hi < 2 ^ 31) : CTi l y_MD_within (mw y_MD_within c_MD_within 3 (some .boolean)) { frames := 0, cells := 0, slots := 0, locals := 0 } (gK D ct) D vcl (gA ad) [.int (nI x), .int (nI lo), .int (nI hi)] (gw ad ct V) (fun r w => r = nI (bN (lo ≤ x ∧ x ≤ hi)) ∧ w = gw ad ct V) := by
  refine ct_i (by decide) rfl rfl (Nat.le_of_ble_eq_true rfl) ?_
  intro pg en sx mx blw mth cdx hx hb hr hts hown hlk hml hK
  refine g_L (L' := [_, _, _]) rfl ?_
  refine g_iload_n hx hb d_MD_within_0 rfl rfl ?_
  refine g_iload_n hx hb d_MD_within_1 rfl rfl ?_
  refine g_icmp_lt (tgt := 14) hx hb d_MD_within_2 (by decide) (fun hc1 => ?_) (fun hc1 => ?_)
  · have hc1 : ¬ (lo ≤ x ∧ x ≤ hi) := fun z => (nI_nlt z.1 (by omega)) hc1
    refine g_iconst hx hb d_MD_within_14 k_iconst_0 ?_
    exact g_zret hx hb hr hlk (by decide +kernel) d_MD_within_15 (⟨by first | rw [bN_t (by omega)] | rw [bN_f (by omega)], rfl⟩)
  · have hc1 := q_ge h h1 hc1
    refine g_iload_n hx hb d_MD_within_5 rfl rfl ?_
    refine g_iload_n hx hb d_MD_within_6 rfl rfl ?_
    refine n_icmp_gt (tgt := 14) hx hb d_MD_within_7 (by decide) (by omega) (by omega) (fun hc2 => ?_) (fun hc2 => ?_)
    · refine g_iconst hx hb d_MD_within_14 k_iconst_0 ?_
      exact g_zret hx hb hr hlk (by decide +kernel) d_MD_within_15 (⟨by first | rw [bN_t (by omega)] | rw [bN_f (by omega)], rfl⟩)
    · refine g_iconst hx hb d_MD_within_10 k_iconst_1 ?_
      refine g_goto (tgt := 15) hx hb d_MD_within_11 (by decide) ?_
      exact g_zret hx hb hr hlk (by decide +kernel) d_MD_within_15 (⟨by first | rw [bN_t (by omega)] | rw [bN_f (by omega)], rfl⟩)
set_option maxRecDepth 100000 in
set_option maxHeartbeats 4000000 in
theorem ct_MD_present (l : Launch) (D : va_G) (ad : Nat → Nat) (ct : Nat → ClassId) (had : adOk ad) (V : VV) (p : Nat) (hp : p < 4) (hv : V 70 p ≤ 15) : CTi l y_MD_present (mw y_MD_present c_MD_present 2 (some .int)) { frames := 0, cells := 0, slots := 0, locals := 0 } (gK D ct) D vcl (gA ad) [.ref (ad 69), .int (nI p)] (gw ad ct V) (fun r w => r = nI (rps V p) ∧ w = gw ad ct V) := by
  refine ct_i (by decide) rfl rfl (Nat.le_of_ble_eq_true rfl) ?_
  intro pg en sx mx blw mth cdx hx hb hr hts hown hlk hml hK
  refine g_L (L' := [_, _]) rfl ?_
  refine g_aload_n hx hb d_MD_present_0 rfl rfl ?_
  refine g_get hx hb hts (in_mw in_MD) hown hK.1 w_M rfl 0 (by decide) (hts _ (List.mem_cons_of_mem _ t_315)) rfl d_MD_present_1 ?_
  refine g_iload_n hx hb d_MD_present_4 rfl rfl ?_
  refine g_iald hx hb hK.1 (w_Ma (c := 70) (by decide) (by decide)) 0 rfl (show _ < 4 by omega) (by decide) rfl d_MD_present_5 ?_
  refine n_if_ne (tgt := 15) hx hb d_MD_present_6 (by decide) (by omega) (fun hc1 => ?_) (fun hc1 => ?_)
  · refine g_aload_n hx hb d_MD_present_15 rfl rfl ?_
    refine g_get hx hb hts (in_mw in_MD) hown hK.1 w_M rfl 11 (by decide) (hts _ (List.mem_cons_of_mem _ t_326)) rfl d_MD_present_16 ?_
    refine g_aload_n hx hb d_MD_present_19 rfl rfl ?_
    refine g_get hx hb hts (in_mw in_MD) hown hK.1 w_M rfl 0 (by decide) (hts _ (List.mem_cons_of_mem _ t_315)) rfl d_MD_present_20 ?_
    refine g_iload_n hx hb d_MD_present_23 rfl rfl ?_
    refine g_iald hx hb hK.1 (w_Ma (c := 70) (by decide) (by decide)) 0 rfl (show _ < 4 by omega) (by decide) rfl d_MD_present_24 ?_
    refine g_iald hx hb hK.1 (w_Ma (c := 80) (by decide) (by decide)) 0 rfl (show _ < 16 by omega) (by decide) rfl d_MD_present_25 ?_
    exact g_iret hx hb hr hlk d_MD_present_26 (⟨by unfold rps; rw [if_neg hc1], rfl⟩)
  · refine g_iconst hx hb d_MD_present_9 k_iconst_1 ?_
    refine g_iload_n hx hb d_MD_present_10 rfl rfl ?_
    refine n_ishl hx hb d_MD_present_11 (by omega) (q_p32 (by omega)) ?_
    refine g_goto (tgt := 26) hx hb d_MD_present_12 (by decide) ?_
    exact g_iret hx hb hr hlk d_MD_present_26 (⟨by unfold rps; rw [if_pos hc1, Nat.one_mul], rfl⟩)
set_option maxRecDepth 100000 in
set_option maxHeartbeats 4000000 in
theorem ct_MD_put (l : Launch) (D : va_G) (ad : Nat → Nat) (ct : Nat → ClassId) (had : adOk ad) (V : VV) (p set x : Nat) (hp : p < 4) (hs : set < 2 ^ 31) (hE : ∀ j, j < 4 → V 89 (4 * p + j) ≤ 79) : CTv l y_MD_put (mw y_MD_put c_MD_put 5 none) { frames := 0, cells := 0, slots := 0, locals := 0 } (gK D ct) D vcl (gA ad) [.ref (ad 69), .int (nI p), .int (nI set), .int (nI x)] (gw ad ct V) (fun w => w = gw ad ct (rpo V p set x 4)) := by
  refine ct_v (by decide) rfl rfl (Nat.le_of_ble_eq_true rfl) ?_
  intro pg en sx mx blw mth cdx hx hb hr hts hown hlk hml hK
  refine g_L (L' := [_, _, _, _, _]) rfl ?_
  refine g_iconst hx hb d_MD_put_0 k_iconst_0 ?_
  refine g_istore (L' := [_, _, _, _, _]) hx hb d_MD_put_1 (Nat.le_of_ble_eq_true rfl) rfl ?_
  refine g_loop 4 (fun q => gw ad ct (rpo V p set x q)) (fun q => [some (.ref (ad 69)), some (.int (nI p)), some (.int (nI set)), some (.int (nI x)), some (.int (nI q))]) (fun q => True) 0 (by omega) trivial rfl rfl ?_
  intro q hq0_q hqE_q hI_q ih_q
  try dsimp only
  refine g_iload hx hb d_MD_put_3 rfl ?_
  refine g_iconst hx hb d_MD_put_5 k_iconst_4 ?_
  refine n_icmp_ge (tgt := 75) hx hb d_MD_put_6 (by decide) (by omega) (by omega) (fun hc1 => ?_) (fun hc1 => ?_)
  · have hq4 : q = 4 := by omega
    subst hq4
    exact g_vret hx hb hr hlk d_MD_put_75 (rfl)
  · have hq : q < 4 := by omega
    have hl := hE q hq
    have hl2 := rpo_len (Y := V) (p := p) (set := set) (x := x) (j := q) q (Nat.le_refl _)
    refine g_iload hx hb d_MD_put_9 rfl ?_
    refine g_iload_n hx hb d_MD_put_11 rfl rfl ?_
    refine n_icmp_eq (tgt := 69) hx hb d_MD_put_12 (by decide) (by omega) (by omega) (fun heq => ?_) (fun heq => ?_)
    · refine n_iinc (L' := [_, _, _, _, _]) hx hb d_MD_put_69 rfl rfl ?_
      refine g_goto (tgt := 3) hx hb d_MD_put_72 (by decide) ?_
      refine g_w (congrArg (gw ad ct) (show _ = rpo V p set x (q + 1) from by rw [rpo, if_neg (fun z => z.1 heq)])) ?_
      exact ih_q (by omega) trivial
    · refine g_iload_n hx hb d_MD_put_15 rfl rfl ?_
      refine g_iload hx hb d_MD_put_16 rfl ?_
      refine n_ishr hx hb d_MD_put_18 (by omega) (by omega) ?_
      refine g_iconst hx hb d_MD_put_19 k_iconst_1 ?_
      refine n_iand hx hb d_MD_put_20 ?_
      refine g_val (show nI _ = nI (set / 2 ^ q % 2) from congrArg nI (Nat.and_one_is_mod _)) ?_
      refine n_if_ne (tgt := 27) hx hb d_MD_put_21 (by decide) (by omega) (fun hbit => ?_) (fun hbit => ?_)
      · refine g_aload_n hx hb d_MD_put_27 rfl rfl ?_
        refine g_get hx hb hts (in_mw in_MD) hown hK.1 w_M rfl 19 (by decide) (hts _ (List.mem_cons_of_mem _ t_334)) rfl d_MD_put_28 ?_
        refine g_bipush hx hb d_MD_put_31 k_bipush_80 ?_
        refine g_iconst hx hb d_MD_put_33 k_iconst_4 ?_
        refine g_iload_n hx hb d_MD_put_34 rfl rfl ?_
        refine n_imul hx hb d_MD_put_35 ?_
        refine g_iload hx hb d_MD_put_36 rfl ?_
        refine n_iadd hx hb d_MD_put_38 ?_
        refine n_imul hx hb d_MD_put_39 ?_
        refine g_aload_n hx hb d_MD_put_40 rfl rfl ?_
        refine g_get hx hb hts (in_mw in_MD) hown hK.1 w_M rfl 20 (by decide) (hts _ (List.mem_cons_of_mem _ t_335)) rfl d_MD_put_41 ?_
        refine g_iconst hx hb d_MD_put_44 k_iconst_4 ?_
        refine g_iload_n hx hb d_MD_put_45 rfl rfl ?_
        refine n_imul hx hb d_MD_put_46 ?_
        refine g_iload hx hb d_MD_put_47 rfl ?_
        refine n_iadd hx hb d_MD_put_49 ?_
        refine g_iald hx hb hK.1 (w_Ma (c := 89) (by decide) (by decide)) 0 rfl (show _ < 16 by omega) (by decide) rfl d_MD_put_50 ?_
        refine n_iadd hx hb d_MD_put_51 ?_
        refine g_iload_n hx hb d_MD_put_52 rfl rfl ?_
        refine g_iast hx hb hK.1 (gw_D had) (w_Ma (c := 88) (by decide) (by decide)) 0 rfl (show _ < 1280 by omega) (by decide) d_MD_put_53 (s_Ma (c := 88) (by decide) (by decide) _ _) ?_
        refine g_aload_n hx hb d_MD_put_54 rfl rfl ?_
        refine g_get hx hb hts (in_mw in_MD) hown hK.1 w_M rfl 20 (by decide) (hts _ (List.mem_cons_of_mem _ t_335)) rfl d_MD_put_55 ?_
        refine g_iconst hx hb d_MD_put_58 k_iconst_4 ?_
        refine g_iload_n hx hb d_MD_put_59 rfl rfl ?_
        refine n_imul hx hb d_MD_put_60 ?_
        refine g_iload hx hb d_MD_put_61 rfl ?_
        refine n_iadd hx hb d_MD_put_63 ?_
        refine g_dup2 hx hb d_MD_put_64 rfl rfl ?_
        refine g_iald hx hb hK.1 (w_Ma (c := 89) (by decide) (by decide)) 0 rfl (show _ < 16 by omega) (by decide) rfl d_MD_put_65 ?_
        refine g_val (show nI _ = nI ((rpo V p set x q) 89 ((4 * p) + q)) from congrArg nI (by simp (disch := omega) only [pt_eq, pt_ne, pt_nk])) ?_
        refine g_iconst hx hb d_MD_put_66 k_iconst_1 ?_
        refine n_iadd hx hb d_MD_put_67 ?_
        refine g_iast hx hb hK.1 (gw_D had) (w_Ma (c := 89) (by decide) (by decide)) 0 rfl (show _ < 16 by omega) (by decide) d_MD_put_68 (s_Ma (c := 89) (by decide) (by decide) _ _) ?_
        refine n_iinc (L' := [_, _, _, _, _]) hx hb d_MD_put_69 rfl rfl ?_
        refine g_goto (tgt := 3) hx hb d_MD_put_72 (by decide) ?_
        refine g_w (congrArg (gw ad ct) (show _ = rpo V p set x (q + 1) from by rw [rpo, if_pos ⟨heq, hbit⟩])) ?_
        exact ih_q (by omega) trivial
      · refine g_goto (tgt := 69) hx hb d_MD_put_24 (by decide) ?_
        refine n_iinc (L' := [_, _, _, _, _]) hx hb d_MD_put_69 rfl rfl ?_
        refine g_goto (tgt := 3) hx hb d_MD_put_72 (by decide) ?_
        refine g_w (congrArg (gw ad ct) (show _ = rpo V p set x (q + 1) from by rw [rpo, if_neg (fun z => z.2 hbit)])) ?_
        exact ih_q (by omega) trivial
set_option maxRecDepth 100000 in
set_option maxHeartbeats 4000000 in
theorem ct_MD_note (l : Launch) (D : va_G) (ad : Nat → Nat) (ct : Nat → ClassId) (had : adOk ad) (V : VV) (p a b d f : Nat) (hp : p < 4) : CTv l y_MD_note (mw y_MD_note c_MD_note 6 none) { frames := 0, cells := 0, slots := 0, locals := 0 } (gK D ct) D vcl (gA ad) [.ref (ad 69), .int (nI p), .int (nI a), .int (nI b), .int (nI d), .int (nI f)] (gw ad ct V) (fun w => w = gw ad ct (rev V p a b d f)) := by
  refine ct_v (by decide) rfl rfl (Nat.le_of_ble_eq_true rfl) ?_
  intro pg en sx mx blw mth cdx hx hb hr hts hown hlk hml hK
  refine g_L (L' := [_, _, _, _, _, _]) rfl ?_
  refine g_aload_n hx hb d_MD_note_0 rfl rfl ?_
  refine g_get hx hb hts (in_mw in_MD) hown hK.1 w_M rfl 9 (by decide) (hts _ (List.mem_cons_of_mem _ t_324)) rfl d_MD_note_1 ?_
  refine g_iconst hx hb d_MD_note_4 k_iconst_4 ?_
  refine g_iload_n hx hb d_MD_note_5 rfl rfl ?_
  refine n_imul hx hb d_MD_note_6 ?_
  refine g_iload_n hx hb d_MD_note_7 rfl rfl ?_
  refine g_iast hx hb hK.1 (gw_D had) (w_Ma (c := 79) (by decide) (by decide)) 0 rfl (show _ < 16 by omega) (by decide) d_MD_note_8 (s_Ma (c := 79) (by decide) (by decide) _ _) ?_
  refine g_aload_n hx hb d_MD_note_9 rfl rfl ?_
  refine g_get hx hb hts (in_mw in_MD) hown hK.1 w_M rfl 9 (by decide) (hts _ (List.mem_cons_of_mem _ t_324)) rfl d_MD_note_10 ?_
  refine g_iconst hx hb d_MD_note_13 k_iconst_4 ?_
  refine g_iload_n hx hb d_MD_note_14 rfl rfl ?_
  refine n_imul hx hb d_MD_note_15 ?_
  refine g_iconst hx hb d_MD_note_16 k_iconst_1 ?_
  refine n_iadd hx hb d_MD_note_17 ?_
  refine g_iload_n hx hb d_MD_note_18 rfl rfl ?_
  refine g_iast hx hb hK.1 (gw_D had) (w_Ma (c := 79) (by decide) (by decide)) 0 rfl (show _ < 16 by omega) (by decide) d_MD_note_19 (s_Ma (c := 79) (by decide) (by decide) _ _) ?_
  refine g_aload_n hx hb d_MD_note_20 rfl rfl ?_
  refine g_get hx hb hts (in_mw in_MD) hown hK.1 w_M rfl 9 (by decide) (hts _ (List.mem_cons_of_mem _ t_324)) rfl d_MD_note_21 ?_
  refine g_iconst hx hb d_MD_note_24 k_iconst_4 ?_
  refine g_iload_n hx hb d_MD_note_25 rfl rfl ?_
  refine n_imul hx hb d_MD_note_26 ?_
  refine g_iconst hx hb d_MD_note_27 k_iconst_2 ?_
  refine n_iadd hx hb d_MD_note_28 ?_
  refine g_iload hx hb d_MD_note_29 rfl ?_
  refine g_iast hx hb hK.1 (gw_D had) (w_Ma (c := 79) (by decide) (by decide)) 0 rfl (show _ < 16 by omega) (by decide) d_MD_note_31 (s_Ma (c := 79) (by decide) (by decide) _ _) ?_
  refine g_aload_n hx hb d_MD_note_32 rfl rfl ?_
  refine g_get hx hb hts (in_mw in_MD) hown hK.1 w_M rfl 9 (by decide) (hts _ (List.mem_cons_of_mem _ t_324)) rfl d_MD_note_33 ?_
  refine g_iconst hx hb d_MD_note_36 k_iconst_4 ?_
  refine g_iload_n hx hb d_MD_note_37 rfl rfl ?_
  refine n_imul hx hb d_MD_note_38 ?_
  refine g_iconst hx hb d_MD_note_39 k_iconst_3 ?_
  refine n_iadd hx hb d_MD_note_40 ?_
  refine g_iload hx hb d_MD_note_41 rfl ?_
  refine g_iast hx hb hK.1 (gw_D had) (w_Ma (c := 79) (by decide) (by decide)) 0 rfl (show _ < 16 by omega) (by decide) d_MD_note_43 (s_Ma (c := 79) (by decide) (by decide) _ _) ?_
  exact g_vret hx hb hr hlk d_MD_note_44 (rfl)
set_option maxRecDepth 100000 in
set_option maxHeartbeats 4000000 in
theorem ct_MD_send (l : Launch) (D : va_G) (ad : Nat → Nat) (ct : Nat → ClassId) (had : adOk ad) (V : VV) (n x : Nat) (h1 : n < 2 ^ 32) (hrb : RB V) : CTi l y_MD_send (mw y_MD_send c_MD_send 5 (some .int)) { frames := 1, cells := 0, slots := 0, locals := 24 } (gK D ct) D vcl (gA ad) [.ref (ad 69), .int (nI n), .int (nI x)] (gw ad ct V) (fun r w => (¬ n < 4 ∧ r = -1 ∧ w = gw ad ct V) ∨ (n < 4 ∧ r = (rSend V n x).1 ∧ w = gw ad ct (rSend V n x).2)) := by
  refine ct_i (by decide) rfl rfl (Nat.le_of_ble_eq_true rfl) ?_
  intro pg en sx mx blw mth cdx hx hb hr hts hown hlk hml hK
  refine g_L (L' := [_, _, _, _, _]) rfl ?_
  refine g_iload_n hx hb d_MD_send_0 rfl rfl ?_
  refine g_iconst hx hb d_MD_send_1 k_iconst_0 ?_
  refine g_iconst hx hb d_MD_send_2 k_iconst_3 ?_
  refine g_callSi (nn := 3) ⟨hx, hb, hml.trans rfl, hown, hts⟩ (ct_MD_within l D ad ct had _ _ _ _ (by omega) (by omega) (by omega)) (mk_S hts t_390 t_391 t_4 t_392 rfl rfl (by decide +kernel) ⟨Nat.le_of_ble_eq_true rfl, Nat.le_of_ble_eq_true rfl⟩) (fun _ h => h) (gK_ok D ct) hK (Nat.le_of_ble_eq_true rfl) ⟨Nat.zero_le _, Nat.zero_le _⟩ rfl rfl d_MD_send_3 ?_
  rintro _ _ ⟨rfl, rfl⟩
  refine n_if_ne (tgt := 11) hx hb d_MD_send_6 (by decide) bN_lt (fun hn => ?_) (fun hn => ?_)
  · have hn := bN_n0.mp hn
    have hn : n < 4 := by omega
    have hpa := hrb.1.p n hn
    have hv15 := hrb.1.v
    refine g_aload_n hx hb d_MD_send_11 rfl rfl ?_
    refine g_get hx hb hts (in_mw in_MD) hown hK.1 w_M rfl 4 (by decide) (hts _ (List.mem_cons_of_mem _ t_319)) rfl d_MD_send_12 ?_
    refine g_iload_n hx hb d_MD_send_15 rfl rfl ?_
    refine g_zald hx hb hK.1 (w_Ma (c := 74) (by decide) (by decide)) 1 rfl (show _ < 4 by omega) (by decide) rfl d_MD_send_16 ?_
    refine n_if_eq (tgt := 23) hx hb d_MD_send_17 (by decide) (by omega) (fun hbl => ?_) (fun hbl => ?_)
    · refine g_aload_n hx hb d_MD_send_23 rfl rfl ?_
      refine g_get hx hb hts (in_mw in_MD) hown hK.1 w_M rfl 7 (by decide) (hts _ (List.mem_cons_of_mem _ t_322)) rfl d_MD_send_24 ?_
      refine g_iload_n hx hb d_MD_send_27 rfl rfl ?_
      refine g_iald hx hb hK.1 (w_Ma (c := 77) (by decide) (by decide)) 0 rfl (show _ < 4 by omega) (by decide) rfl d_MD_send_28 ?_
      refine g_iconst hx hb d_MD_send_29 k_iconst_4 ?_
      refine n_icmp_ne (tgt := 36) hx hb d_MD_send_30 (by decide) (by omega) (by omega) (fun hse => ?_) (fun hse => ?_)
      · refine g_bipush hx hb d_MD_send_36 k_bipush_16 ?_
        refine g_aload_n hx hb d_MD_send_38 rfl rfl ?_
        refine g_get hx hb hts (in_mw in_MD) hown hK.1 w_M rfl 0 (by decide) (hts _ (List.mem_cons_of_mem _ t_315)) rfl d_MD_send_39 ?_
        refine g_iload_n hx hb d_MD_send_42 rfl rfl ?_
        refine g_iald hx hb hK.1 (w_Ma (c := 70) (by decide) (by decide)) 0 rfl (show _ < 4 by omega) (by decide) rfl d_MD_send_43 ?_
        refine n_imul hx hb d_MD_send_44 ?_
        refine g_iconst hx hb d_MD_send_45 k_iconst_4 ?_
        refine g_iload_n hx hb d_MD_send_46 rfl rfl ?_
        refine n_imul hx hb d_MD_send_47 ?_
        refine n_iadd hx hb d_MD_send_48 ?_
        refine g_aload_n hx hb d_MD_send_49 rfl rfl ?_
        refine g_get hx hb hts (in_mw in_MD) hown hK.1 w_M rfl 7 (by decide) (hts _ (List.mem_cons_of_mem _ t_322)) rfl d_MD_send_50 ?_
        refine g_iload_n hx hb d_MD_send_53 rfl rfl ?_
        refine g_iald hx hb hK.1 (w_Ma (c := 77) (by decide) (by decide)) 0 rfl (show _ < 4 by omega) (by decide) rfl d_MD_send_54 ?_
        refine n_iadd hx hb d_MD_send_55 ?_
        refine g_istore_n (L' := [_, _, _, _, _]) hx hb d_MD_send_56 rfl (Nat.le_of_ble_eq_true rfl) rfl ?_
        refine g_aload_n hx hb d_MD_send_57 rfl rfl ?_
        refine g_get hx hb hts (in_mw in_MD) hown hK.1 w_M rfl 7 (by decide) (hts _ (List.mem_cons_of_mem _ t_322)) rfl d_MD_send_58 ?_
        refine g_iload_n hx hb d_MD_send_61 rfl rfl ?_
        refine g_dup2 hx hb d_MD_send_62 rfl rfl ?_
        refine g_iald hx hb hK.1 (w_Ma (c := 77) (by decide) (by decide)) 0 rfl (show _ < 4 by omega) (by decide) rfl d_MD_send_63 ?_
        refine g_iconst hx hb d_MD_send_64 k_iconst_1 ?_
        refine n_iadd hx hb d_MD_send_65 ?_
        refine g_iast hx hb hK.1 (gw_D had) (w_Ma (c := 77) (by decide) (by decide)) 0 rfl (show _ < 4 by omega) (by decide) d_MD_send_66 (s_Ma (c := 77) (by decide) (by decide) _ _) ?_
        refine g_aload_n hx hb d_MD_send_67 rfl rfl ?_
        refine g_get hx hb hts (in_mw in_MD) hown hK.1 w_M rfl 13 (by decide) (hts _ (List.mem_cons_of_mem _ t_328)) rfl d_MD_send_68 ?_
        refine g_iload_n hx hb d_MD_send_71 rfl rfl ?_
        refine g_iload_n hx hb d_MD_send_72 rfl rfl ?_
        refine g_iast hx hb hK.1 (gw_D had) (w_Ma (c := 82) (by decide) (by decide)) 0 rfl (show _ < 256 by omega) (by decide) d_MD_send_73 (s_Ma (c := 82) (by decide) (by decide) _ _) ?_
        refine g_iconst hx hb d_MD_send_74 k_iconst_0 ?_
        refine g_istore (L' := [_, _, _, _, _]) hx hb d_MD_send_75 (Nat.le_of_ble_eq_true rfl) rfl ?_
        refine g_loop 4 (fun r => gw ad ct (rvc (pt (pt V 77 n (V 77 n + 1)) 82 (16 * V 70 n + 4 * n + V 77 n) x) n (16 * V 70 n + 4 * n + V 77 n) r)) (fun r => [some (.ref (ad 69)), some (.int (nI n)), some (.int (nI x)), some (.int (nI (((16 * (V 70 n)) + (4 * n)) + (V 77 n)))), some (.int (nI r))]) (fun r => True) 0 (by omega) trivial rfl rfl ?_
        intro r hq0_r hqE_r hI_r ih_r
        try dsimp only
        refine g_iload hx hb d_MD_send_77 rfl ?_
        refine g_iconst hx hb d_MD_send_79 k_iconst_4 ?_
        refine n_icmp_ge (tgt := 121) hx hb d_MD_send_80 (by decide) (by omega) (by omega) (fun hc1 => ?_) (fun hc1 => ?_)
        · have hr4 : r = 4 := by omega
          subst hr4
          refine g_aload_n hx hb d_MD_send_121 rfl rfl ?_
          refine g_get hx hb hts (in_mw in_MD) hown hK.1 w_M rfl 15 (by decide) (hts _ (List.mem_cons_of_mem _ t_330)) rfl d_MD_send_122 ?_
          refine g_sipush hx hb d_MD_send_125 k_sipush_256 ?_
          refine g_iload_n hx hb d_MD_send_128 rfl rfl ?_
          refine n_imul hx hb d_MD_send_129 ?_
          refine g_iload_n hx hb d_MD_send_130 rfl rfl ?_
          refine n_iadd hx hb d_MD_send_131 ?_
          refine g_iconst hx hb d_MD_send_132 k_iconst_1 ?_
          refine g_zast hx hb hK.1 (gw_D had) (w_Ma (c := 84) (by decide) (by decide)) 1 rfl (show _ < 1024 by omega) (by decide) d_MD_send_133 (by decide +kernel) (s_Ma (c := 84) (by decide) (by decide) _ _) ?_
          refine g_aload_n hx hb d_MD_send_134 rfl rfl ?_
          refine g_iload_n hx hb d_MD_send_135 rfl rfl ?_
          refine g_aload_n hx hb d_MD_send_136 rfl rfl ?_
          refine g_iload_n hx hb d_MD_send_137 rfl rfl ?_
          refine g_callVi (C := "GroupViewsModel") (nn := 1) ⟨hx, hb, hml.trans rfl, hown, hts⟩ (ct_MD_present l D ad ct had _ _ (by omega) (by simp (disch := omega) only [pt_eq, pt_ne, pt_nk, rvc_ne]; omega)) (mk_V hts t_393 t_395 ts_MD_present t_4 t_396 rfl rfl (by decide +kernel) ⟨Nat.le_of_ble_eq_true rfl, Nat.le_of_ble_eq_true rfl⟩) hK.1 rfl w_M rfl (fun _ h => h) (gK_ok D ct) hK (Nat.le_of_ble_eq_true rfl) ⟨Nat.zero_le _, Nat.zero_le _⟩ rfl rfl d_MD_send_138 ?_
          rintro _ _ ⟨rfl, rfl⟩
          refine g_val (show nI _ = nI (rps V n) from congrArg nI (by unfold rps; simp (disch := omega) only [pt_eq, pt_ne, pt_nk, rvc_ne])) ?_
          refine g_iload_n hx hb d_MD_send_141 rfl rfl ?_
          refine g_callVv (C := "GroupViewsModel") (nn := 3) ⟨hx, hb, hml.trans rfl, hown, hts⟩ (ct_MD_put l D ad ct had _ _ _ _ hn (Nat.lt_trans (rps_lt hrb.1 hn) (by decide)) (fun j hj => by simp (disch := omega) only [pt_eq, pt_ne, pt_nk, rvc_ne]; have := (hrb.2 (4 * n + j) (by omega)).1; omega)) (mk_V hts t_397 t_399 ts_MD_put t_4 t_400 rfl rfl (by decide +kernel) ⟨Nat.le_of_ble_eq_true rfl, Nat.le_of_ble_eq_true rfl⟩) hK.1 rfl w_M rfl (fun _ h => h) (gK_ok D ct) hK (Nat.le_of_ble_eq_true rfl) ⟨Nat.zero_le _, Nat.zero_le _⟩ rfl rfl d_MD_send_142 ?_
          rintro _ rfl
          refine g_aload_n hx hb d_MD_send_145 rfl rfl ?_
          refine g_get hx hb hts (in_mw in_MD) hown hK.1 w_M rfl 7 (by decide) (hts _ (List.mem_cons_of_mem _ t_322)) rfl d_MD_send_146 ?_
          refine g_iload_n hx hb d_MD_send_149 rfl rfl ?_
          refine g_iald hx hb hK.1 (w_Ma (c := 77) (by decide) (by decide)) 0 rfl (show _ < 4 by omega) (by decide) rfl d_MD_send_150 ?_
          refine g_val (show nI _ = nI (V 77 n + 1) from congrArg nI (by rw [rpo_ne (by decide) (by decide)]; simp (disch := omega) only [pt_eq, pt_ne, pt_nk, rvc_ne])) ?_
          have hS : rSend V n x = (nI (V 77 n + 1), rpo (pt (rvc (pt (pt V 77 n (V 77 n + 1)) 82 (16 * V 70 n + 4 * n + V 77 n) x) n (16 * V 70 n + 4 * n + V 77 n) 4) 84 (256 * n + (16 * V 70 n + 4 * n + V 77 n)) 1) n (rps V n) (16 * V 70 n + 4 * n + V 77 n) 4) := by unfold rSend; rw [if_neg (not_not_intro hbl), if_neg hse]
          exact g_iret hx hb hr hlk d_MD_send_151 (Or.inr ⟨hn, by rw [hS] <;> first | exact n0_eq | exact n1_eq | exact n2_eq, by rw [hS]⟩)
        · refine g_aload_n hx hb d_MD_send_83 rfl rfl ?_
          refine g_get hx hb hts (in_mw in_MD) hown hK.1 w_M rfl 14 (by decide) (hts _ (List.mem_cons_of_mem _ t_329)) rfl d_MD_send_84 ?_
          refine g_iconst hx hb d_MD_send_87 k_iconst_4 ?_
          refine g_iload_n hx hb d_MD_send_88 rfl rfl ?_
          refine n_imul hx hb d_MD_send_89 ?_
          refine g_iload hx hb d_MD_send_90 rfl ?_
          refine n_iadd hx hb d_MD_send_92 ?_
          refine g_iload hx hb d_MD_send_93 rfl ?_
          refine g_iload_n hx hb d_MD_send_95 rfl rfl ?_
          refine n_icmp_ne (tgt := 103) hx hb d_MD_send_96 (by decide) (by omega) (by omega) (fun heq => ?_) (fun heq => ?_)
          · refine g_aload_n hx hb d_MD_send_103 rfl rfl ?_
            refine g_get hx hb hts (in_mw in_MD) hown hK.1 w_M rfl 8 (by decide) (hts _ (List.mem_cons_of_mem _ t_323)) rfl d_MD_send_104 ?_
            refine g_iconst hx hb d_MD_send_107 k_iconst_4 ?_
            refine g_iload_n hx hb d_MD_send_108 rfl rfl ?_
            refine n_imul hx hb d_MD_send_109 ?_
            refine g_iload hx hb d_MD_send_110 rfl ?_
            refine n_iadd hx hb d_MD_send_112 ?_
            refine g_iald hx hb hK.1 (w_Ma (c := 78) (by decide) (by decide)) 0 rfl (show _ < 16 by omega) (by decide) rfl d_MD_send_113 ?_
            refine g_val (show nI _ = nI ((pt (pt V 77 n (V 77 n + 1)) 82 (16 * V 70 n + 4 * n + V 77 n) x) 78 (4 * n + r)) from congrArg nI (rvc_ne (by decide) r)) ?_
            refine g_iast hx hb hK.1 (gw_D had) (w_Ma (c := 83) (by decide) (by decide)) 0 rfl (show _ < 1024 by omega) (by decide) d_MD_send_114 (s_Ma (c := 83) (by decide) (by decide) _ _) ?_
            refine n_iinc (L' := [_, _, _, _, _]) hx hb d_MD_send_115 rfl rfl ?_
            refine g_goto (tgt := 77) hx hb d_MD_send_118 (by decide) ?_
            refine g_w (congrArg (gw ad ct) (show _ = rvc (pt (pt V 77 n (V 77 n + 1)) 82 (16 * V 70 n + 4 * n + V 77 n) x) n (16 * V 70 n + 4 * n + V 77 n) (r + 1) from by rw [rvc, if_neg heq])) ?_
            exact ih_r (by omega) trivial
          · refine g_iconst hx hb d_MD_send_99 k_iconst_0 ?_
            refine g_goto (tgt := 114) hx hb d_MD_send_100 (by decide) ?_
            refine g_iast hx hb hK.1 (gw_D had) (w_Ma (c := 83) (by decide) (by decide)) 0 rfl (show _ < 1024 by omega) (by decide) d_MD_send_114 (s_Ma (c := 83) (by decide) (by decide) _ _) ?_
            refine n_iinc (L' := [_, _, _, _, _]) hx hb d_MD_send_115 rfl rfl ?_
            refine g_goto (tgt := 77) hx hb d_MD_send_118 (by decide) ?_
            refine g_w (congrArg (gw ad ct) (show _ = rvc (pt (pt V 77 n (V 77 n + 1)) 82 (16 * V 70 n + 4 * n + V 77 n) x) n (16 * V 70 n + 4 * n + V 77 n) (r + 1) from by rw [rvc, if_pos heq])) ?_
            exact ih_r (by omega) trivial
      · refine g_bipush hx hb d_MD_send_33 k_bipush_m3 ?_
        have hS : rSend V n x = (-3, V) := by unfold rSend; rw [if_neg (not_not_intro hbl), if_pos hse]
        exact g_iret hx hb hr hlk d_MD_send_35 (Or.inr ⟨hn, by rw [hS] <;> first | exact n0_eq | exact n1_eq | exact n2_eq, by rw [hS]⟩)
    · refine g_bipush hx hb d_MD_send_20 k_bipush_m2 ?_
      have hS : rSend V n x = (-2, V) := by unfold rSend; rw [if_pos hbl]
      exact g_iret hx hb hr hlk d_MD_send_22 (Or.inr ⟨hn, by rw [hS] <;> first | exact n0_eq | exact n1_eq | exact n2_eq, by rw [hS]⟩)
  · have hn := bN_0.mp hn
    have hn : ¬ n < 4 := by omega
    refine g_iconst hx hb d_MD_send_9 k_iconst_m1 ?_
    exact g_iret hx hb hr hlk d_MD_send_10 (Or.inl ⟨hn, rfl, rfl⟩)
set_option maxRecDepth 100000 in
set_option maxHeartbeats 4000000 in
theorem ct_MD_change (l : Launch) (D : va_G) (ad : Nat → Nat) (ct : Nat → ClassId) (had : adOk ad) (V : VV) (n set : Nat) (h1 : n < 2 ^ 32) (h2 : set < 2 ^ 32) (hrb : RB V) : CTi l y_MD_change (mw y_MD_change c_MD_change 5 (some .int)) { frames := 1, cells := 0, slots := 0, locals := 24 } (gK D ct) D vcl (gA ad) [.ref (ad 69), .int (nI n), .int (nI set)] (gw ad ct V) (fun r w => (¬ n < 4 ∧ r = -1 ∧ w = gw ad ct V) ∨ (n < 4 ∧ r = (rChange V n set).1 ∧ w = gw ad ct (rChange V n set).2)) := by
  refine ct_i (by decide) rfl rfl (Nat.le_of_ble_eq_true rfl) ?_
  intro pg en sx mx blw mth cdx hx hb hr hts hown hlk hml hK
  refine g_L (L' := [_, _, _, _, _]) rfl ?_
  refine g_iload_n hx hb d_MD_change_0 rfl rfl ?_
  refine g_iconst hx hb d_MD_change_1 k_iconst_0 ?_
  refine g_iconst hx hb d_MD_change_2 k_iconst_3 ?_
  refine g_callSi (nn := 3) ⟨hx, hb, hml.trans rfl, hown, hts⟩ (ct_MD_within l D ad ct had _ _ _ _ (by omega) (by omega) (by omega)) (mk_S hts t_390 t_391 t_4 t_392 rfl rfl (by decide +kernel) ⟨Nat.le_of_ble_eq_true rfl, Nat.le_of_ble_eq_true rfl⟩) (fun _ h => h) (gK_ok D ct) hK (Nat.le_of_ble_eq_true rfl) ⟨Nat.zero_le _, Nat.zero_le _⟩ rfl rfl d_MD_change_3 ?_
  rintro _ _ ⟨rfl, rfl⟩
  refine n_if_ne (tgt := 11) hx hb d_MD_change_6 (by decide) bN_lt (fun hn => ?_) (fun hn => ?_)
  · have hn := bN_n0.mp hn
    have hn : n < 4 := by omega
    have hpa := hrb.1.p n hn
    have hv15 := hrb.1.v
    refine g_iload_n hx hb d_MD_change_11 rfl rfl ?_
    refine g_iconst hx hb d_MD_change_12 k_iconst_1 ?_
    refine g_bipush hx hb d_MD_change_13 k_bipush_15 ?_
    refine g_callSi (nn := 3) ⟨hx, hb, hml.trans rfl, hown, hts⟩ (ct_MD_within l D ad ct had _ _ _ _ (by omega) (by omega) (by omega)) (mk_S hts t_390 t_391 t_4 t_392 rfl rfl (by decide +kernel) ⟨Nat.le_of_ble_eq_true rfl, Nat.le_of_ble_eq_true rfl⟩) (fun _ h => h) (gK_ok D ct) hK (Nat.le_of_ble_eq_true rfl) ⟨Nat.zero_le _, Nat.zero_le _⟩ rfl rfl d_MD_change_15 ?_
    rintro _ _ ⟨rfl, rfl⟩
    refine n_if_eq (tgt := 29) hx hb d_MD_change_18 (by decide) bN_lt (fun hne => ?_) (fun hne => ?_)
    · have hne := bN_0.mp hne
      refine g_bipush hx hb d_MD_change_29 k_bipush_m2 ?_
      have hS : rChange V n set = (-2, V) := by unfold rChange; rw [if_pos (fun z => hne ⟨z.1, z.2.1⟩)]
      exact g_iret hx hb hr hlk d_MD_change_31 (Or.inr ⟨hn, by rw [hS] <;> first | exact n0_eq | exact n1_eq | exact n2_eq, by rw [hS]⟩)
    · have hne := bN_n0.mp hne
      refine g_iload_n hx hb d_MD_change_21 rfl rfl ?_
      refine g_iload_n hx hb d_MD_change_22 rfl rfl ?_
      refine n_ishr hx hb d_MD_change_23 (by omega) (by omega) ?_
      refine g_iconst hx hb d_MD_change_24 k_iconst_1 ?_
      refine n_iand hx hb d_MD_change_25 ?_
      refine g_val (show nI _ = nI (set / 2 ^ n % 2) from congrArg nI (Nat.and_one_is_mod _)) ?_
      refine n_if_ne (tgt := 32) hx hb d_MD_change_26 (by decide) (by omega) (fun hbit => ?_) (fun hbit => ?_)
      · refine g_aload_n hx hb d_MD_change_32 rfl rfl ?_
        refine g_get hx hb hts (in_mw in_MD) hown hK.1 w_M rfl 1 (by decide) (hts _ (List.mem_cons_of_mem _ t_316)) rfl d_MD_change_33 ?_
        refine g_iload_n hx hb d_MD_change_36 rfl rfl ?_
        refine g_iald hx hb hK.1 (w_Ma (c := 71) (by decide) (by decide)) 0 rfl (show _ < 4 by omega) (by decide) rfl d_MD_change_37 ?_
        refine g_bipush hx hb d_MD_change_38 k_bipush_15 ?_
        refine n_icmp_ne (tgt := 46) hx hb d_MD_change_40 (by decide) (by omega) (by omega) (fun hch => ?_) (fun hch => ?_)
        · refine g_aload_n hx hb d_MD_change_46 rfl rfl ?_
          refine g_get hx hb hts (in_mw in_MD) hown hK.1 w_M rfl 1 (by decide) (hts _ (List.mem_cons_of_mem _ t_316)) rfl d_MD_change_47 ?_
          refine g_iload_n hx hb d_MD_change_50 rfl rfl ?_
          refine g_dup2 hx hb d_MD_change_51 rfl rfl ?_
          refine g_iald hx hb hK.1 (w_Ma (c := 71) (by decide) (by decide)) 0 rfl (show _ < 4 by omega) (by decide) rfl d_MD_change_52 ?_
          refine g_iconst hx hb d_MD_change_53 k_iconst_1 ?_
          refine n_iadd hx hb d_MD_change_54 ?_
          refine g_iast hx hb hK.1 (gw_D had) (w_Ma (c := 71) (by decide) (by decide)) 0 rfl (show _ < 4 by omega) (by decide) d_MD_change_55 (s_Ma (c := 71) (by decide) (by decide) _ _) ?_
          refine g_aload_n hx hb d_MD_change_56 rfl rfl ?_
          refine g_get hx hb hts (in_mw in_MD) hown hK.1 w_M rfl 2 (by decide) (hts _ (List.mem_cons_of_mem _ t_317)) rfl d_MD_change_57 ?_
          refine g_iload_n hx hb d_MD_change_60 rfl rfl ?_
          refine g_iload_n hx hb d_MD_change_61 rfl rfl ?_
          refine g_iast hx hb hK.1 (gw_D had) (w_Ma (c := 72) (by decide) (by decide)) 0 rfl (show _ < 4 by omega) (by decide) d_MD_change_62 (s_Ma (c := 72) (by decide) (by decide) _ _) ?_
          refine g_aload_n hx hb d_MD_change_63 rfl rfl ?_
          refine g_get hx hb hts (in_mw in_MD) hown hK.1 w_M rfl 4 (by decide) (hts _ (List.mem_cons_of_mem _ t_319)) rfl d_MD_change_64 ?_
          refine g_iload_n hx hb d_MD_change_67 rfl rfl ?_
          refine g_iconst hx hb d_MD_change_68 k_iconst_1 ?_
          refine g_zast hx hb hK.1 (gw_D had) (w_Ma (c := 74) (by decide) (by decide)) 1 rfl (show _ < 4 by omega) (by decide) d_MD_change_69 (by decide +kernel) (s_Ma (c := 74) (by decide) (by decide) _ _) ?_
          refine g_aload_n hx hb d_MD_change_70 rfl rfl ?_
          refine g_get hx hb hts (in_mw in_MD) hown hK.1 w_M rfl 5 (by decide) (hts _ (List.mem_cons_of_mem _ t_320)) rfl d_MD_change_71 ?_
          refine g_iload_n hx hb d_MD_change_74 rfl rfl ?_
          refine g_iconst hx hb d_MD_change_75 k_iconst_0 ?_
          refine g_iast hx hb hK.1 (gw_D had) (w_Ma (c := 75) (by decide) (by decide)) 0 rfl (show _ < 4 by omega) (by decide) d_MD_change_76 (s_Ma (c := 75) (by decide) (by decide) _ _) ?_
          refine g_aload_n hx hb d_MD_change_77 rfl rfl ?_
          refine g_get hx hb hts (in_mw in_MD) hown hK.1 w_M rfl 3 (by decide) (hts _ (List.mem_cons_of_mem _ t_318)) rfl d_MD_change_78 ?_
          refine g_iload_n hx hb d_MD_change_81 rfl rfl ?_
          refine g_iconst hx hb d_MD_change_82 k_iconst_1 ?_
          refine g_zast hx hb hK.1 (gw_D had) (w_Ma (c := 73) (by decide) (by decide)) 1 rfl (show _ < 4 by omega) (by decide) d_MD_change_83 (by decide +kernel) (s_Ma (c := 73) (by decide) (by decide) _ _) ?_
          refine g_bipush hx hb d_MD_change_84 k_bipush_16 ?_
          refine g_iload_n hx hb d_MD_change_86 rfl rfl ?_
          refine n_imul hx hb d_MD_change_87 ?_
          refine g_aload_n hx hb d_MD_change_88 rfl rfl ?_
          refine g_get hx hb hts (in_mw in_MD) hown hK.1 w_M rfl 1 (by decide) (hts _ (List.mem_cons_of_mem _ t_316)) rfl d_MD_change_89 ?_
          refine g_iload_n hx hb d_MD_change_92 rfl rfl ?_
          refine g_iald hx hb hK.1 (w_Ma (c := 71) (by decide) (by decide)) 0 rfl (show _ < 4 by omega) (by decide) rfl d_MD_change_93 ?_
          refine g_val (show nI _ = nI ((V 71 n) + 1) from congrArg nI (by simp (disch := omega) only [pt_eq, pt_ne, pt_nk])) ?_
          refine n_iadd hx hb d_MD_change_94 ?_
          refine g_istore_n (L' := [_, _, _, _, _]) hx hb d_MD_change_95 rfl (Nat.le_of_ble_eq_true rfl) rfl ?_
          refine g_aload_n hx hb d_MD_change_96 rfl rfl ?_
          refine g_get hx hb hts (in_mw in_MD) hown hK.1 w_M rfl 16 (by decide) (hts _ (List.mem_cons_of_mem _ t_331)) rfl d_MD_change_97 ?_
          refine g_iload_n hx hb d_MD_change_100 rfl rfl ?_
          refine g_aload_n hx hb d_MD_change_101 rfl rfl ?_
          refine g_get hx hb hts (in_mw in_MD) hown hK.1 w_M rfl 0 (by decide) (hts _ (List.mem_cons_of_mem _ t_315)) rfl d_MD_change_102 ?_
          refine g_iload_n hx hb d_MD_change_105 rfl rfl ?_
          refine g_iald hx hb hK.1 (w_Ma (c := 70) (by decide) (by decide)) 0 rfl (show _ < 4 by omega) (by decide) rfl d_MD_change_106 ?_
          refine g_val (show nI _ = nI (V 70 n) from congrArg nI (by simp (disch := omega) only [pt_eq, pt_ne, pt_nk])) ?_
          refine g_iast hx hb hK.1 (gw_D had) (w_Ma (c := 85) (by decide) (by decide)) 0 rfl (show _ < 64 by omega) (by decide) d_MD_change_107 (s_Ma (c := 85) (by decide) (by decide) _ _) ?_
          refine g_iconst hx hb d_MD_change_108 k_iconst_0 ?_
          refine g_istore (L' := [_, _, _, _, _]) hx hb d_MD_change_109 (Nat.le_of_ble_eq_true rfl) rfl ?_
          refine g_loop 4 (fun r => gw ad ct (rct (pt (pt (pt (pt (pt (pt V 71 n (V 71 n + 1)) 72 n set) 74 n 1) 75 n 0) 73 n 1) 85 (16 * n + (V 71 n + 1)) (V 70 n)) n (16 * n + (V 71 n + 1)) r)) (fun r => [some (.ref (ad 69)), some (.int (nI n)), some (.int (nI set)), some (.int (nI ((16 * n) + ((V 71 n) + 1)))), some (.int (nI r))]) (fun r => True) 0 (by omega) trivial rfl rfl ?_
          intro r hq0_r hqE_r hI_r ih_r
          try dsimp only
          refine g_iload hx hb d_MD_change_111 rfl ?_
          refine g_iconst hx hb d_MD_change_113 k_iconst_4 ?_
          refine n_icmp_ge (tgt := 160) hx hb d_MD_change_114 (by decide) (by omega) (by omega) (fun hc1 => ?_) (fun hc1 => ?_)
          · have hr4 : r = 4 := by omega
            subst hr4
            refine g_aload_n hx hb d_MD_change_160 rfl rfl ?_
            refine g_get hx hb hts (in_mw in_MD) hown hK.1 w_M rfl 18 (by decide) (hts _ (List.mem_cons_of_mem _ t_333)) rfl d_MD_change_161 ?_
            refine g_bipush hx hb d_MD_change_164 k_bipush_64 ?_
            refine g_iload_n hx hb d_MD_change_166 rfl rfl ?_
            refine n_imul hx hb d_MD_change_167 ?_
            refine g_iload_n hx hb d_MD_change_168 rfl rfl ?_
            refine n_iadd hx hb d_MD_change_169 ?_
            refine g_iconst hx hb d_MD_change_170 k_iconst_1 ?_
            refine g_zast hx hb hK.1 (gw_D had) (w_Ma (c := 87) (by decide) (by decide)) 1 rfl (show _ < 256 by omega) (by decide) d_MD_change_171 (by decide +kernel) (s_Ma (c := 87) (by decide) (by decide) _ _) ?_
            refine g_aload_n hx hb d_MD_change_172 rfl rfl ?_
            refine g_iload_n hx hb d_MD_change_173 rfl rfl ?_
            refine g_iload_n hx hb d_MD_change_174 rfl rfl ?_
            refine g_sipush hx hb d_MD_change_175 k_sipush_256 ?_
            refine g_iload_n hx hb d_MD_change_178 rfl rfl ?_
            refine n_iadd hx hb d_MD_change_179 ?_
            refine g_callVv (C := "GroupViewsModel") (nn := 3) ⟨hx, hb, hml.trans rfl, hown, hts⟩ (ct_MD_put l D ad ct had _ _ _ _ hn (by omega) (fun j hj => by simp (disch := omega) only [pt_eq, pt_ne, pt_nk, rct_ne]; have := (hrb.2 (4 * n + j) (by omega)).1; omega)) (mk_V hts t_397 t_399 ts_MD_put t_4 t_400 rfl rfl (by decide +kernel) ⟨Nat.le_of_ble_eq_true rfl, Nat.le_of_ble_eq_true rfl⟩) hK.1 rfl w_M rfl (fun _ h => h) (gK_ok D ct) hK (Nat.le_of_ble_eq_true rfl) ⟨Nat.zero_le _, Nat.zero_le _⟩ rfl rfl d_MD_change_180 ?_
            rintro _ rfl
            refine g_aload_n hx hb d_MD_change_183 rfl rfl ?_
            refine g_get hx hb hts (in_mw in_MD) hown hK.1 w_M rfl 1 (by decide) (hts _ (List.mem_cons_of_mem _ t_316)) rfl d_MD_change_184 ?_
            refine g_iload_n hx hb d_MD_change_187 rfl rfl ?_
            refine g_iald hx hb hK.1 (w_Ma (c := 71) (by decide) (by decide)) 0 rfl (show _ < 4 by omega) (by decide) rfl d_MD_change_188 ?_
            refine g_val (show nI _ = nI (V 71 n + 1) from congrArg nI (by rw [rpo_ne (by decide) (by decide)]; simp (disch := omega) only [pt_eq, pt_ne, pt_nk, rct_ne])) ?_
            have hS : rChange V n set = (nI (V 71 n + 1), rpo (pt (rct (pt (pt (pt (pt (pt (pt V 71 n (V 71 n + 1)) 72 n set) 74 n 1) 75 n 0) 73 n 1) 85 (16 * n + (V 71 n + 1)) (V 70 n)) n (16 * n + (V 71 n + 1)) 4) 87 (64 * n + (16 * n + (V 71 n + 1))) 1) n set (256 + (16 * n + (V 71 n + 1))) 4) := by unfold rChange; rw [if_neg (not_not_intro ⟨hne.1, hne.2, hbit⟩), if_neg hch]
            exact g_iret hx hb hr hlk d_MD_change_189 (Or.inr ⟨hn, by rw [hS] <;> first | exact n0_eq | exact n1_eq | exact n2_eq, by rw [hS]⟩)
          · refine g_aload_n hx hb d_MD_change_117 rfl rfl ?_
            refine g_get hx hb hts (in_mw in_MD) hown hK.1 w_M rfl 17 (by decide) (hts _ (List.mem_cons_of_mem _ t_332)) rfl d_MD_change_118 ?_
            refine g_iconst hx hb d_MD_change_121 k_iconst_4 ?_
            refine g_iload_n hx hb d_MD_change_122 rfl rfl ?_
            refine n_imul hx hb d_MD_change_123 ?_
            refine g_iload hx hb d_MD_change_124 rfl ?_
            refine n_iadd hx hb d_MD_change_126 ?_
            refine g_iload hx hb d_MD_change_127 rfl ?_
            refine g_iload_n hx hb d_MD_change_129 rfl rfl ?_
            refine n_icmp_ne (tgt := 142) hx hb d_MD_change_130 (by decide) (by omega) (by omega) (fun heq => ?_) (fun heq => ?_)
            · refine g_aload_n hx hb d_MD_change_142 rfl rfl ?_
              refine g_get hx hb hts (in_mw in_MD) hown hK.1 w_M rfl 8 (by decide) (hts _ (List.mem_cons_of_mem _ t_323)) rfl d_MD_change_143 ?_
              refine g_iconst hx hb d_MD_change_146 k_iconst_4 ?_
              refine g_iload_n hx hb d_MD_change_147 rfl rfl ?_
              refine n_imul hx hb d_MD_change_148 ?_
              refine g_iload hx hb d_MD_change_149 rfl ?_
              refine n_iadd hx hb d_MD_change_151 ?_
              refine g_iald hx hb hK.1 (w_Ma (c := 78) (by decide) (by decide)) 0 rfl (show _ < 16 by omega) (by decide) rfl d_MD_change_152 ?_
              refine g_val (show nI _ = nI ((pt (pt (pt (pt (pt (pt V 71 n (V 71 n + 1)) 72 n set) 74 n 1) 75 n 0) 73 n 1) 85 (16 * n + (V 71 n + 1)) (V 70 n)) 78 (4 * n + r)) from congrArg nI (rct_ne (by decide) r)) ?_
              refine g_iast hx hb hK.1 (gw_D had) (w_Ma (c := 86) (by decide) (by decide)) 0 rfl (show _ < 256 by omega) (by decide) d_MD_change_153 (s_Ma (c := 86) (by decide) (by decide) _ _) ?_
              refine n_iinc (L' := [_, _, _, _, _]) hx hb d_MD_change_154 rfl rfl ?_
              refine g_goto (tgt := 111) hx hb d_MD_change_157 (by decide) ?_
              refine g_w (congrArg (gw ad ct) (show _ = rct (pt (pt (pt (pt (pt (pt V 71 n (V 71 n + 1)) 72 n set) 74 n 1) 75 n 0) 73 n 1) 85 (16 * n + (V 71 n + 1)) (V 70 n)) n (16 * n + (V 71 n + 1)) (r + 1) from by rw [rct, if_neg heq])) ?_
              exact ih_r (by omega) trivial
            · refine g_aload_n hx hb d_MD_change_133 rfl rfl ?_
              refine g_get hx hb hts (in_mw in_MD) hown hK.1 w_M rfl 7 (by decide) (hts _ (List.mem_cons_of_mem _ t_322)) rfl d_MD_change_134 ?_
              refine g_iload_n hx hb d_MD_change_137 rfl rfl ?_
              refine g_iald hx hb hK.1 (w_Ma (c := 77) (by decide) (by decide)) 0 rfl (show _ < 4 by omega) (by decide) rfl d_MD_change_138 ?_
              refine g_val (show nI _ = nI ((pt (pt (pt (pt (pt (pt V 71 n (V 71 n + 1)) 72 n set) 74 n 1) 75 n 0) 73 n 1) 85 (16 * n + (V 71 n + 1)) (V 70 n)) 77 n) from congrArg nI (rct_ne (by decide) r)) ?_
              refine g_goto (tgt := 153) hx hb d_MD_change_139 (by decide) ?_
              refine g_iast hx hb hK.1 (gw_D had) (w_Ma (c := 86) (by decide) (by decide)) 0 rfl (show _ < 256 by omega) (by decide) d_MD_change_153 (s_Ma (c := 86) (by decide) (by decide) _ _) ?_
              refine n_iinc (L' := [_, _, _, _, _]) hx hb d_MD_change_154 rfl rfl ?_
              refine g_goto (tgt := 111) hx hb d_MD_change_157 (by decide) ?_
              refine g_w (congrArg (gw ad ct) (show _ = rct (pt (pt (pt (pt (pt (pt V 71 n (V 71 n + 1)) 72 n set) 74 n 1) 75 n 0) 73 n 1) 85 (16 * n + (V 71 n + 1)) (V 70 n)) n (16 * n + (V 71 n + 1)) (r + 1) from by rw [rct, if_pos heq])) ?_
              exact ih_r (by omega) trivial
        · refine g_bipush hx hb d_MD_change_43 k_bipush_m3 ?_
          have hS : rChange V n set = (-3, V) := by unfold rChange; rw [if_neg (not_not_intro ⟨hne.1, hne.2, hbit⟩), if_pos hch]
          exact g_iret hx hb hr hlk d_MD_change_45 (Or.inr ⟨hn, by rw [hS] <;> first | exact n0_eq | exact n1_eq | exact n2_eq, by rw [hS]⟩)
      · refine g_bipush hx hb d_MD_change_29 k_bipush_m2 ?_
        have hS : rChange V n set = (-2, V) := by unfold rChange; rw [if_pos (fun z => z.2.2 hbit)]
        exact g_iret hx hb hr hlk d_MD_change_31 (Or.inr ⟨hn, by rw [hS] <;> first | exact n0_eq | exact n1_eq | exact n2_eq, by rw [hS]⟩)
  · have hn := bN_0.mp hn
    have hn : ¬ n < 4 := by omega
    refine g_iconst hx hb d_MD_change_9 k_iconst_m1 ?_
    exact g_iret hx hb hr hlk d_MD_change_10 (Or.inl ⟨hn, rfl, rfl⟩)
set_option maxRecDepth 100000 in
set_option maxHeartbeats 4000000 in
theorem ct_MD_form (l : Launch) (D : va_G) (ad : Nat → Nat) (ct : Nat → ClassId) (had : adOk ad) (V : VV) (set : Nat) (h2 : set < 2 ^ 32) (hrb : RB V) : CTi l y_MD_form (mw y_MD_form c_MD_form 3 (some .int)) { frames := 1, cells := 0, slots := 0, locals := 22 } (gK D ct) D vcl (gA ad) [.ref (ad 69), .int (nI set)] (gw ad ct V) (fun r w => ∃ X', rForm V set r X' ∧ w = gw ad ct X') := by
  refine ct_i (by decide) rfl rfl (Nat.le_of_ble_eq_true rfl) ?_
  intro pg en sx mx blw mth cdx hx hb hr hts hown hlk hml hK
  refine g_L (L' := [_, _, _]) rfl ?_
  have hv15 := hrb.1.v
  refine g_iload_n hx hb d_MD_form_0 rfl rfl ?_
  refine g_iconst hx hb d_MD_form_1 k_iconst_1 ?_
  refine g_bipush hx hb d_MD_form_2 k_bipush_15 ?_
  refine g_callSi (nn := 3) ⟨hx, hb, hml.trans rfl, hown, hts⟩ (ct_MD_within l D ad ct had _ _ _ _ (by omega) (by omega) (by omega)) (mk_S hts t_390 t_391 t_4 t_392 rfl rfl (by decide +kernel) ⟨Nat.le_of_ble_eq_true rfl, Nat.le_of_ble_eq_true rfl⟩) (fun _ h => h) (gK_ok D ct) hK (Nat.le_of_ble_eq_true rfl) ⟨Nat.zero_le _, Nat.zero_le _⟩ rfl rfl d_MD_form_4 ?_
  rintro _ _ ⟨rfl, rfl⟩
  refine n_if_ne (tgt := 13) hx hb d_MD_form_7 (by decide) bN_lt (fun hne => ?_) (fun hne => ?_)
  · have hne := bN_n0.mp hne
    refine g_aload_n hx hb d_MD_form_13 rfl rfl ?_
    refine g_get hx hb hts (in_mw in_MD) hown hK.1 w_M rfl 10 (by decide) (hts _ (List.mem_cons_of_mem _ t_325)) rfl d_MD_form_14 ?_
    refine g_bipush hx hb d_MD_form_17 k_bipush_15 ?_
    refine n_icmp_ne (tgt := 25) hx hb d_MD_form_19 (by decide) (by omega) (by omega) (fun hfo => ?_) (fun hfo => ?_)
    · refine g_iconst hx hb d_MD_form_25 k_iconst_0 ?_
      refine g_istore_n (L' := [_, _, _]) hx hb d_MD_form_26 rfl (Nat.le_of_ble_eq_true rfl) rfl ?_
      refine g_loop 4 (fun q => gw ad ct V) (fun q => [some (.ref (ad 69)), some (.int (nI set)), some (.int (nI q))]) (fun q => ∀ j, j < q → set / 2 ^ j % 2 = 1 → ¬ V 73 j = 0 ∧ set &&& V 72 j = set) 0 (by omega) (fun j hj => absurd hj (Nat.not_lt_zero j)) rfl rfl ?_
      intro q hq0_q hqE_q hI_q ih_q
      try dsimp only
      refine g_iload_n hx hb d_MD_form_27 rfl rfl ?_
      refine g_iconst hx hb d_MD_form_28 k_iconst_4 ?_
      refine n_icmp_ge (tgt := 72) hx hb d_MD_form_29 (by decide) (by omega) (by omega) (fun hc1 => ?_) (fun hc1 => ?_)
      · have hcf : rfm V set := fun j hj hb => hI_q j (by omega) hb
        clear hI_q ih_q hqE_q hq0_q
        refine g_aload_n hx hb d_MD_form_72 rfl rfl ?_
        refine g_dup hx hb d_MD_form_73 rfl ?_
        refine g_get hx hb hts (in_mw in_MD) hown hK.1 w_M rfl 10 (by decide) (hts _ (List.mem_cons_of_mem _ t_325)) rfl d_MD_form_74 ?_
        refine g_iconst hx hb d_MD_form_77 k_iconst_1 ?_
        refine n_iadd hx hb d_MD_form_78 ?_
        refine g_put (ty := .int) hx hb hts (in_mw in_MD) ty_MD tyo_MD nm_MD hown hK.1 (gw_D had) w_M rfl 10 (by decide) (hts _ (List.mem_cons_of_mem _ t_325)) rfl (by decide +kernel) rfl rfl (Nat.le_of_ble_eq_true rfl) d_MD_form_79 (s_M10 _) ?_
        refine g_aload_n hx hb d_MD_form_82 rfl rfl ?_
        refine g_get hx hb hts (in_mw in_MD) hown hK.1 w_M rfl 11 (by decide) (hts _ (List.mem_cons_of_mem _ t_326)) rfl d_MD_form_83 ?_
        refine g_aload_n hx hb d_MD_form_86 rfl rfl ?_
        refine g_get hx hb hts (in_mw in_MD) hown hK.1 w_M rfl 10 (by decide) (hts _ (List.mem_cons_of_mem _ t_325)) rfl d_MD_form_87 ?_
        refine g_val (show nI _ = nI ((V 69 10) + 1) from congrArg nI (by simp (disch := omega) only [pt_eq, pt_ne, pt_nk])) ?_
        refine g_iload_n hx hb d_MD_form_90 rfl rfl ?_
        refine g_iast hx hb hK.1 (gw_D had) (w_Ma (c := 80) (by decide) (by decide)) 0 rfl (show _ < 16 by omega) (by decide) d_MD_form_91 (s_Ma (c := 80) (by decide) (by decide) _ _) ?_
        refine g_iconst hx hb d_MD_form_92 k_iconst_0 ?_
        refine g_istore_n (L' := [_, _, _]) hx hb d_MD_form_93 rfl (Nat.le_of_ble_eq_true rfl) rfl ?_
        refine g_loop 4 (fun q => gw ad ct (rfo (pt (pt V 69 10 (V 69 10 + 1)) 80 (V 69 10 + 1) set) set (V 69 10 + 1) q)) (fun q => [some (.ref (ad 69)), some (.int (nI set)), some (.int (nI q))]) (fun q => True) 0 (by omega) trivial rfl rfl ?_
        intro q hq0_q hqE_q hI_q ih_q
        try dsimp only
        refine g_iload_n hx hb d_MD_form_94 rfl rfl ?_
        refine g_iconst hx hb d_MD_form_95 k_iconst_4 ?_
        refine n_icmp_ge (tgt := 142) hx hb d_MD_form_96 (by decide) (by omega) (by omega) (fun hc2 => ?_) (fun hc2 => ?_)
        · have hq4 : q = 4 := by omega
          subst hq4
          refine g_aload_n hx hb d_MD_form_142 rfl rfl ?_
          refine g_get hx hb hts (in_mw in_MD) hown hK.1 w_M rfl 10 (by decide) (hts _ (List.mem_cons_of_mem _ t_325)) rfl d_MD_form_143 ?_
          refine g_val (show nI _ = nI (V 69 10 + 1) from congrArg nI (by rw [rfo_ne (by decide) (by decide)]; simp (disch := omega) only [pt_eq, pt_ne, pt_nk])) ?_
          exact g_iret hx hb hr hlk d_MD_form_146 (⟨_, Or.inr (Or.inr (Or.inr ⟨hne, hfo, hcf, rfl, rfl⟩)), rfl⟩)
        · have hq : q < 4 := by omega
          refine g_iload_n hx hb d_MD_form_99 rfl rfl ?_
          refine g_iload_n hx hb d_MD_form_100 rfl rfl ?_
          refine n_ishr hx hb d_MD_form_101 (by omega) (by omega) ?_
          refine g_iconst hx hb d_MD_form_102 k_iconst_1 ?_
          refine n_iand hx hb d_MD_form_103 ?_
          refine g_val (show nI _ = nI (set / 2 ^ q % 2) from congrArg nI (Nat.and_one_is_mod _)) ?_
          refine n_if_ne (tgt := 110) hx hb d_MD_form_104 (by decide) (by omega) (fun hbit => ?_) (fun hbit => ?_)
          · refine g_aload_n hx hb d_MD_form_110 rfl rfl ?_
            refine g_get hx hb hts (in_mw in_MD) hown hK.1 w_M rfl 12 (by decide) (hts _ (List.mem_cons_of_mem _ t_327)) rfl d_MD_form_111 ?_
            refine g_iconst hx hb d_MD_form_114 k_iconst_4 ?_
            refine g_aload_n hx hb d_MD_form_115 rfl rfl ?_
            refine g_get hx hb hts (in_mw in_MD) hown hK.1 w_M rfl 10 (by decide) (hts _ (List.mem_cons_of_mem _ t_325)) rfl d_MD_form_116 ?_
            refine g_val (show nI _ = nI (V 69 10 + 1) from congrArg nI (by rw [rfo_ne (by decide) (by decide)]; simp (disch := omega) only [pt_eq, pt_ne, pt_nk])) ?_
            refine n_imul hx hb d_MD_form_119 ?_
            refine g_iload_n hx hb d_MD_form_120 rfl rfl ?_
            refine n_iadd hx hb d_MD_form_121 ?_
            refine g_aload_n hx hb d_MD_form_122 rfl rfl ?_
            refine g_get hx hb hts (in_mw in_MD) hown hK.1 w_M rfl 1 (by decide) (hts _ (List.mem_cons_of_mem _ t_316)) rfl d_MD_form_123 ?_
            refine g_iload_n hx hb d_MD_form_126 rfl rfl ?_
            refine g_iald hx hb hK.1 (w_Ma (c := 71) (by decide) (by decide)) 0 rfl (show _ < 4 by omega) (by decide) rfl d_MD_form_127 ?_
            refine g_iast hx hb hK.1 (gw_D had) (w_Ma (c := 81) (by decide) (by decide)) 0 rfl (show _ < 64 by omega) (by decide) d_MD_form_128 (s_Ma (c := 81) (by decide) (by decide) _ _) ?_
            refine g_aload_n hx hb d_MD_form_129 rfl rfl ?_
            refine g_get hx hb hts (in_mw in_MD) hown hK.1 w_M rfl 3 (by decide) (hts _ (List.mem_cons_of_mem _ t_318)) rfl d_MD_form_130 ?_
            refine g_iload_n hx hb d_MD_form_133 rfl rfl ?_
            refine g_iconst hx hb d_MD_form_134 k_iconst_0 ?_
            refine g_zast hx hb hK.1 (gw_D had) (w_Ma (c := 73) (by decide) (by decide)) 1 rfl (show _ < 4 by omega) (by decide) d_MD_form_135 (by decide +kernel) (s_Ma (c := 73) (by decide) (by decide) _ _) ?_
            refine n_iinc (L' := [_, _, _]) hx hb d_MD_form_136 rfl rfl ?_
            refine g_goto (tgt := 94) hx hb d_MD_form_139 (by decide) ?_
            refine g_w (congrArg (gw ad ct) (show _ = rfo (pt (pt V 69 10 (V 69 10 + 1)) 80 (V 69 10 + 1) set) set (V 69 10 + 1) (q + 1) from by rw [rfo, if_pos hbit])) ?_
            exact ih_q (by omega) trivial
          · refine g_goto (tgt := 136) hx hb d_MD_form_107 (by decide) ?_
            refine n_iinc (L' := [_, _, _]) hx hb d_MD_form_136 rfl rfl ?_
            refine g_goto (tgt := 94) hx hb d_MD_form_139 (by decide) ?_
            refine g_w (congrArg (gw ad ct) (show _ = rfo (pt (pt V 69 10 (V 69 10 + 1)) 80 (V 69 10 + 1) set) set (V 69 10 + 1) (q + 1) from by rw [rfo, if_neg (not_not_intro hbit)])) ?_
            exact ih_q (by omega) trivial
      · have hq : q < 4 := by omega
        have hb3 := hrb.1.p q hq
        refine g_iload_n hx hb d_MD_form_32 rfl rfl ?_
        refine g_iload_n hx hb d_MD_form_33 rfl rfl ?_
        refine n_ishr hx hb d_MD_form_34 (by omega) (by omega) ?_
        refine g_iconst hx hb d_MD_form_35 k_iconst_1 ?_
        refine n_iand hx hb d_MD_form_36 ?_
        refine g_val (show nI _ = nI (set / 2 ^ q % 2) from congrArg nI (Nat.and_one_is_mod _)) ?_
        refine g_iconst hx hb d_MD_form_37 k_iconst_1 ?_
        refine n_icmp_ne (tgt := 66) hx hb d_MD_form_38 (by decide) (by omega) (by omega) (fun hbit => ?_) (fun hbit => ?_)
        · refine n_iinc (L' := [_, _, _]) hx hb d_MD_form_66 rfl rfl ?_
          refine g_goto (tgt := 27) hx hb d_MD_form_69 (by decide) ?_
          refine ih_q (by omega) (fun j hj hb => ?_)
          rcases Nat.lt_succ_iff_lt_or_eq.mp hj with z | z
          · exact hI_q j z hb
          · subst z
            first | exact absurd hb hbit | exact ⟨hop, (an_16 set (by omega) _ hb3.2.2.1).mp hsub⟩
        · refine g_aload_n hx hb d_MD_form_41 rfl rfl ?_
          refine g_get hx hb hts (in_mw in_MD) hown hK.1 w_M rfl 3 (by decide) (hts _ (List.mem_cons_of_mem _ t_318)) rfl d_MD_form_42 ?_
          refine g_iload_n hx hb d_MD_form_45 rfl rfl ?_
          refine g_zald hx hb hK.1 (w_Ma (c := 73) (by decide) (by decide)) 1 rfl (show _ < 4 by omega) (by decide) rfl d_MD_form_46 ?_
          refine n_if_eq (tgt := 63) hx hb d_MD_form_47 (by decide) (by omega) (fun hop => ?_) (fun hop => ?_)
          · refine g_bipush hx hb d_MD_form_63 k_bipush_m4 ?_
            exact g_iret hx hb hr hlk d_MD_form_65 (⟨_, Or.inr (Or.inr (Or.inl ⟨hne, hfo, fun z => (z q hq hbit).1 hop, rfl, rfl⟩)), rfl⟩)
          · refine g_iload_n hx hb d_MD_form_50 rfl rfl ?_
            refine g_aload_n hx hb d_MD_form_51 rfl rfl ?_
            refine g_get hx hb hts (in_mw in_MD) hown hK.1 w_M rfl 2 (by decide) (hts _ (List.mem_cons_of_mem _ t_317)) rfl d_MD_form_52 ?_
            refine g_iload_n hx hb d_MD_form_55 rfl rfl ?_
            refine g_iald hx hb hK.1 (w_Ma (c := 72) (by decide) (by decide)) 0 rfl (show _ < 4 by omega) (by decide) rfl d_MD_form_56 ?_
            refine g_iconst hx hb d_MD_form_57 k_iconst_m1 ?_
            refine g_ixor hx hb d_MD_form_58 ?_
            refine g_iand hx hb d_MD_form_59 ?_
            refine g_if_eq (tgt := 66) hx hb d_MD_form_60 (by decide) (fun hsub => ?_) (fun hsub => ?_)
            · refine n_iinc (L' := [_, _, _]) hx hb d_MD_form_66 rfl rfl ?_
              refine g_goto (tgt := 27) hx hb d_MD_form_69 (by decide) ?_
              refine ih_q (by omega) (fun j hj hb => ?_)
              rcases Nat.lt_succ_iff_lt_or_eq.mp hj with z | z
              · exact hI_q j z hb
              · subst z
                first | exact absurd hb hbit | exact ⟨hop, (an_16 set (by omega) _ hb3.2.2.1).mp hsub⟩
            · refine g_bipush hx hb d_MD_form_63 k_bipush_m4 ?_
              exact g_iret hx hb hr hlk d_MD_form_65 (⟨_, Or.inr (Or.inr (Or.inl ⟨hne, hfo, fun z => hsub ((an_16 set (by omega) _ hb3.2.2.1).mpr (z q hq hbit).2), rfl, rfl⟩)), rfl⟩)
    · refine g_bipush hx hb d_MD_form_22 k_bipush_m3 ?_
      exact g_iret hx hb hr hlk d_MD_form_24 (⟨_, Or.inr (Or.inl ⟨hne, hfo, rfl, rfl⟩), rfl⟩)
  · have hne := bN_0.mp hne
    refine g_bipush hx hb d_MD_form_10 k_bipush_m2 ?_
    exact g_iret hx hb hr hlk d_MD_form_12 (⟨_, Or.inl ⟨hne, rfl, rfl⟩, rfl⟩)
set_option maxRecDepth 100000 in
set_option maxHeartbeats 4000000 in
theorem ct_MD_tell (l : Launch) (D : va_G) (ad : Nat → Nat) (ct : Nat → ClassId) (had : adOk ad) (V : VV) (n v : Nat) (h1 : n < 2 ^ 32) (h2 : v < 2 ^ 32) (hrb : RB V) : CTi l y_MD_tell (mw y_MD_tell c_MD_tell 3 (some .int)) { frames := 1, cells := 0, slots := 0, locals := 22 } (gK D ct) D vcl (gA ad) [.ref (ad 69), .int (nI n), .int (nI v)] (gw ad ct V) (fun r w => (¬ n < 4 ∧ r = -1 ∧ w = gw ad ct V) ∨ (n < 4 ∧ r = (rTell V n v).1 ∧ w = gw ad ct (rTell V n v).2)) := by
  refine ct_i (by decide) rfl rfl (Nat.le_of_ble_eq_true rfl) ?_
  intro pg en sx mx blw mth cdx hx hb hr hts hown hlk hml hK
  refine g_L (L' := [_, _, _]) rfl ?_
  have hv15 := hrb.1.v
  refine g_iload_n hx hb d_MD_tell_0 rfl rfl ?_
  refine g_iconst hx hb d_MD_tell_1 k_iconst_0 ?_
  refine g_iconst hx hb d_MD_tell_2 k_iconst_3 ?_
  refine g_callSi (nn := 3) ⟨hx, hb, hml.trans rfl, hown, hts⟩ (ct_MD_within l D ad ct had _ _ _ _ (by omega) (by omega) (by omega)) (mk_S hts t_390 t_391 t_4 t_392 rfl rfl (by decide +kernel) ⟨Nat.le_of_ble_eq_true rfl, Nat.le_of_ble_eq_true rfl⟩) (fun _ h => h) (gK_ok D ct) hK (Nat.le_of_ble_eq_true rfl) ⟨Nat.zero_le _, Nat.zero_le _⟩ rfl rfl d_MD_tell_3 ?_
  rintro _ _ ⟨rfl, rfl⟩
  refine n_if_ne (tgt := 11) hx hb d_MD_tell_6 (by decide) bN_lt (fun hn => ?_) (fun hn => ?_)
  · have hn := bN_n0.mp hn
    have hn : n < 4 := by omega
    have hpa := hrb.1.p n hn
    refine g_iload_n hx hb d_MD_tell_11 rfl rfl ?_
    refine g_iconst hx hb d_MD_tell_12 k_iconst_1 ?_
    refine g_aload_n hx hb d_MD_tell_13 rfl rfl ?_
    refine g_get hx hb hts (in_mw in_MD) hown hK.1 w_M rfl 10 (by decide) (hts _ (List.mem_cons_of_mem _ t_325)) rfl d_MD_tell_14 ?_
    refine g_callSi (nn := 3) ⟨hx, hb, hml.trans rfl, hown, hts⟩ (ct_MD_within l D ad ct had _ _ _ _ (by omega) (by omega) (by omega)) (mk_S hts t_390 t_391 t_4 t_392 rfl rfl (by decide +kernel) ⟨Nat.le_of_ble_eq_true rfl, Nat.le_of_ble_eq_true rfl⟩) (fun _ h => h) (gK_ok D ct) hK (Nat.le_of_ble_eq_true rfl) ⟨Nat.zero_le _, Nat.zero_le _⟩ rfl rfl d_MD_tell_17 ?_
    rintro _ _ ⟨rfl, rfl⟩
    refine n_if_eq (tgt := 36) hx hb d_MD_tell_20 (by decide) bN_lt (fun hfo => ?_) (fun hfo => ?_)
    · have hfo := bN_0.mp hfo
      refine g_bipush hx hb d_MD_tell_36 k_bipush_m2 ?_
      have hS : rTell V n v = (-2, V) := by unfold rTell; rw [if_pos (fun z => hfo ⟨z.1, z.2.1⟩)]
      exact g_iret hx hb hr hlk d_MD_tell_38 (Or.inr ⟨hn, by rw [hS] <;> first | exact n0_eq | exact n1_eq | exact n2_eq, by rw [hS]⟩)
    · have hfo := bN_n0.mp hfo
      have hm := hrb.1.m v
      have hs := hrb.1.s (4 * v + n)
      refine g_aload_n hx hb d_MD_tell_23 rfl rfl ?_
      refine g_get hx hb hts (in_mw in_MD) hown hK.1 w_M rfl 11 (by decide) (hts _ (List.mem_cons_of_mem _ t_326)) rfl d_MD_tell_24 ?_
      refine g_iload_n hx hb d_MD_tell_27 rfl rfl ?_
      refine g_iald hx hb hK.1 (w_Ma (c := 80) (by decide) (by decide)) 0 rfl (show _ < 16 by omega) (by decide) rfl d_MD_tell_28 ?_
      refine g_iload_n hx hb d_MD_tell_29 rfl rfl ?_
      refine n_ishr hx hb d_MD_tell_30 (by omega) (by omega) ?_
      refine g_iconst hx hb d_MD_tell_31 k_iconst_1 ?_
      refine n_iand hx hb d_MD_tell_32 ?_
      refine g_val (show nI _ = nI (V 80 v / 2 ^ n % 2) from congrArg nI (Nat.and_one_is_mod _)) ?_
      refine n_if_ne (tgt := 39) hx hb d_MD_tell_33 (by decide) (by omega) (fun hbit => ?_) (fun hbit => ?_)
      · refine g_aload_n hx hb d_MD_tell_39 rfl rfl ?_
        refine g_get hx hb hts (in_mw in_MD) hown hK.1 w_M rfl 6 (by decide) (hts _ (List.mem_cons_of_mem _ t_321)) rfl d_MD_tell_40 ?_
        refine g_iload_n hx hb d_MD_tell_43 rfl rfl ?_
        refine g_iald hx hb hK.1 (w_Ma (c := 76) (by decide) (by decide)) 0 rfl (show _ < 4 by omega) (by decide) rfl d_MD_tell_44 ?_
        refine g_iload_n hx hb d_MD_tell_45 rfl rfl ?_
        refine n_icmp_lt (tgt := 52) hx hb d_MD_tell_46 (by decide) (by omega) (by omega) (fun hgt => ?_) (fun hgt => ?_)
        · refine g_aload_n hx hb d_MD_tell_52 rfl rfl ?_
          refine g_get hx hb hts (in_mw in_MD) hown hK.1 w_M rfl 12 (by decide) (hts _ (List.mem_cons_of_mem _ t_327)) rfl d_MD_tell_53 ?_
          refine g_iconst hx hb d_MD_tell_56 k_iconst_4 ?_
          refine g_iload_n hx hb d_MD_tell_57 rfl rfl ?_
          refine n_imul hx hb d_MD_tell_58 ?_
          refine g_iload_n hx hb d_MD_tell_59 rfl rfl ?_
          refine n_iadd hx hb d_MD_tell_60 ?_
          refine g_iald hx hb hK.1 (w_Ma (c := 81) (by decide) (by decide)) 0 rfl (show _ < 64 by omega) (by decide) rfl d_MD_tell_61 ?_
          refine g_aload_n hx hb d_MD_tell_62 rfl rfl ?_
          refine g_get hx hb hts (in_mw in_MD) hown hK.1 w_M rfl 1 (by decide) (hts _ (List.mem_cons_of_mem _ t_316)) rfl d_MD_tell_63 ?_
          refine g_iload_n hx hb d_MD_tell_66 rfl rfl ?_
          refine g_iald hx hb hK.1 (w_Ma (c := 71) (by decide) (by decide)) 0 rfl (show _ < 4 by omega) (by decide) rfl d_MD_tell_67 ?_
          refine n_icmp_eq (tgt := 74) hx hb d_MD_tell_68 (by decide) (by omega) (by omega) (fun hst => ?_) (fun hst => ?_)
          · refine g_aload_n hx hb d_MD_tell_74 rfl rfl ?_
            refine g_get hx hb hts (in_mw in_MD) hown hK.1 w_M rfl 6 (by decide) (hts _ (List.mem_cons_of_mem _ t_321)) rfl d_MD_tell_75 ?_
            refine g_iload_n hx hb d_MD_tell_78 rfl rfl ?_
            refine g_iload_n hx hb d_MD_tell_79 rfl rfl ?_
            refine g_iast hx hb hK.1 (gw_D had) (w_Ma (c := 76) (by decide) (by decide)) 0 rfl (show _ < 4 by omega) (by decide) d_MD_tell_80 (s_Ma (c := 76) (by decide) (by decide) _ _) ?_
            refine g_aload_n hx hb d_MD_tell_81 rfl rfl ?_
            refine g_get hx hb hts (in_mw in_MD) hown hK.1 w_M rfl 5 (by decide) (hts _ (List.mem_cons_of_mem _ t_320)) rfl d_MD_tell_82 ?_
            refine g_iload_n hx hb d_MD_tell_85 rfl rfl ?_
            refine g_iload_n hx hb d_MD_tell_86 rfl rfl ?_
            refine g_iast hx hb hK.1 (gw_D had) (w_Ma (c := 75) (by decide) (by decide)) 0 rfl (show _ < 4 by omega) (by decide) d_MD_tell_87 (s_Ma (c := 75) (by decide) (by decide) _ _) ?_
            refine g_iconst hx hb d_MD_tell_88 k_iconst_0 ?_
            have hS : rTell V n v = (0, pt (pt V 76 n v) 75 n v) := by unfold rTell; rw [if_neg (not_not_intro ⟨hfo.1, hfo.2, hbit⟩), if_neg (by omega), if_neg (not_not_intro hst)]
            exact g_iret hx hb hr hlk d_MD_tell_89 (Or.inr ⟨hn, by rw [hS] <;> first | exact n0_eq | exact n1_eq | exact n2_eq, by rw [hS]⟩)
          · refine g_bipush hx hb d_MD_tell_71 k_bipush_m4 ?_
            have hS : rTell V n v = (-4, V) := by unfold rTell; rw [if_neg (not_not_intro ⟨hfo.1, hfo.2, hbit⟩), if_neg (by omega), if_pos hst]
            exact g_iret hx hb hr hlk d_MD_tell_73 (Or.inr ⟨hn, by rw [hS] <;> first | exact n0_eq | exact n1_eq | exact n2_eq, by rw [hS]⟩)
        · refine g_bipush hx hb d_MD_tell_49 k_bipush_m3 ?_
          have hS : rTell V n v = (-3, V) := by unfold rTell; rw [if_neg (not_not_intro ⟨hfo.1, hfo.2, hbit⟩), if_pos hgt]
          exact g_iret hx hb hr hlk d_MD_tell_51 (Or.inr ⟨hn, by rw [hS] <;> first | exact n0_eq | exact n1_eq | exact n2_eq, by rw [hS]⟩)
      · refine g_bipush hx hb d_MD_tell_36 k_bipush_m2 ?_
        have hS : rTell V n v = (-2, V) := by unfold rTell; rw [if_pos (fun z => z.2.2 hbit)]
        exact g_iret hx hb hr hlk d_MD_tell_38 (Or.inr ⟨hn, by rw [hS] <;> first | exact n0_eq | exact n1_eq | exact n2_eq, by rw [hS]⟩)
  · have hn := bN_0.mp hn
    have hn : ¬ n < 4 := by omega
    refine g_iconst hx hb d_MD_tell_9 k_iconst_m1 ?_
    exact g_iret hx hb hr hlk d_MD_tell_10 (Or.inl ⟨hn, rfl, rfl⟩)
set_option maxRecDepth 100000 in
set_option maxHeartbeats 4000000 in
theorem ct_MD_view (l : Launch) (D : va_G) (ad : Nat → Nat) (ct : Nat → ClassId) (had : adOk ad) (V : VV) (n : Nat) (h1 : n < 2 ^ 32) : CTi l y_MD_view (mw y_MD_view c_MD_view 2 (some .int)) { frames := 1, cells := 0, slots := 0, locals := 22 } (gK D ct) D vcl (gA ad) [.ref (ad 69), .int (nI n)] (gw ad ct V) (fun r w => (¬ n < 4 ∧ r = -1 ∧ w = gw ad ct V) ∨ (n < 4 ∧ r = nI (V 70 n) ∧ w = gw ad ct V)) := by
  refine ct_i (by decide) rfl rfl (Nat.le_of_ble_eq_true rfl) ?_
  intro pg en sx mx blw mth cdx hx hb hr hts hown hlk hml hK
  refine g_L (L' := [_, _]) rfl ?_
  refine g_iload_n hx hb d_MD_view_0 rfl rfl ?_
  refine g_iconst hx hb d_MD_view_1 k_iconst_0 ?_
  refine g_iconst hx hb d_MD_view_2 k_iconst_3 ?_
  refine g_callSi (nn := 3) ⟨hx, hb, hml.trans rfl, hown, hts⟩ (ct_MD_within l D ad ct had _ _ _ _ (by omega) (by omega) (by omega)) (mk_S hts t_390 t_391 t_4 t_392 rfl rfl (by decide +kernel) ⟨Nat.le_of_ble_eq_true rfl, Nat.le_of_ble_eq_true rfl⟩) (fun _ h => h) (gK_ok D ct) hK (Nat.le_of_ble_eq_true rfl) ⟨Nat.zero_le _, Nat.zero_le _⟩ rfl rfl d_MD_view_3 ?_
  rintro _ _ ⟨rfl, rfl⟩
  refine n_if_eq (tgt := 18) hx hb d_MD_view_6 (by decide) bN_lt (fun hn => ?_) (fun hn => ?_)
  · have hn := bN_0.mp hn
    have hn : ¬ n < 4 := by omega
    refine g_iconst hx hb d_MD_view_18 k_iconst_m1 ?_
    exact g_iret hx hb hr hlk d_MD_view_19 (Or.inl ⟨hn, rfl, rfl⟩)
  · have hn := bN_n0.mp hn
    have hn : n < 4 := by omega
    refine g_aload_n hx hb d_MD_view_9 rfl rfl ?_
    refine g_get hx hb hts (in_mw in_MD) hown hK.1 w_M rfl 0 (by decide) (hts _ (List.mem_cons_of_mem _ t_315)) rfl d_MD_view_10 ?_
    refine g_iload_n hx hb d_MD_view_13 rfl rfl ?_
    refine g_iald hx hb hK.1 (w_Ma (c := 70) (by decide) (by decide)) 0 rfl (show _ < 4 by omega) (by decide) rfl d_MD_view_14 ?_
    refine g_goto (tgt := 19) hx hb d_MD_view_15 (by decide) ?_
    exact g_iret hx hb hr hlk d_MD_view_19 (Or.inr ⟨hn, rfl, rfl⟩)
set_option maxRecDepth 100000 in
set_option maxHeartbeats 4000000 in
theorem ct_MD_pending (l : Launch) (D : va_G) (ad : Nat → Nat) (ct : Nat → ClassId) (had : adOk ad) (V : VV) (n : Nat) (h1 : n < 2 ^ 32) : CTi l y_MD_pending (mw y_MD_pending c_MD_pending 2 (some .int)) { frames := 1, cells := 0, slots := 0, locals := 22 } (gK D ct) D vcl (gA ad) [.ref (ad 69), .int (nI n)] (gw ad ct V) (fun r w => (¬ n < 4 ∧ r = -1 ∧ w = gw ad ct V) ∨ (n < 4 ∧ r = nI (V 75 n) ∧ w = gw ad ct V)) := by
  refine ct_i (by decide) rfl rfl (Nat.le_of_ble_eq_true rfl) ?_
  intro pg en sx mx blw mth cdx hx hb hr hts hown hlk hml hK
  refine g_L (L' := [_, _]) rfl ?_
  refine g_iload_n hx hb d_MD_pending_0 rfl rfl ?_
  refine g_iconst hx hb d_MD_pending_1 k_iconst_0 ?_
  refine g_iconst hx hb d_MD_pending_2 k_iconst_3 ?_
  refine g_callSi (nn := 3) ⟨hx, hb, hml.trans rfl, hown, hts⟩ (ct_MD_within l D ad ct had _ _ _ _ (by omega) (by omega) (by omega)) (mk_S hts t_390 t_391 t_4 t_392 rfl rfl (by decide +kernel) ⟨Nat.le_of_ble_eq_true rfl, Nat.le_of_ble_eq_true rfl⟩) (fun _ h => h) (gK_ok D ct) hK (Nat.le_of_ble_eq_true rfl) ⟨Nat.zero_le _, Nat.zero_le _⟩ rfl rfl d_MD_pending_3 ?_
  rintro _ _ ⟨rfl, rfl⟩
  refine n_if_eq (tgt := 18) hx hb d_MD_pending_6 (by decide) bN_lt (fun hn => ?_) (fun hn => ?_)
  · have hn := bN_0.mp hn
    have hn : ¬ n < 4 := by omega
    refine g_iconst hx hb d_MD_pending_18 k_iconst_m1 ?_
    exact g_iret hx hb hr hlk d_MD_pending_19 (Or.inl ⟨hn, rfl, rfl⟩)
  · have hn := bN_n0.mp hn
    have hn : n < 4 := by omega
    refine g_aload_n hx hb d_MD_pending_9 rfl rfl ?_
    refine g_get hx hb hts (in_mw in_MD) hown hK.1 w_M rfl 5 (by decide) (hts _ (List.mem_cons_of_mem _ t_320)) rfl d_MD_pending_10 ?_
    refine g_iload_n hx hb d_MD_pending_13 rfl rfl ?_
    refine g_iald hx hb hK.1 (w_Ma (c := 75) (by decide) (by decide)) 0 rfl (show _ < 4 by omega) (by decide) rfl d_MD_pending_14 ?_
    refine g_goto (tgt := 19) hx hb d_MD_pending_15 (by decide) ?_
    exact g_iret hx hb hr hlk d_MD_pending_19 (Or.inr ⟨hn, rfl, rfl⟩)
set_option maxRecDepth 100000 in
set_option maxHeartbeats 4000000 in
theorem ct_MD_changes (l : Launch) (D : va_G) (ad : Nat → Nat) (ct : Nat → ClassId) (had : adOk ad) (V : VV) (n : Nat) (h1 : n < 2 ^ 32) : CTi l y_MD_changes (mw y_MD_changes c_MD_changes 2 (some .int)) { frames := 1, cells := 0, slots := 0, locals := 22 } (gK D ct) D vcl (gA ad) [.ref (ad 69), .int (nI n)] (gw ad ct V) (fun r w => (¬ n < 4 ∧ r = -1 ∧ w = gw ad ct V) ∨ (n < 4 ∧ r = nI (V 71 n) ∧ w = gw ad ct V)) := by
  refine ct_i (by decide) rfl rfl (Nat.le_of_ble_eq_true rfl) ?_
  intro pg en sx mx blw mth cdx hx hb hr hts hown hlk hml hK
  refine g_L (L' := [_, _]) rfl ?_
  refine g_iload_n hx hb d_MD_changes_0 rfl rfl ?_
  refine g_iconst hx hb d_MD_changes_1 k_iconst_0 ?_
  refine g_iconst hx hb d_MD_changes_2 k_iconst_3 ?_
  refine g_callSi (nn := 3) ⟨hx, hb, hml.trans rfl, hown, hts⟩ (ct_MD_within l D ad ct had _ _ _ _ (by omega) (by omega) (by omega)) (mk_S hts t_390 t_391 t_4 t_392 rfl rfl (by decide +kernel) ⟨Nat.le_of_ble_eq_true rfl, Nat.le_of_ble_eq_true rfl⟩) (fun _ h => h) (gK_ok D ct) hK (Nat.le_of_ble_eq_true rfl) ⟨Nat.zero_le _, Nat.zero_le _⟩ rfl rfl d_MD_changes_3 ?_
  rintro _ _ ⟨rfl, rfl⟩
  refine n_if_eq (tgt := 18) hx hb d_MD_changes_6 (by decide) bN_lt (fun hn => ?_) (fun hn => ?_)
  · have hn := bN_0.mp hn
    have hn : ¬ n < 4 := by omega
    refine g_iconst hx hb d_MD_changes_18 k_iconst_m1 ?_
    exact g_iret hx hb hr hlk d_MD_changes_19 (Or.inl ⟨hn, rfl, rfl⟩)
  · have hn := bN_n0.mp hn
    have hn : n < 4 := by omega
    refine g_aload_n hx hb d_MD_changes_9 rfl rfl ?_
    refine g_get hx hb hts (in_mw in_MD) hown hK.1 w_M rfl 1 (by decide) (hts _ (List.mem_cons_of_mem _ t_316)) rfl d_MD_changes_10 ?_
    refine g_iload_n hx hb d_MD_changes_13 rfl rfl ?_
    refine g_iald hx hb hK.1 (w_Ma (c := 71) (by decide) (by decide)) 0 rfl (show _ < 4 by omega) (by decide) rfl d_MD_changes_14 ?_
    refine g_goto (tgt := 19) hx hb d_MD_changes_15 (by decide) ?_
    exact g_iret hx hb hr hlk d_MD_changes_19 (Or.inr ⟨hn, rfl, rfl⟩)
set_option maxRecDepth 100000 in
set_option maxHeartbeats 4000000 in
theorem ct_MD_sent (l : Launch) (D : va_G) (ad : Nat → Nat) (ct : Nat → ClassId) (had : adOk ad) (V : VV) (n : Nat) (h1 : n < 2 ^ 32) : CTi l y_MD_sent (mw y_MD_sent c_MD_sent 2 (some .int)) { frames := 1, cells := 0, slots := 0, locals := 22 } (gK D ct) D vcl (gA ad) [.ref (ad 69), .int (nI n)] (gw ad ct V) (fun r w => (¬ n < 4 ∧ r = -1 ∧ w = gw ad ct V) ∨ (n < 4 ∧ r = nI (V 77 n) ∧ w = gw ad ct V)) := by
  refine ct_i (by decide) rfl rfl (Nat.le_of_ble_eq_true rfl) ?_
  intro pg en sx mx blw mth cdx hx hb hr hts hown hlk hml hK
  refine g_L (L' := [_, _]) rfl ?_
  refine g_iload_n hx hb d_MD_sent_0 rfl rfl ?_
  refine g_iconst hx hb d_MD_sent_1 k_iconst_0 ?_
  refine g_iconst hx hb d_MD_sent_2 k_iconst_3 ?_
  refine g_callSi (nn := 3) ⟨hx, hb, hml.trans rfl, hown, hts⟩ (ct_MD_within l D ad ct had _ _ _ _ (by omega) (by omega) (by omega)) (mk_S hts t_390 t_391 t_4 t_392 rfl rfl (by decide +kernel) ⟨Nat.le_of_ble_eq_true rfl, Nat.le_of_ble_eq_true rfl⟩) (fun _ h => h) (gK_ok D ct) hK (Nat.le_of_ble_eq_true rfl) ⟨Nat.zero_le _, Nat.zero_le _⟩ rfl rfl d_MD_sent_3 ?_
  rintro _ _ ⟨rfl, rfl⟩
  refine n_if_eq (tgt := 18) hx hb d_MD_sent_6 (by decide) bN_lt (fun hn => ?_) (fun hn => ?_)
  · have hn := bN_0.mp hn
    have hn : ¬ n < 4 := by omega
    refine g_iconst hx hb d_MD_sent_18 k_iconst_m1 ?_
    exact g_iret hx hb hr hlk d_MD_sent_19 (Or.inl ⟨hn, rfl, rfl⟩)
  · have hn := bN_n0.mp hn
    have hn : n < 4 := by omega
    refine g_aload_n hx hb d_MD_sent_9 rfl rfl ?_
    refine g_get hx hb hts (in_mw in_MD) hown hK.1 w_M rfl 7 (by decide) (hts _ (List.mem_cons_of_mem _ t_322)) rfl d_MD_sent_10 ?_
    refine g_iload_n hx hb d_MD_sent_13 rfl rfl ?_
    refine g_iald hx hb hK.1 (w_Ma (c := 77) (by decide) (by decide)) 0 rfl (show _ < 4 by omega) (by decide) rfl d_MD_sent_14 ?_
    refine g_goto (tgt := 19) hx hb d_MD_sent_15 (by decide) ?_
    exact g_iret hx hb hr hlk d_MD_sent_19 (Or.inr ⟨hn, rfl, rfl⟩)
set_option maxRecDepth 100000 in
set_option maxHeartbeats 4000000 in
theorem ct_MD_event (l : Launch) (D : va_G) (ad : Nat → Nat) (ct : Nat → ClassId) (had : adOk ad) (V : VV) (n i : Nat) (h1 : n < 2 ^ 32) (h2 : i < 2 ^ 32) : CTi l y_MD_event (mw y_MD_event c_MD_event 3 (some .int)) { frames := 1, cells := 0, slots := 0, locals := 22 } (gK D ct) D vcl (gA ad) [.ref (ad 69), .int (nI n), .int (nI i)] (gw ad ct V) (fun r w => (¬ (n < 4 ∧ i < 4) ∧ r = 0 ∧ w = gw ad ct V) ∨ ((n < 4 ∧ i < 4) ∧ r = nI (V 79 (4 * n + i)) ∧ w = gw ad ct V)) := by
  refine ct_i (by decide) rfl rfl (Nat.le_of_ble_eq_true rfl) ?_
  intro pg en sx mx blw mth cdx hx hb hr hts hown hlk hml hK
  refine g_L (L' := [_, _, _]) rfl ?_
  refine g_iload_n hx hb d_MD_event_0 rfl rfl ?_
  refine g_iconst hx hb d_MD_event_1 k_iconst_0 ?_
  refine g_iconst hx hb d_MD_event_2 k_iconst_3 ?_
  refine g_callSi (nn := 3) ⟨hx, hb, hml.trans rfl, hown, hts⟩ (ct_MD_within l D ad ct had _ _ _ _ (by omega) (by omega) (by omega)) (mk_S hts t_390 t_391 t_4 t_392 rfl rfl (by decide +kernel) ⟨Nat.le_of_ble_eq_true rfl, Nat.le_of_ble_eq_true rfl⟩) (fun _ h => h) (gK_ok D ct) hK (Nat.le_of_ble_eq_true rfl) ⟨Nat.zero_le _, Nat.zero_le _⟩ rfl rfl d_MD_event_3 ?_
  rintro _ _ ⟨rfl, rfl⟩
  refine n_if_eq (tgt := 31) hx hb d_MD_event_6 (by decide) bN_lt (fun hn => ?_) (fun hn => ?_)
  · have hn := bN_0.mp hn
    refine g_iconst hx hb d_MD_event_31 k_iconst_0 ?_
    exact g_iret hx hb hr hlk d_MD_event_32 (Or.inl ⟨by omega, rfl, rfl⟩)
  · have hn := bN_n0.mp hn
    refine g_iload_n hx hb d_MD_event_9 rfl rfl ?_
    refine g_iconst hx hb d_MD_event_10 k_iconst_0 ?_
    refine g_iconst hx hb d_MD_event_11 k_iconst_3 ?_
    refine g_callSi (nn := 3) ⟨hx, hb, hml.trans rfl, hown, hts⟩ (ct_MD_within l D ad ct had _ _ _ _ (by omega) (by omega) (by omega)) (mk_S hts t_390 t_391 t_4 t_392 rfl rfl (by decide +kernel) ⟨Nat.le_of_ble_eq_true rfl, Nat.le_of_ble_eq_true rfl⟩) (fun _ h => h) (gK_ok D ct) hK (Nat.le_of_ble_eq_true rfl) ⟨Nat.zero_le _, Nat.zero_le _⟩ rfl rfl d_MD_event_12 ?_
    rintro _ _ ⟨rfl, rfl⟩
    refine n_if_eq (tgt := 31) hx hb d_MD_event_15 (by decide) bN_lt (fun hi => ?_) (fun hi => ?_)
    · have hi := bN_0.mp hi
      refine g_iconst hx hb d_MD_event_31 k_iconst_0 ?_
      exact g_iret hx hb hr hlk d_MD_event_32 (Or.inl ⟨by omega, rfl, rfl⟩)
    · have hi := bN_n0.mp hi
      refine g_aload_n hx hb d_MD_event_18 rfl rfl ?_
      refine g_get hx hb hts (in_mw in_MD) hown hK.1 w_M rfl 9 (by decide) (hts _ (List.mem_cons_of_mem _ t_324)) rfl d_MD_event_19 ?_
      refine g_iconst hx hb d_MD_event_22 k_iconst_4 ?_
      refine g_iload_n hx hb d_MD_event_23 rfl rfl ?_
      refine n_imul hx hb d_MD_event_24 ?_
      refine g_iload_n hx hb d_MD_event_25 rfl rfl ?_
      refine n_iadd hx hb d_MD_event_26 ?_
      refine g_iald hx hb hK.1 (w_Ma (c := 79) (by decide) (by decide)) 0 rfl (show _ < 16 by omega) (by decide) rfl d_MD_event_27 ?_
      refine g_goto (tgt := 32) hx hb d_MD_event_28 (by decide) ?_
      exact g_iret hx hb hr hlk d_MD_event_32 (Or.inr ⟨by omega, rfl, rfl⟩)
set_option maxRecDepth 100000 in
set_option maxHeartbeats 4000000 in
theorem ct_MD_members (l : Launch) (D : va_G) (ad : Nat → Nat) (ct : Nat → ClassId) (had : adOk ad) (V : VV) (v : Nat) (h2 : v < 2 ^ 32) (hrb : RB V) : CTi l y_MD_members (mw y_MD_members c_MD_members 2 (some .int)) { frames := 1, cells := 0, slots := 0, locals := 22 } (gK D ct) D vcl (gA ad) [.ref (ad 69), .int (nI v)] (gw ad ct V) (fun r w => (¬ (1 ≤ v ∧ v ≤ V 69 10) ∧ r = 0 ∧ w = gw ad ct V) ∨ ((1 ≤ v ∧ v ≤ V 69 10) ∧ r = nI (V 80 v) ∧ w = gw ad ct V)) := by
  refine ct_i (by decide) rfl rfl (Nat.le_of_ble_eq_true rfl) ?_
  intro pg en sx mx blw mth cdx hx hb hr hts hown hlk hml hK
  refine g_L (L' := [_, _]) rfl ?_
  have hv15 := hrb.1.v
  refine g_iload_n hx hb d_MD_members_0 rfl rfl ?_
  refine g_iconst hx hb d_MD_members_1 k_iconst_1 ?_
  refine g_aload_n hx hb d_MD_members_2 rfl rfl ?_
  refine g_get hx hb hts (in_mw in_MD) hown hK.1 w_M rfl 10 (by decide) (hts _ (List.mem_cons_of_mem _ t_325)) rfl d_MD_members_3 ?_
  refine g_callSi (nn := 3) ⟨hx, hb, hml.trans rfl, hown, hts⟩ (ct_MD_within l D ad ct had _ _ _ _ (by omega) (by omega) (by omega)) (mk_S hts t_390 t_391 t_4 t_392 rfl rfl (by decide +kernel) ⟨Nat.le_of_ble_eq_true rfl, Nat.le_of_ble_eq_true rfl⟩) (fun _ h => h) (gK_ok D ct) hK (Nat.le_of_ble_eq_true rfl) ⟨Nat.zero_le _, Nat.zero_le _⟩ rfl rfl d_MD_members_6 ?_
  rintro _ _ ⟨rfl, rfl⟩
  refine n_if_eq (tgt := 21) hx hb d_MD_members_9 (by decide) bN_lt (fun hn => ?_) (fun hn => ?_)
  · have hn := bN_0.mp hn
    refine g_iconst hx hb d_MD_members_21 k_iconst_0 ?_
    exact g_iret hx hb hr hlk d_MD_members_22 (Or.inl ⟨hn, rfl, rfl⟩)
  · have hn := bN_n0.mp hn
    refine g_aload_n hx hb d_MD_members_12 rfl rfl ?_
    refine g_get hx hb hts (in_mw in_MD) hown hK.1 w_M rfl 11 (by decide) (hts _ (List.mem_cons_of_mem _ t_326)) rfl d_MD_members_13 ?_
    refine g_iload_n hx hb d_MD_members_16 rfl rfl ?_
    refine g_iald hx hb hK.1 (w_Ma (c := 80) (by decide) (by decide)) 0 rfl (show _ < 16 by omega) (by decide) rfl d_MD_members_17 ?_
    refine g_goto (tgt := 22) hx hb d_MD_members_18 (by decide) ?_
    exact g_iret hx hb hr hlk d_MD_members_22 (Or.inr ⟨hn, rfl, rfl⟩)
set_option maxRecDepth 100000 in
set_option maxHeartbeats 4000000 in
theorem ct_MD_start (l : Launch) (D : va_G) (ad : Nat → Nat) (ct : Nat → ClassId) (had : adOk ad) (V : VV) (v n : Nat) (h2 : v < 2 ^ 32) (h1 : n < 2 ^ 32) (hrb : RB V) : CTi l y_MD_start (mw y_MD_start c_MD_start 3 (some .int)) { frames := 1, cells := 0, slots := 0, locals := 22 } (gK D ct) D vcl (gA ad) [.ref (ad 69), .int (nI v), .int (nI n)] (gw ad ct V) (fun r w => (¬ ((1 ≤ v ∧ v ≤ V 69 10) ∧ n < 4) ∧ r = 0 ∧ w = gw ad ct V) ∨ (((1 ≤ v ∧ v ≤ V 69 10) ∧ n < 4) ∧ r = nI (V 81 (4 * v + n)) ∧ w = gw ad ct V)) := by
  refine ct_i (by decide) rfl rfl (Nat.le_of_ble_eq_true rfl) ?_
  intro pg en sx mx blw mth cdx hx hb hr hts hown hlk hml hK
  refine g_L (L' := [_, _, _]) rfl ?_
  have hv15 := hrb.1.v
  refine g_iload_n hx hb d_MD_start_0 rfl rfl ?_
  refine g_iconst hx hb d_MD_start_1 k_iconst_1 ?_
  refine g_aload_n hx hb d_MD_start_2 rfl rfl ?_
  refine g_get hx hb hts (in_mw in_MD) hown hK.1 w_M rfl 10 (by decide) (hts _ (List.mem_cons_of_mem _ t_325)) rfl d_MD_start_3 ?_
  refine g_callSi (nn := 3) ⟨hx, hb, hml.trans rfl, hown, hts⟩ (ct_MD_within l D ad ct had _ _ _ _ (by omega) (by omega) (by omega)) (mk_S hts t_390 t_391 t_4 t_392 rfl rfl (by decide +kernel) ⟨Nat.le_of_ble_eq_true rfl, Nat.le_of_ble_eq_true rfl⟩) (fun _ h => h) (gK_ok D ct) hK (Nat.le_of_ble_eq_true rfl) ⟨Nat.zero_le _, Nat.zero_le _⟩ rfl rfl d_MD_start_6 ?_
  rintro _ _ ⟨rfl, rfl⟩
  refine n_if_eq (tgt := 34) hx hb d_MD_start_9 (by decide) bN_lt (fun hfo => ?_) (fun hfo => ?_)
  · have hfo := bN_0.mp hfo
    refine g_iconst hx hb d_MD_start_34 k_iconst_0 ?_
    exact g_iret hx hb hr hlk d_MD_start_35 (Or.inl ⟨by omega, rfl, rfl⟩)
  · have hfo := bN_n0.mp hfo
    refine g_iload_n hx hb d_MD_start_12 rfl rfl ?_
    refine g_iconst hx hb d_MD_start_13 k_iconst_0 ?_
    refine g_iconst hx hb d_MD_start_14 k_iconst_3 ?_
    refine g_callSi (nn := 3) ⟨hx, hb, hml.trans rfl, hown, hts⟩ (ct_MD_within l D ad ct had _ _ _ _ (by omega) (by omega) (by omega)) (mk_S hts t_390 t_391 t_4 t_392 rfl rfl (by decide +kernel) ⟨Nat.le_of_ble_eq_true rfl, Nat.le_of_ble_eq_true rfl⟩) (fun _ h => h) (gK_ok D ct) hK (Nat.le_of_ble_eq_true rfl) ⟨Nat.zero_le _, Nat.zero_le _⟩ rfl rfl d_MD_start_15 ?_
    rintro _ _ ⟨rfl, rfl⟩
    refine n_if_eq (tgt := 34) hx hb d_MD_start_18 (by decide) bN_lt (fun hn => ?_) (fun hn => ?_)
    · have hn := bN_0.mp hn
      refine g_iconst hx hb d_MD_start_34 k_iconst_0 ?_
      exact g_iret hx hb hr hlk d_MD_start_35 (Or.inl ⟨by omega, rfl, rfl⟩)
    · have hn := bN_n0.mp hn
      refine g_aload_n hx hb d_MD_start_21 rfl rfl ?_
      refine g_get hx hb hts (in_mw in_MD) hown hK.1 w_M rfl 12 (by decide) (hts _ (List.mem_cons_of_mem _ t_327)) rfl d_MD_start_22 ?_
      refine g_iconst hx hb d_MD_start_25 k_iconst_4 ?_
      refine g_iload_n hx hb d_MD_start_26 rfl rfl ?_
      refine n_imul hx hb d_MD_start_27 ?_
      refine g_iload_n hx hb d_MD_start_28 rfl rfl ?_
      refine n_iadd hx hb d_MD_start_29 ?_
      refine g_iald hx hb hK.1 (w_Ma (c := 81) (by decide) (by decide)) 0 rfl (show _ < 64 by omega) (by decide) rfl d_MD_start_30 ?_
      refine g_goto (tgt := 35) hx hb d_MD_start_31 (by decide) ?_
      exact g_iret hx hb hr hlk d_MD_start_35 (Or.inr ⟨⟨hfo, by omega⟩, rfl, rfl⟩)
set_option maxRecDepth 100000 in
set_option maxHeartbeats 4000000 in
theorem ct_MD_blocked (l : Launch) (D : va_G) (ad : Nat → Nat) (ct : Nat → ClassId) (had : adOk ad) (V : VV) (n : Nat) (h1 : n < 2 ^ 32) (hrb : RB V) : CTi l y_MD_blocked (mw y_MD_blocked c_MD_blocked 2 (some .boolean)) { frames := 1, cells := 0, slots := 0, locals := 22 } (gK D ct) D vcl (gA ad) [.ref (ad 69), .int (nI n)] (gw ad ct V) (fun r w => (¬ n < 4 ∧ r = 0 ∧ w = gw ad ct V) ∨ (n < 4 ∧ r = nI (V 74 n) ∧ w = gw ad ct V)) := by
  refine ct_i (by decide) rfl rfl (Nat.le_of_ble_eq_true rfl) ?_
  intro pg en sx mx blw mth cdx hx hb hr hts hown hlk hml hK
  refine g_L (L' := [_, _]) rfl ?_
  refine g_iload_n hx hb d_MD_blocked_0 rfl rfl ?_
  refine g_iconst hx hb d_MD_blocked_1 k_iconst_0 ?_
  refine g_iconst hx hb d_MD_blocked_2 k_iconst_3 ?_
  refine g_callSi (nn := 3) ⟨hx, hb, hml.trans rfl, hown, hts⟩ (ct_MD_within l D ad ct had _ _ _ _ (by omega) (by omega) (by omega)) (mk_S hts t_390 t_391 t_4 t_392 rfl rfl (by decide +kernel) ⟨Nat.le_of_ble_eq_true rfl, Nat.le_of_ble_eq_true rfl⟩) (fun _ h => h) (gK_ok D ct) hK (Nat.le_of_ble_eq_true rfl) ⟨Nat.zero_le _, Nat.zero_le _⟩ rfl rfl d_MD_blocked_3 ?_
  rintro _ _ ⟨rfl, rfl⟩
  refine n_if_eq (tgt := 22) hx hb d_MD_blocked_6 (by decide) bN_lt (fun hn => ?_) (fun hn => ?_)
  · have hn := bN_0.mp hn
    have hn : ¬ n < 4 := by omega
    refine g_iconst hx hb d_MD_blocked_22 k_iconst_0 ?_
    exact g_zret hx hb hr hlk (by decide +kernel) d_MD_blocked_23 (Or.inl ⟨hn, rfl, rfl⟩)
  · have hn := bN_n0.mp hn
    have hn : n < 4 := by omega
    have hpa := hrb.1.p n hn
    refine g_aload_n hx hb d_MD_blocked_9 rfl rfl ?_
    refine g_get hx hb hts (in_mw in_MD) hown hK.1 w_M rfl 4 (by decide) (hts _ (List.mem_cons_of_mem _ t_319)) rfl d_MD_blocked_10 ?_
    refine g_iload_n hx hb d_MD_blocked_13 rfl rfl ?_
    refine g_zald hx hb hK.1 (w_Ma (c := 74) (by decide) (by decide)) 1 rfl (show _ < 4 by omega) (by decide) rfl d_MD_blocked_14 ?_
    refine n_if_eq (tgt := 22) hx hb d_MD_blocked_15 (by decide) (by omega) (fun hbl => ?_) (fun hbl => ?_)
    · refine g_iconst hx hb d_MD_blocked_22 k_iconst_0 ?_
      exact g_zret hx hb hr hlk (by decide +kernel) d_MD_blocked_23 (Or.inr ⟨hn, congrArg nI (by omega), rfl⟩)
    · refine g_iconst hx hb d_MD_blocked_18 k_iconst_1 ?_
      refine g_goto (tgt := 23) hx hb d_MD_blocked_19 (by decide) ?_
      exact g_zret hx hb hr hlk (by decide +kernel) d_MD_blocked_23 (Or.inr ⟨hn, congrArg nI (by omega), rfl⟩)
set_option maxRecDepth 100000 in
set_option maxHeartbeats 4000000 in
theorem ct_MD_delivered (l : Launch) (D : va_G) (ad : Nat → Nat) (ct : Nat → ClassId) (had : adOk ad) (V : VV) (n q : Nat) (h1 : n < 2 ^ 32) (h2 : q < 2 ^ 32) : CTi l y_MD_delivered (mw y_MD_delivered c_MD_delivered 3 (some .int)) { frames := 1, cells := 0, slots := 0, locals := 22 } (gK D ct) D vcl (gA ad) [.ref (ad 69), .int (nI n), .int (nI q)] (gw ad ct V) (fun r w => (¬ (n < 4 ∧ q < 4) ∧ r = -1 ∧ w = gw ad ct V) ∨ ((n < 4 ∧ q < 4) ∧ r = nI (V 78 (4 * n + q)) ∧ w = gw ad ct V)) := by
  refine ct_i (by decide) rfl rfl (Nat.le_of_ble_eq_true rfl) ?_
  intro pg en sx mx blw mth cdx hx hb hr hts hown hlk hml hK
  refine g_L (L' := [_, _, _]) rfl ?_
  refine g_iload_n hx hb d_MD_delivered_0 rfl rfl ?_
  refine g_iconst hx hb d_MD_delivered_1 k_iconst_0 ?_
  refine g_iconst hx hb d_MD_delivered_2 k_iconst_3 ?_
  refine g_callSi (nn := 3) ⟨hx, hb, hml.trans rfl, hown, hts⟩ (ct_MD_within l D ad ct had _ _ _ _ (by omega) (by omega) (by omega)) (mk_S hts t_390 t_391 t_4 t_392 rfl rfl (by decide +kernel) ⟨Nat.le_of_ble_eq_true rfl, Nat.le_of_ble_eq_true rfl⟩) (fun _ h => h) (gK_ok D ct) hK (Nat.le_of_ble_eq_true rfl) ⟨Nat.zero_le _, Nat.zero_le _⟩ rfl rfl d_MD_delivered_3 ?_
  rintro _ _ ⟨rfl, rfl⟩
  refine n_if_eq (tgt := 31) hx hb d_MD_delivered_6 (by decide) bN_lt (fun hn => ?_) (fun hn => ?_)
  · have hn := bN_0.mp hn
    refine g_iconst hx hb d_MD_delivered_31 k_iconst_m1 ?_
    exact g_iret hx hb hr hlk d_MD_delivered_32 (Or.inl ⟨by omega, rfl, rfl⟩)
  · have hn := bN_n0.mp hn
    refine g_iload_n hx hb d_MD_delivered_9 rfl rfl ?_
    refine g_iconst hx hb d_MD_delivered_10 k_iconst_0 ?_
    refine g_iconst hx hb d_MD_delivered_11 k_iconst_3 ?_
    refine g_callSi (nn := 3) ⟨hx, hb, hml.trans rfl, hown, hts⟩ (ct_MD_within l D ad ct had _ _ _ _ (by omega) (by omega) (by omega)) (mk_S hts t_390 t_391 t_4 t_392 rfl rfl (by decide +kernel) ⟨Nat.le_of_ble_eq_true rfl, Nat.le_of_ble_eq_true rfl⟩) (fun _ h => h) (gK_ok D ct) hK (Nat.le_of_ble_eq_true rfl) ⟨Nat.zero_le _, Nat.zero_le _⟩ rfl rfl d_MD_delivered_12 ?_
    rintro _ _ ⟨rfl, rfl⟩
    refine n_if_eq (tgt := 31) hx hb d_MD_delivered_15 (by decide) bN_lt (fun hq => ?_) (fun hq => ?_)
    · have hq := bN_0.mp hq
      refine g_iconst hx hb d_MD_delivered_31 k_iconst_m1 ?_
      exact g_iret hx hb hr hlk d_MD_delivered_32 (Or.inl ⟨by omega, rfl, rfl⟩)
    · have hq := bN_n0.mp hq
      refine g_aload_n hx hb d_MD_delivered_18 rfl rfl ?_
      refine g_get hx hb hts (in_mw in_MD) hown hK.1 w_M rfl 8 (by decide) (hts _ (List.mem_cons_of_mem _ t_323)) rfl d_MD_delivered_19 ?_
      refine g_iconst hx hb d_MD_delivered_22 k_iconst_4 ?_
      refine g_iload_n hx hb d_MD_delivered_23 rfl rfl ?_
      refine n_imul hx hb d_MD_delivered_24 ?_
      refine g_iload_n hx hb d_MD_delivered_25 rfl rfl ?_
      refine n_iadd hx hb d_MD_delivered_26 ?_
      refine g_iald hx hb hK.1 (w_Ma (c := 78) (by decide) (by decide)) 0 rfl (show _ < 16 by omega) (by decide) rfl d_MD_delivered_27 ?_
      refine g_goto (tgt := 32) hx hb d_MD_delivered_28 (by decide) ?_
      exact g_iret hx hb hr hlk d_MD_delivered_32 (Or.inr ⟨by omega, rfl, rfl⟩)
set_option maxRecDepth 100000 in
set_option maxHeartbeats 4000000 in
theorem ct_MD_known (l : Launch) (D : va_G) (ad : Nat → Nat) (ct : Nat → ClassId) (had : adOk ad) (V : VV) (n q : Nat) (h1 : n < 2 ^ 32) (h2 : q < 2 ^ 32) (hrb : RB V) : CTi l y_MD_known (mw y_MD_known c_MD_known 5 (some .int)) { frames := 1, cells := 0, slots := 0, locals := 22 } (gK D ct) D vcl (gA ad) [.ref (ad 69), .int (nI n), .int (nI q)] (gw ad ct V) (fun r w => (¬ (n < 4 ∧ q < 4) ∧ r = -1 ∧ w = gw ad ct V) ∨ ((n < 4 ∧ q < 4) ∧ r = nI (rcn V (256 * n + 16 * V 70 n + 4 * q) 4) ∧ w = gw ad ct V)) := by
  refine ct_i (by decide) rfl rfl (Nat.le_of_ble_eq_true rfl) ?_
  intro pg en sx mx blw mth cdx hx hb hr hts hown hlk hml hK
  refine g_L (L' := [_, _, _, _, _]) rfl ?_
  refine g_iload_n hx hb d_MD_known_0 rfl rfl ?_
  refine g_iconst hx hb d_MD_known_1 k_iconst_0 ?_
  refine g_iconst hx hb d_MD_known_2 k_iconst_3 ?_
  refine g_callSi (nn := 3) ⟨hx, hb, hml.trans rfl, hown, hts⟩ (ct_MD_within l D ad ct had _ _ _ _ (by omega) (by omega) (by omega)) (mk_S hts t_390 t_391 t_4 t_392 rfl rfl (by decide +kernel) ⟨Nat.le_of_ble_eq_true rfl, Nat.le_of_ble_eq_true rfl⟩) (fun _ h => h) (gK_ok D ct) hK (Nat.le_of_ble_eq_true rfl) ⟨Nat.zero_le _, Nat.zero_le _⟩ rfl rfl d_MD_known_3 ?_
  rintro _ _ ⟨rfl, rfl⟩
  refine n_if_eq (tgt := 18) hx hb d_MD_known_6 (by decide) bN_lt (fun hn => ?_) (fun hn => ?_)
  · have hn := bN_0.mp hn
    refine g_iconst hx hb d_MD_known_18 k_iconst_m1 ?_
    exact g_iret hx hb hr hlk d_MD_known_19 (Or.inl ⟨by omega, rfl, rfl⟩)
  · have hn := bN_n0.mp hn
    have hn : n < 4 := by omega
    have hpa := hrb.1.p n hn
    have hv15 := hrb.1.v
    refine g_iload_n hx hb d_MD_known_9 rfl rfl ?_
    refine g_iconst hx hb d_MD_known_10 k_iconst_0 ?_
    refine g_iconst hx hb d_MD_known_11 k_iconst_3 ?_
    refine g_callSi (nn := 3) ⟨hx, hb, hml.trans rfl, hown, hts⟩ (ct_MD_within l D ad ct had _ _ _ _ (by omega) (by omega) (by omega)) (mk_S hts t_390 t_391 t_4 t_392 rfl rfl (by decide +kernel) ⟨Nat.le_of_ble_eq_true rfl, Nat.le_of_ble_eq_true rfl⟩) (fun _ h => h) (gK_ok D ct) hK (Nat.le_of_ble_eq_true rfl) ⟨Nat.zero_le _, Nat.zero_le _⟩ rfl rfl d_MD_known_12 ?_
    rintro _ _ ⟨rfl, rfl⟩
    refine n_if_ne (tgt := 20) hx hb d_MD_known_15 (by decide) bN_lt (fun hq => ?_) (fun hq => ?_)
    · have hq := bN_n0.mp hq
      refine g_iconst hx hb d_MD_known_20 k_iconst_0 ?_
      refine g_istore_n (L' := [_, _, _, _, _]) hx hb d_MD_known_21 rfl (Nat.le_of_ble_eq_true rfl) rfl ?_
      refine g_iconst hx hb d_MD_known_22 k_iconst_0 ?_
      refine g_istore (L' := [_, _, _, _, _]) hx hb d_MD_known_23 (Nat.le_of_ble_eq_true rfl) rfl ?_
      refine g_loop 4 (fun k => gw ad ct V) (fun k => [some (.ref (ad 69)), some (.int (nI n)), some (.int (nI q)), some (.int (nI (rcn V (256 * n + 16 * V 70 n + 4 * q) k))), some (.int (nI k))]) (fun k => True) 0 (by omega) trivial rfl rfl ?_
      intro k hq0_k hqE_k hI_k ih_k
      try dsimp only
      refine g_iload hx hb d_MD_known_25 rfl ?_
      refine g_iconst hx hb d_MD_known_27 k_iconst_4 ?_
      refine n_icmp_ge (tgt := 70) hx hb d_MD_known_28 (by decide) (by omega) (by omega) (fun hc1 => ?_) (fun hc1 => ?_)
      · have hk4 : k = 4 := by omega
        subst hk4
        refine g_iload_n hx hb d_MD_known_70 rfl rfl ?_
        exact g_iret hx hb hr hlk d_MD_known_71 (Or.inr ⟨by omega, rfl, rfl⟩)
      · have hkk := hrb.1.kn ((256 * n + 16 * V 70 n + 4 * q) + k)
        refine g_aload_n hx hb d_MD_known_31 rfl rfl ?_
        refine g_get hx hb hts (in_mw in_MD) hown hK.1 w_M rfl 15 (by decide) (hts _ (List.mem_cons_of_mem _ t_330)) rfl d_MD_known_32 ?_
        refine g_sipush hx hb d_MD_known_35 k_sipush_256 ?_
        refine g_iload_n hx hb d_MD_known_38 rfl rfl ?_
        refine n_imul hx hb d_MD_known_39 ?_
        refine g_bipush hx hb d_MD_known_40 k_bipush_16 ?_
        refine g_aload_n hx hb d_MD_known_42 rfl rfl ?_
        refine g_get hx hb hts (in_mw in_MD) hown hK.1 w_M rfl 0 (by decide) (hts _ (List.mem_cons_of_mem _ t_315)) rfl d_MD_known_43 ?_
        refine g_iload_n hx hb d_MD_known_46 rfl rfl ?_
        refine g_iald hx hb hK.1 (w_Ma (c := 70) (by decide) (by decide)) 0 rfl (show _ < 4 by omega) (by decide) rfl d_MD_known_47 ?_
        refine n_imul hx hb d_MD_known_48 ?_
        refine n_iadd hx hb d_MD_known_49 ?_
        refine g_iconst hx hb d_MD_known_50 k_iconst_4 ?_
        refine g_iload_n hx hb d_MD_known_51 rfl rfl ?_
        refine n_imul hx hb d_MD_known_52 ?_
        refine n_iadd hx hb d_MD_known_53 ?_
        refine g_iload hx hb d_MD_known_54 rfl ?_
        refine n_iadd hx hb d_MD_known_56 ?_
        refine g_zald hx hb hK.1 (w_Ma (c := 84) (by decide) (by decide)) 1 rfl (show _ < 1024 by omega) (by decide) rfl d_MD_known_57 ?_
        refine n_if_eq (tgt := 64) hx hb d_MD_known_58 (by decide) (by omega) (fun hkn => ?_) (fun hkn => ?_)
        · refine n_iinc (L' := [_, _, _, _, _]) hx hb d_MD_known_64 rfl rfl ?_
          refine g_goto (tgt := 25) hx hb d_MD_known_67 (by decide) ?_
          exact (show rcn V (256 * n + 16 * V 70 n + 4 * q) (k + 1) = _ from by rw [rcn, if_pos hkn]) ▸ ih_k (by omega) trivial
        · refine n_iinc (L' := [_, _, _, _, _]) hx hb d_MD_known_61 rfl rfl ?_
          refine n_iinc (L' := [_, _, _, _, _]) hx hb d_MD_known_64 rfl rfl ?_
          refine g_goto (tgt := 25) hx hb d_MD_known_67 (by decide) ?_
          exact (show rcn V (256 * n + 16 * V 70 n + 4 * q) (k + 1) = _ from by rw [rcn, if_neg hkn]) ▸ ih_k (by omega) trivial
    · have hq := bN_0.mp hq
      refine g_iconst hx hb d_MD_known_18 k_iconst_m1 ?_
      exact g_iret hx hb hr hlk d_MD_known_19 (Or.inl ⟨by omega, rfl, rfl⟩)
set_option maxRecDepth 100000 in
set_option maxHeartbeats 4000000 in
theorem ct_MD_waiting (l : Launch) (D : va_G) (ad : Nat → Nat) (ct : Nat → ClassId) (had : adOk ad) (V : VV) (p q : Nat) (h1 : p < 2 ^ 32) (h2 : q < 2 ^ 32) : CTi l y_MD_waiting (mw y_MD_waiting c_MD_waiting 3 (some .int)) { frames := 1, cells := 0, slots := 0, locals := 22 } (gK D ct) D vcl (gA ad) [.ref (ad 69), .int (nI p), .int (nI q)] (gw ad ct V) (fun r w => (¬ (p < 4 ∧ q < 4 ∧ ¬ p = q) ∧ r = -1 ∧ w = gw ad ct V) ∨ ((p < 4 ∧ q < 4 ∧ ¬ p = q) ∧ r = nI (V 89 (4 * p + q)) ∧ w = gw ad ct V)) := by
  refine ct_i (by decide) rfl rfl (Nat.le_of_ble_eq_true rfl) ?_
  intro pg en sx mx blw mth cdx hx hb hr hts hown hlk hml hK
  refine g_L (L' := [_, _, _]) rfl ?_
  refine g_iload_n hx hb d_MD_waiting_0 rfl rfl ?_
  refine g_iconst hx hb d_MD_waiting_1 k_iconst_0 ?_
  refine g_iconst hx hb d_MD_waiting_2 k_iconst_3 ?_
  refine g_callSi (nn := 3) ⟨hx, hb, hml.trans rfl, hown, hts⟩ (ct_MD_within l D ad ct had _ _ _ _ (by omega) (by omega) (by omega)) (mk_S hts t_390 t_391 t_4 t_392 rfl rfl (by decide +kernel) ⟨Nat.le_of_ble_eq_true rfl, Nat.le_of_ble_eq_true rfl⟩) (fun _ h => h) (gK_ok D ct) hK (Nat.le_of_ble_eq_true rfl) ⟨Nat.zero_le _, Nat.zero_le _⟩ rfl rfl d_MD_waiting_3 ?_
  rintro _ _ ⟨rfl, rfl⟩
  refine n_if_eq (tgt := 36) hx hb d_MD_waiting_6 (by decide) bN_lt (fun hn => ?_) (fun hn => ?_)
  · have hn := bN_0.mp hn
    refine g_iconst hx hb d_MD_waiting_36 k_iconst_m1 ?_
    exact g_iret hx hb hr hlk d_MD_waiting_37 (Or.inl ⟨by omega, rfl, rfl⟩)
  · have hn := bN_n0.mp hn
    refine g_iload_n hx hb d_MD_waiting_9 rfl rfl ?_
    refine g_iconst hx hb d_MD_waiting_10 k_iconst_0 ?_
    refine g_iconst hx hb d_MD_waiting_11 k_iconst_3 ?_
    refine g_callSi (nn := 3) ⟨hx, hb, hml.trans rfl, hown, hts⟩ (ct_MD_within l D ad ct had _ _ _ _ (by omega) (by omega) (by omega)) (mk_S hts t_390 t_391 t_4 t_392 rfl rfl (by decide +kernel) ⟨Nat.le_of_ble_eq_true rfl, Nat.le_of_ble_eq_true rfl⟩) (fun _ h => h) (gK_ok D ct) hK (Nat.le_of_ble_eq_true rfl) ⟨Nat.zero_le _, Nat.zero_le _⟩ rfl rfl d_MD_waiting_12 ?_
    rintro _ _ ⟨rfl, rfl⟩
    refine n_if_eq (tgt := 36) hx hb d_MD_waiting_15 (by decide) bN_lt (fun hq => ?_) (fun hq => ?_)
    · have hq := bN_0.mp hq
      refine g_iconst hx hb d_MD_waiting_36 k_iconst_m1 ?_
      exact g_iret hx hb hr hlk d_MD_waiting_37 (Or.inl ⟨by omega, rfl, rfl⟩)
    · have hq := bN_n0.mp hq
      refine g_iload_n hx hb d_MD_waiting_18 rfl rfl ?_
      refine g_iload_n hx hb d_MD_waiting_19 rfl rfl ?_
      refine n_icmp_eq (tgt := 36) hx hb d_MD_waiting_20 (by decide) (by omega) (by omega) (fun hpq => ?_) (fun hpq => ?_)
      · refine g_iconst hx hb d_MD_waiting_36 k_iconst_m1 ?_
        exact g_iret hx hb hr hlk d_MD_waiting_37 (Or.inl ⟨by omega, rfl, rfl⟩)
      · refine g_aload_n hx hb d_MD_waiting_23 rfl rfl ?_
        refine g_get hx hb hts (in_mw in_MD) hown hK.1 w_M rfl 20 (by decide) (hts _ (List.mem_cons_of_mem _ t_335)) rfl d_MD_waiting_24 ?_
        refine g_iconst hx hb d_MD_waiting_27 k_iconst_4 ?_
        refine g_iload_n hx hb d_MD_waiting_28 rfl rfl ?_
        refine n_imul hx hb d_MD_waiting_29 ?_
        refine g_iload_n hx hb d_MD_waiting_30 rfl rfl ?_
        refine n_iadd hx hb d_MD_waiting_31 ?_
        refine g_iald hx hb hK.1 (w_Ma (c := 89) (by decide) (by decide)) 0 rfl (show _ < 16 by omega) (by decide) rfl d_MD_waiting_32 ?_
        refine g_goto (tgt := 37) hx hb d_MD_waiting_33 (by decide) ?_
        exact g_iret hx hb hr hlk d_MD_waiting_37 (Or.inr ⟨by omega, rfl, rfl⟩)
