theorem q_max {a b : Nat} (ha : a < 2 ^ 31) (hb : b < 2 ^ 31) : (if nI a < nI b then nI b else nI a) = nI (if a < b then b else a) := by
  by_cases h : a < b
  · rw [if_pos h, if_pos (nI_lt h hb)]
  · rw [if_neg h, if_neg (nI_nlt (by omega) ha)]
theorem mx_le {a b : Nat} (h1 : pkd a) (h2 : pkd b) {q : Nat} : ∀ r, r < 4 → (if r < q then (if cnt a r < cnt b r then cnt b r else cnt a r) else 0) ≤ 4 := fun r hr => by
  have x1 := h1.2 r hr
  have x2 := h2.2 r hr
  split
  · split <;> omega
  · omega
theorem mx_pkd {a b : Nat} (h1 : pkd a) (h2 : pkd b) {q : Nat} : pkd (pk4 (fun r => if r < q then (if cnt a r < cnt b r then cnt b r else cnt a r) else 0)) := pkd_pk (mx_le h1 h2)
theorem mx_step {a b : Nat} (h1 : pkd a) (h2 : pkd b) {q : Nat} (hq : q < 4) : wc (pk4 (fun j => if j < q then (if cnt a j < cnt b j then cnt b j else cnt a j) else 0)) q (if cnt a q < cnt b q then cnt b q else cnt a q) = pk4 (fun j => if j < q + 1 then (if cnt a j < cnt b j then cnt b j else cnt a j) else 0) := by
  unfold wc
  refine pk_congr (fun r hr => ?_)
  rw [cnt_pk (d := fun j => if j < q then (if cnt a j < cnt b j then cnt b j else cnt a j) else 0) (fun j hj => Nat.le_trans (mx_le h1 h2 j hj) (by decide)) r hr]
  by_cases e : r = q
  · subst e
    rw [if_pos rfl, if_pos (show r < r + 1 by omega)]
  · rw [if_neg e]
    by_cases z : r < q
    · rw [if_pos z, if_pos (show r < q + 1 by omega)]
    · rw [if_neg z, if_neg (show ¬ r < q + 1 by omega)]
theorem mx_end {a b q : Nat} (hq : 4 ≤ q) : pk4 (fun j => if j < q then (if cnt a j < cnt b j then cnt b j else cnt a j) else 0) = mx4 a b := by
  unfold mx4
  refine pk_congr (fun r hr => ?_)
  rw [if_pos (by omega)]
set_option maxRecDepth 100000 in
set_option maxHeartbeats 4000000 in
theorem ct_IN_bitCount (l : Launch) (D : va_G) (ad : Nat → Nat) (ct : Nat → ClassId) (had : adOk ad) (V : VV) (x : Nat) (h : x < 32) : CTi l y_IN_bitCount (mw y_IN_bitCount c_IN_bitCount 1 (some .int)) { frames := 0, cells := 0, slots := 0, locals := 0 } (gK D ct) D vcl (gA ad) [.int (nI x)] (gw ad ct V) (fun r w => r = nI (popc x) ∧ w = gw ad ct V) := by
  refine ct_i (by decide) rfl rfl (Nat.le_of_ble_eq_true rfl) ?_
  intro pg en sx mx blw mth cdx hx hb hr hts hown hlk hml hK
  refine g_L (L' := [_]) rfl ?_
  refine g_iload_n hx hb d_IN_bitCount_0 rfl rfl ?_
  refine g_iload_n hx hb d_IN_bitCount_1 rfl rfl ?_
  refine g_iconst hx hb d_IN_bitCount_2 k_iconst_1 ?_
  refine g_iushr hx hb d_IN_bitCount_3 rfl ?_
  refine g_ldcw hx hb d_IN_bitCount_4 hown (hts _ (List.mem_cons_of_mem _ t_298)) ?_
  refine g_iand hx hb d_IN_bitCount_7 ?_
  refine g_isub hx hb d_IN_bitCount_8 ?_
  refine g_val (show _ = bc_1 (nI x) from rfl) ?_
  refine g_istore_n (L' := [_]) hx hb d_IN_bitCount_9 rfl (Nat.le_of_ble_eq_true rfl) rfl ?_
  refine g_iload_n hx hb d_IN_bitCount_10 rfl rfl ?_
  refine g_ldcw hx hb d_IN_bitCount_11 hown (hts _ (List.mem_cons_of_mem _ t_299)) ?_
  refine g_iand hx hb d_IN_bitCount_14 ?_
  refine g_iload_n hx hb d_IN_bitCount_15 rfl rfl ?_
  refine g_iconst hx hb d_IN_bitCount_16 k_iconst_2 ?_
  refine g_iushr hx hb d_IN_bitCount_17 rfl ?_
  refine g_ldcw hx hb d_IN_bitCount_18 hown (hts _ (List.mem_cons_of_mem _ t_299)) ?_
  refine g_iand hx hb d_IN_bitCount_21 ?_
  refine g_iadd hx hb d_IN_bitCount_22 ?_
  refine g_val (show _ = bc_2 (bc_1 (nI x)) from rfl) ?_
  refine g_istore_n (L' := [_]) hx hb d_IN_bitCount_23 rfl (Nat.le_of_ble_eq_true rfl) rfl ?_
  refine g_iload_n hx hb d_IN_bitCount_24 rfl rfl ?_
  refine g_iload_n hx hb d_IN_bitCount_25 rfl rfl ?_
  refine g_iconst hx hb d_IN_bitCount_26 k_iconst_4 ?_
  refine g_iushr hx hb d_IN_bitCount_27 rfl ?_
  refine g_iadd hx hb d_IN_bitCount_28 ?_
  refine g_ldcw hx hb d_IN_bitCount_29 hown (hts _ (List.mem_cons_of_mem _ t_300)) ?_
  refine g_iand hx hb d_IN_bitCount_32 ?_
  refine g_val (show _ = bc_3 (bc_2 (bc_1 (nI x))) from rfl) ?_
  refine g_istore_n (L' := [_]) hx hb d_IN_bitCount_33 rfl (Nat.le_of_ble_eq_true rfl) rfl ?_
  refine g_iload_n hx hb d_IN_bitCount_34 rfl rfl ?_
  refine g_iload_n hx hb d_IN_bitCount_35 rfl rfl ?_
  refine g_bipush hx hb d_IN_bitCount_36 k_bipush_8 ?_
  refine g_iushr hx hb d_IN_bitCount_38 rfl ?_
  refine g_iadd hx hb d_IN_bitCount_39 ?_
  refine g_val (show _ = bc_4 (bc_3 (bc_2 (bc_1 (nI x)))) from rfl) ?_
  refine g_istore_n (L' := [_]) hx hb d_IN_bitCount_40 rfl (Nat.le_of_ble_eq_true rfl) rfl ?_
  refine g_iload_n hx hb d_IN_bitCount_41 rfl rfl ?_
  refine g_iload_n hx hb d_IN_bitCount_42 rfl rfl ?_
  refine g_bipush hx hb d_IN_bitCount_43 k_bipush_16 ?_
  refine g_iushr hx hb d_IN_bitCount_45 rfl ?_
  refine g_iadd hx hb d_IN_bitCount_46 ?_
  refine g_val (show _ = bc_5 (bc_4 (bc_3 (bc_2 (bc_1 (nI x))))) from rfl) ?_
  refine g_istore_n (L' := [_]) hx hb d_IN_bitCount_47 rfl (Nat.le_of_ble_eq_true rfl) rfl ?_
  refine g_iload_n hx hb d_IN_bitCount_48 rfl rfl ?_
  refine g_bipush hx hb d_IN_bitCount_49 k_bipush_63 ?_
  refine g_iand hx hb d_IN_bitCount_51 ?_
  exact g_iret hx hb hr hlk d_IN_bitCount_52 (⟨bc_fin x h, rfl⟩)
set_option maxRecDepth 100000 in
set_option maxHeartbeats 4000000 in
theorem ct_PS_messagesKnownOf (l : Launch) (D : va_G) (ad : Nat → Nat) (ct : Nat → ClassId) (had : adOk ad) (V : VV) (a r : Nat) (ha : a < 4) (hv : V (5 + 8 * a) 0 * 4 + r < 64) (hx : V (5 + 8 * a + 1) (V (5 + 8 * a) 0 * 4 + r) < 32) : CTi l y_PS_messagesKnownOf (mw y_PS_messagesKnownOf c_PS_messagesKnownOf 2 (some .int)) { frames := 1, cells := 0, slots := 0, locals := 20 } (gK D ct) D vcl (gA ad) [.ref (ad (5 + 8 * a)), .int (nI r)] (gw ad ct V) (fun r0 w => r0 = nI (popc (V (5 + 8 * a + 1) (V (5 + 8 * a) 0 * 4 + r))) ∧ w = gw ad ct V) := by
  refine ct_i (by decide) rfl rfl (Nat.le_of_ble_eq_true rfl) ?_
  intro pg en sx mx blw mth cdx hx hb hr hts hown hlk hml hK
  refine g_L (L' := [_, _]) rfl ?_
  refine g_aload_n hx hb d_PS_messagesKnownOf_0 rfl rfl ?_
  refine g_get hx hb hts (in_mw in_PS) hown hK.1 (w_P ha) rfl 9 (by decide) (hts _ (List.mem_cons_of_mem _ t_38)) rfl d_PS_messagesKnownOf_1 ?_
  refine g_aload_n hx hb d_PS_messagesKnownOf_4 rfl rfl ?_
  refine g_get hx hb hts (in_mw in_PS) hown hK.1 (w_P ha) rfl 0 (by decide) (hts _ (List.mem_cons_of_mem _ t_25)) rfl d_PS_messagesKnownOf_5 ?_
  refine g_iconst hx hb d_PS_messagesKnownOf_8 k_iconst_4 ?_
  refine n_imul hx hb d_PS_messagesKnownOf_9 ?_
  refine g_iload_n hx hb d_PS_messagesKnownOf_10 rfl rfl ?_
  refine n_iadd hx hb d_PS_messagesKnownOf_11 ?_
  refine g_iald hx hb hK.1 (w_Pa (k := 1) ha (by decide) (by decide)) 0 rfl (show _ < 64 by omega) (by decide) rfl d_PS_messagesKnownOf_12 ?_
  refine g_callSi (nn := 1) ⟨hx, hb, hml.trans rfl, hown, hts⟩ (ct_IN_bitCount l D ad ct had _ _ (by omega)) (mk_S hts t_295 t_296 t_6 t_297 rfl rfl (by decide +kernel) ⟨Nat.le_of_ble_eq_true rfl, Nat.le_of_ble_eq_true rfl⟩) (fun _ h => h) (gK_ok D ct) hK (Nat.le_of_ble_eq_true rfl) ⟨Nat.zero_le _, Nat.zero_le _⟩ rfl rfl d_PS_messagesKnownOf_13 ?_
  rintro _ _ ⟨rfl, rfl⟩
  exact g_iret hx hb hr hlk d_PS_messagesKnownOf_16 (⟨rfl, rfl⟩)
set_option maxRecDepth 100000 in
set_option maxHeartbeats 4000000 in
theorem ct_GV_greatestOfEach (l : Launch) (D : va_G) (ad : Nat → Nat) (ct : Nat → ClassId) (had : adOk ad) (V : VV) (a b : Nat) (h1 : pkd a) (h2 : pkd b) : CTi l y_GV_greatestOfEach (mw y_GV_greatestOfEach c_GV_greatestOfEach 4 (some .int)) { frames := 1, cells := 0, slots := 0, locals := 32 } (gK D ct) D vcl (gA ad) [.int (nI a), .int (nI b)] (gw ad ct V) (fun r w => r = nI (mx4 a b) ∧ w = gw ad ct V) := by
  refine ct_i (by decide) rfl rfl (Nat.le_of_ble_eq_true rfl) ?_
  intro pg en sx mx blw mth cdx hx hb hr hts hown hlk hml hK
  refine g_L (L' := [_, _, _, _]) rfl ?_
  have la := pkd_lt h1
  have lb := pkd_lt h2
  refine g_iconst hx hb d_GV_greatestOfEach_0 k_iconst_0 ?_
  refine g_istore_n (L' := [_, _, _, _]) hx hb d_GV_greatestOfEach_1 rfl (Nat.le_of_ble_eq_true rfl) rfl ?_
  refine g_iconst hx hb d_GV_greatestOfEach_2 k_iconst_0 ?_
  refine g_istore_n (L' := [_, _, _, _]) hx hb d_GV_greatestOfEach_3 rfl (Nat.le_of_ble_eq_true rfl) rfl ?_
  refine g_loop 4 (fun q => gw ad ct V) (fun q => [some (.int (nI a)), some (.int (nI b)), some (.int (nI (pk4 (fun j => if j < q then (if cnt a j < cnt b j then cnt b j else cnt a j) else 0)))), some (.int (nI q))]) (fun q => True) 0 (by omega) trivial rfl rfl ?_
  intro q hq0_q hqE_q hI_q ih_q
  try dsimp only
  refine g_iload_n hx hb d_GV_greatestOfEach_4 rfl rfl ?_
  refine g_iconst hx hb d_GV_greatestOfEach_5 k_iconst_4 ?_
  refine n_icmp_ge (tgt := 34) hx hb d_GV_greatestOfEach_6 (by decide) (by omega) (by omega) (fun hc1 => ?_) (fun hc1 => ?_)
  · refine g_iload_n hx hb d_GV_greatestOfEach_34 rfl rfl ?_
    exact g_iret hx hb hr hlk d_GV_greatestOfEach_35 (⟨congrArg nI (mx_end (by omega)), rfl⟩)
  · refine g_iload_n hx hb d_GV_greatestOfEach_9 rfl rfl ?_
    refine g_iload_n hx hb d_GV_greatestOfEach_10 rfl rfl ?_
    refine g_iload_n hx hb d_GV_greatestOfEach_11 rfl rfl ?_
    refine g_iload_n hx hb d_GV_greatestOfEach_12 rfl rfl ?_
    refine g_callSi (nn := 2) ⟨hx, hb, hml.trans rfl, hown, hts⟩ (ct_GV_countOf l D ad ct had _ _ _ (by omega) (by omega)) (mk_S hts t_201 t_202 t_1 t_203 rfl rfl (by decide +kernel) ⟨Nat.le_of_ble_eq_true rfl, Nat.le_of_ble_eq_true rfl⟩) (fun _ h => h) (gK_ok D ct) hK (Nat.le_of_ble_eq_true rfl) ⟨Nat.zero_le _, Nat.zero_le _⟩ rfl rfl d_GV_greatestOfEach_13 ?_
    rintro _ _ ⟨rfl, rfl⟩
    refine g_iload_n hx hb d_GV_greatestOfEach_16 rfl rfl ?_
    refine g_iload_n hx hb d_GV_greatestOfEach_17 rfl rfl ?_
    refine g_callSi (nn := 2) ⟨hx, hb, hml.trans rfl, hown, hts⟩ (ct_GV_countOf l D ad ct had _ _ _ (by omega) (by omega)) (mk_S hts t_201 t_202 t_1 t_203 rfl rfl (by decide +kernel) ⟨Nat.le_of_ble_eq_true rfl, Nat.le_of_ble_eq_true rfl⟩) (fun _ h => h) (gK_ok D ct) hK (Nat.le_of_ble_eq_true rfl) ⟨Nat.zero_le _, Nat.zero_le _⟩ rfl rfl d_GV_greatestOfEach_18 ?_
    rintro _ _ ⟨rfl, rfl⟩
    have ca := h1.2 q (by omega)
    have cb := h2.2 q (by omega)
    refine g_mmax hx hb (hml.trans rfl) hown (hts _ (List.mem_cons_of_mem _ t_244)) (hts _ (List.mem_cons_of_mem _ t_245)) (hts _ (List.mem_cons_of_mem _ t_5)) (hts _ (List.mem_cons_of_mem _ t_246)) (Nat.le_of_ble_eq_true rfl) (Nat.le_of_ble_eq_true rfl) ⟨Nat.zero_le _, Nat.zero_le _⟩ d_GV_greatestOfEach_21 ?_
    refine g_val (show _ = nI (if cnt a q < cnt b q then cnt b q else cnt a q) from q_max (by omega) (by omega)) ?_
    refine g_callSi (nn := 3) ⟨hx, hb, hml.trans rfl, hown, hts⟩ (ct_GV_withCount l D ad ct had _ _ _ _ (mx_pkd h1 h2) (by omega) (by split <;> omega)) (mk_S hts t_125 t_126 t_1 t_127 rfl rfl (by decide +kernel) ⟨Nat.le_of_ble_eq_true rfl, Nat.le_of_ble_eq_true rfl⟩) (fun _ h => h) (gK_ok D ct) hK (Nat.le_of_ble_eq_true rfl) ⟨Nat.zero_le _, Nat.zero_le _⟩ rfl rfl d_GV_greatestOfEach_24 ?_
    rintro _ _ ⟨rfl, rfl⟩
    refine g_val (show nI _ = nI (pk4 (fun j => if j < q + 1 then (if cnt a j < cnt b j then cnt b j else cnt a j) else 0)) from congrArg nI (mx_step h1 h2 (by omega))) ?_
    refine g_istore_n (L' := [_, _, _, _]) hx hb d_GV_greatestOfEach_27 rfl (Nat.le_of_ble_eq_true rfl) rfl ?_
    refine n_iinc (L' := [_, _, _, _]) hx hb d_GV_greatestOfEach_28 rfl rfl ?_
    refine g_goto (tgt := 4) hx hb d_GV_greatestOfEach_31 (by decide) ?_
    exact ih_q (by omega) trivial
set_option maxRecDepth 100000 in
set_option maxHeartbeats 4000000 in
theorem ct_GV_presentSet (l : Launch) (D : va_G) (ad : Nat → Nat) (ct : Nat → ClassId) (had : adOk ad) (V : VV) (p : Nat) (hp : p < 4) (hv : V (5 + 8 * p) 0 ≤ 15) : CTi l y_GV_presentSet (mw y_GV_presentSet c_GV_presentSet 3 (some .int)) { frames := 0, cells := 0, slots := 0, locals := 0 } (gK D ct) D vcl (gA ad) [.ref (ad 0), .int (nI p)] (gw ad ct V) (fun r w => r = nI (cps V p) ∧ w = gw ad ct V) := by
  refine ct_i (by decide) rfl rfl (Nat.le_of_ble_eq_true rfl) ?_
  intro pg en sx mx blw mth cdx hx hb hr hts hown hlk hml hK
  refine g_L (L' := [_, _, _]) rfl ?_
  refine g_aload_n hx hb d_GV_presentSet_0 rfl rfl ?_
  refine g_get hx hb hts (in_mw in_GV) hown hK.1 w_0 rfl 0 (by decide) (hts _ (List.mem_cons_of_mem _ t_99)) rfl d_GV_presentSet_1 ?_
  refine g_iload_n hx hb d_GV_presentSet_4 rfl rfl ?_
  refine g_aald hx hb hK.1 w_1 2 rfl hp (by decide) (fP hp) d_GV_presentSet_5 ?_
  refine g_getN hx hb hts (in_mw in_PS) hown hK.1 (w_P hp) rfl 0 (by decide) (nst_use hK nw_24 _) rfl d_GV_presentSet_6 ?_
  refine g_istore_n (L' := [_, _, _]) hx hb d_GV_presentSet_9 rfl (Nat.le_of_ble_eq_true rfl) rfl ?_
  refine g_iload_n hx hb d_GV_presentSet_10 rfl rfl ?_
  refine n_if_ne (tgt := 20) hx hb d_GV_presentSet_11 (by decide) (by omega) (fun hc1 => ?_) (fun hc1 => ?_)
  · refine g_aload_n hx hb d_GV_presentSet_20 rfl rfl ?_
    refine g_get hx hb hts (in_mw in_GV) hown hK.1 w_0 rfl 2 (by decide) (hts _ (List.mem_cons_of_mem _ t_101)) rfl d_GV_presentSet_21 ?_
    refine g_iload_n hx hb d_GV_presentSet_24 rfl rfl ?_
    refine g_iald hx hb hK.1 w_3 0 rfl (show _ < 16 by omega) (by decide) rfl d_GV_presentSet_25 ?_
    exact g_iret hx hb hr hlk d_GV_presentSet_26 (⟨by unfold cps; rw [if_neg hc1], rfl⟩)
  · refine g_iconst hx hb d_GV_presentSet_14 k_iconst_1 ?_
    refine g_iload_n hx hb d_GV_presentSet_15 rfl rfl ?_
    refine n_ishl hx hb d_GV_presentSet_16 (by omega) (q_p32 (by omega)) ?_
    refine g_goto (tgt := 26) hx hb d_GV_presentSet_17 (by decide) ?_
    exact g_iret hx hb hr hlk d_GV_presentSet_26 (⟨by unfold cps; rw [if_pos hc1, Nat.one_mul], rfl⟩)
set_option maxRecDepth 100000 in
set_option maxHeartbeats 4000000 in
theorem ct_GV_isFormed (l : Launch) (D : va_G) (ad : Nat → Nat) (ct : Nat → ClassId) (had : adOk ad) (V : VV) (v : Nat) (h : v < 2 ^ 32) (hf : V 0 4 ≤ 15) : CTi l y_GV_isFormed (mw y_GV_isFormed c_GV_isFormed 2 (some .boolean)) { frames := 0, cells := 0, slots := 0, locals := 0 } (gK D ct) D vcl (gA ad) [.ref (ad 0), .int (nI v)] (gw ad ct V) (fun r w => r = nI (bN (1 ≤ v ∧ v ≤ V 0 4)) ∧ w = gw ad ct V) := by
  refine ct_i (by decide) rfl rfl (Nat.le_of_ble_eq_true rfl) ?_
  intro pg en sx mx blw mth cdx hx hb hr hts hown hlk hml hK
  refine g_L (L' := [_, _]) rfl ?_
  refine g_iload_n hx hb d_GV_isFormed_0 rfl rfl ?_
  refine g_iconst hx hb d_GV_isFormed_1 k_iconst_1 ?_
  refine g_icmp_lt (tgt := 17) hx hb d_GV_isFormed_2 (by decide) (fun hc1 => ?_) (fun hc1 => ?_)
  · have hc1 : ¬ (1 ≤ v ∧ v ≤ V 0 4) := fun z => (nI_nlt z.1 (by omega)) hc1
    refine g_iconst hx hb d_GV_isFormed_17 k_iconst_0 ?_
    exact g_zret hx hb hr hlk (by decide +kernel) d_GV_isFormed_18 (⟨by first | rw [bN_t (by omega)] | rw [bN_f (by omega)], rfl⟩)
  · have hc1 : 1 ≤ v ∧ v < 2 ^ 31 := q_ge1 h hc1
    refine g_iload_n hx hb d_GV_isFormed_5 rfl rfl ?_
    refine g_aload_n hx hb d_GV_isFormed_6 rfl rfl ?_
    refine g_get hx hb hts (in_mw in_GV) hown hK.1 w_0 rfl 4 (by decide) (hts _ (List.mem_cons_of_mem _ t_103)) rfl d_GV_isFormed_7 ?_
    refine n_icmp_gt (tgt := 17) hx hb d_GV_isFormed_10 (by decide) (by omega) (by omega) (fun hc2 => ?_) (fun hc2 => ?_)
    · refine g_iconst hx hb d_GV_isFormed_17 k_iconst_0 ?_
      exact g_zret hx hb hr hlk (by decide +kernel) d_GV_isFormed_18 (⟨by first | rw [bN_t (by omega)] | rw [bN_f (by omega)], rfl⟩)
    · refine g_iconst hx hb d_GV_isFormed_13 k_iconst_1 ?_
      refine g_goto (tgt := 18) hx hb d_GV_isFormed_14 (by decide) ?_
      exact g_zret hx hb hr hlk (by decide +kernel) d_GV_isFormed_18 (⟨by first | rw [bN_t (by omega)] | rw [bN_f (by omega)], rfl⟩)
set_option maxRecDepth 100000 in
set_option maxHeartbeats 4000000 in
theorem ct_GV_canForm (l : Launch) (D : va_G) (ad : Nat → Nat) (ct : Nat → ClassId) (had : adOk ad) (V : VV) (set : Nat) (hs : set < 16) (hcb : ∀ p, p < 4 → V (5 + 8 * p) 3 ≤ 1 ∧ V (5 + 8 * p) 2 < 16) : CTi l y_GV_canForm (mw y_GV_canForm c_GV_canForm 3 (some .boolean)) { frames := 1, cells := 0, slots := 0, locals := 21 } (gK D ct) D vcl (gA ad) [.ref (ad 0), .int (nI set)] (gw ad ct V) (fun r w => r = nI (bC (cfm V set)) ∧ w = gw ad ct V) := by
  refine ct_i (by decide) rfl rfl (Nat.le_of_ble_eq_true rfl) ?_
  intro pg en sx mx blw mth cdx hx hb hr hts hown hlk hml hK
  refine g_L (L' := [_, _, _]) rfl ?_
  refine g_iconst hx hb d_GV_canForm_0 k_iconst_0 ?_
  refine g_istore_n (L' := [_, _, _]) hx hb d_GV_canForm_1 rfl (Nat.le_of_ble_eq_true rfl) rfl ?_
  refine g_loop 4 (fun q => gw ad ct V) (fun q => [some (.ref (ad 0)), some (.int (nI set)), some (.int (nI q))]) (fun q => ∀ j, j < q → set / 2 ^ j % 2 = 1 → ¬ V (5 + 8 * j) 3 = 0 ∧ set &&& V (5 + 8 * j) 2 = set) 0 (by omega) (fun j hj => absurd hj (Nat.not_lt_zero j)) rfl rfl ?_
  intro q hq0_q hqE_q hI_q ih_q
  try dsimp only
  refine g_iload_n hx hb d_GV_canForm_2 rfl rfl ?_
  refine g_iconst hx hb d_GV_canForm_3 k_iconst_4 ?_
  refine n_icmp_ge (tgt := 51) hx hb d_GV_canForm_4 (by decide) (by omega) (by omega) (fun hc1 => ?_) (fun hc1 => ?_)
  · refine g_iconst hx hb d_GV_canForm_51 k_iconst_1 ?_
    exact g_zret hx hb hr hlk (by decide +kernel) d_GV_canForm_52 (⟨by rw [bC_t (show cfm V set from fun j hj hb => hI_q j (by omega) hb)], rfl⟩)
  · have hq : q < 4 := by omega
    have hb3 := hcb q hq
    refine g_iload_n hx hb d_GV_canForm_7 rfl rfl ?_
    refine g_iload_n hx hb d_GV_canForm_8 rfl rfl ?_
    refine g_callSi (nn := 2) ⟨hx, hb, hml.trans rfl, hown, hts⟩ (ct_GV_has l D ad ct had _ _ _ (by omega) (by omega)) (mk_S hts t_140 t_141 t_1 t_142 rfl rfl (by decide +kernel) ⟨Nat.le_of_ble_eq_true rfl, Nat.le_of_ble_eq_true rfl⟩) (fun _ h => h) (gK_ok D ct) hK (Nat.le_of_ble_eq_true rfl) ⟨Nat.zero_le _, Nat.zero_le _⟩ rfl rfl d_GV_canForm_9 ?_
    rintro _ _ ⟨rfl, rfl⟩
    refine n_if_eq (tgt := 45) hx hb d_GV_canForm_12 (by decide) (by omega) (fun hbit => ?_) (fun hbit => ?_)
    · refine n_iinc (L' := [_, _, _]) hx hb d_GV_canForm_45 rfl rfl ?_
      refine g_goto (tgt := 2) hx hb d_GV_canForm_48 (by decide) ?_
      refine ih_q (by omega) (fun j hj hb => ?_)
      rcases Nat.lt_succ_iff_lt_or_eq.mp hj with z | z
      · exact hI_q j z hb
      · subst z
        first | (exfalso; omega) | exact ⟨hop, (an_16 set hs _ hb3.2).mp hsub⟩
    · refine g_aload_n hx hb d_GV_canForm_15 rfl rfl ?_
      refine g_get hx hb hts (in_mw in_GV) hown hK.1 w_0 rfl 0 (by decide) (hts _ (List.mem_cons_of_mem _ t_99)) rfl d_GV_canForm_16 ?_
      refine g_iload_n hx hb d_GV_canForm_19 rfl rfl ?_
      refine g_aald hx hb hK.1 w_1 2 rfl hq (by decide) (fP hq) d_GV_canForm_20 ?_
      refine g_getN hx hb hts (in_mw in_PS) hown hK.1 (w_P hq) rfl 3 (by decide) (nst_use hK nw_28 _) rfl d_GV_canForm_21 ?_
      refine n_if_eq (tgt := 43) hx hb d_GV_canForm_24 (by decide) (by omega) (fun hop => ?_) (fun hop => ?_)
      · refine g_iconst hx hb d_GV_canForm_43 k_iconst_0 ?_
        exact g_zret hx hb hr hlk (by decide +kernel) d_GV_canForm_44 (⟨by rw [bC_f (show ¬ cfm V set from fun z => (z q hq (by omega)).1 hop)], rfl⟩)
      · refine g_iload_n hx hb d_GV_canForm_27 rfl rfl ?_
        refine g_aload_n hx hb d_GV_canForm_28 rfl rfl ?_
        refine g_get hx hb hts (in_mw in_GV) hown hK.1 w_0 rfl 0 (by decide) (hts _ (List.mem_cons_of_mem _ t_99)) rfl d_GV_canForm_29 ?_
        refine g_iload_n hx hb d_GV_canForm_32 rfl rfl ?_
        refine g_aald hx hb hK.1 w_1 2 rfl hq (by decide) (fP hq) d_GV_canForm_33 ?_
        refine g_getN hx hb hts (in_mw in_PS) hown hK.1 (w_P hq) rfl 2 (by decide) (nst_use hK nw_27 _) rfl d_GV_canForm_34 ?_
        refine g_iconst hx hb d_GV_canForm_37 k_iconst_m1 ?_
        refine g_ixor hx hb d_GV_canForm_38 ?_
        refine g_iand hx hb d_GV_canForm_39 ?_
        refine g_if_eq (tgt := 45) hx hb d_GV_canForm_40 (by decide) (fun hsub => ?_) (fun hsub => ?_)
        · refine n_iinc (L' := [_, _, _]) hx hb d_GV_canForm_45 rfl rfl ?_
          refine g_goto (tgt := 2) hx hb d_GV_canForm_48 (by decide) ?_
          refine ih_q (by omega) (fun j hj hb => ?_)
          rcases Nat.lt_succ_iff_lt_or_eq.mp hj with z | z
          · exact hI_q j z hb
          · subst z
            first | (exfalso; omega) | exact ⟨hop, (an_16 set hs _ hb3.2).mp hsub⟩
        · refine g_iconst hx hb d_GV_canForm_43 k_iconst_0 ?_
          exact g_zret hx hb hr hlk (by decide +kernel) d_GV_canForm_44 (⟨by rw [bC_f (show ¬ cfm V set from fun z => hsub ((an_16 set hs _ hb3.2).mpr (z q hq (by omega)).2))], rfl⟩)
set_option maxRecDepth 100000 in
set_option maxHeartbeats 4000000 in
theorem ct_GV_putToOthers (l : Launch) (D : va_G) (ad : Nat → Nat) (ct : Nat → ClassId) (had : adOk ad) (V : VV) (p set x : Nat) (hp : p < 4) (hs : set < 2 ^ 31) (hE : ∀ i, i < 16 → V (37 + 2 * i) 2 ≤ 75) : CTv l y_GV_putToOthers (mw y_GV_putToOthers c_GV_putToOthers 5 none) { frames := 1, cells := 0, slots := 0, locals := 21 } (gK D ct) D vcl (gA ad) [.ref (ad 0), .int (nI p), .int (nI set), .int (nI x)] (gw ad ct V) (fun w => w = gw ad ct (cpo V p set x 4)) := by
  refine ct_v (by decide) rfl rfl (Nat.le_of_ble_eq_true rfl) ?_
  intro pg en sx mx blw mth cdx hx hb hr hts hown hlk hml hK
  refine g_L (L' := [_, _, _, _, _]) rfl ?_
  refine g_iconst hx hb d_GV_putToOthers_0 k_iconst_0 ?_
  refine g_istore (L' := [_, _, _, _, _]) hx hb d_GV_putToOthers_1 (Nat.le_of_ble_eq_true rfl) rfl ?_
  refine g_loop 4 (fun q => gw ad ct (cpo V p set x q)) (fun q => [some (.ref (ad 0)), some (.int (nI p)), some (.int (nI set)), some (.int (nI x)), some (.int (nI q))]) (fun q => True) 0 (by omega) trivial rfl rfl ?_
  intro q hq0_q hqE_q hI_q ih_q
  try dsimp only
  refine g_iload hx hb d_GV_putToOthers_3 rfl ?_
  refine g_iconst hx hb d_GV_putToOthers_5 k_iconst_4 ?_
  refine n_icmp_ge (tgt := 45) hx hb d_GV_putToOthers_6 (by decide) (by omega) (by omega) (fun hc1 => ?_) (fun hc1 => ?_)
  · have hq4 : q = 4 := by omega
    subst hq4
    exact g_vret hx hb hr hlk d_GV_putToOthers_45 (rfl)
  · refine g_iload hx hb d_GV_putToOthers_9 rfl ?_
    refine g_iload_n hx hb d_GV_putToOthers_11 rfl rfl ?_
    refine n_icmp_eq (tgt := 39) hx hb d_GV_putToOthers_12 (by decide) (by omega) (by omega) (fun heq => ?_) (fun heq => ?_)
    · refine n_iinc (L' := [_, _, _, _, _]) hx hb d_GV_putToOthers_39 rfl rfl ?_
      refine g_goto (tgt := 3) hx hb d_GV_putToOthers_42 (by decide) ?_
      refine g_w (congrArg (gw ad ct) (show _ = cpo V p set x (q + 1) from by rw [cpo, if_neg (fun z => by omega)])) ?_
      exact ih_q (by omega) trivial
    · refine g_iload_n hx hb d_GV_putToOthers_15 rfl rfl ?_
      refine g_iload hx hb d_GV_putToOthers_16 rfl ?_
      refine g_callSi (nn := 2) ⟨hx, hb, hml.trans rfl, hown, hts⟩ (ct_GV_has l D ad ct had _ _ _ (by omega) (by omega)) (mk_S hts t_140 t_141 t_1 t_142 rfl rfl (by decide +kernel) ⟨Nat.le_of_ble_eq_true rfl, Nat.le_of_ble_eq_true rfl⟩) (fun _ h => h) (gK_ok D ct) hK (Nat.le_of_ble_eq_true rfl) ⟨Nat.zero_le _, Nat.zero_le _⟩ rfl rfl d_GV_putToOthers_18 ?_
      rintro _ _ ⟨rfl, rfl⟩
      refine n_if_eq (tgt := 39) hx hb d_GV_putToOthers_21 (by decide) (by omega) (fun hbit => ?_) (fun hbit => ?_)
      · refine n_iinc (L' := [_, _, _, _, _]) hx hb d_GV_putToOthers_39 rfl rfl ?_
        refine g_goto (tgt := 3) hx hb d_GV_putToOthers_42 (by decide) ?_
        refine g_w (congrArg (gw ad ct) (show _ = cpo V p set x (q + 1) from by rw [cpo, if_neg (fun z => by omega)])) ?_
        exact ih_q (by omega) trivial
      · refine g_aload_n hx hb d_GV_putToOthers_24 rfl rfl ?_
        refine g_get hx hb hts (in_mw in_GV) hown hK.1 w_0 rfl 1 (by decide) (hts _ (List.mem_cons_of_mem _ t_100)) rfl d_GV_putToOthers_25 ?_
        refine g_iload_n hx hb d_GV_putToOthers_28 rfl rfl ?_
        refine g_iload hx hb d_GV_putToOthers_29 rfl ?_
        refine g_callSi (nn := 2) ⟨hx, hb, hml.trans rfl, hown, hts⟩ (ct_GV_lineIndex l D ad ct had _ _ _) (mk_S hts t_143 t_144 t_1 t_145 rfl rfl (by decide +kernel) ⟨Nat.le_of_ble_eq_true rfl, Nat.le_of_ble_eq_true rfl⟩) (fun _ h => h) (gK_ok D ct) hK (Nat.le_of_ble_eq_true rfl) ⟨Nat.zero_le _, Nat.zero_le _⟩ rfl rfl d_GV_putToOthers_31 ?_
        rintro _ _ ⟨rfl, rfl⟩
        refine g_aald hx hb hK.1 w_2 3 rfl (by omega) (by decide) (fL (by omega)) d_GV_putToOthers_34 ?_
        refine g_iload_n hx hb d_GV_putToOthers_35 rfl rfl ?_
        refine g_callVNv (C := "GroupViews$Line") (nn := 1) ⟨hx, hb, hml.trans rfl, hown, hts⟩ (ct_LN_put l D ad ct had _ _ _ (by omega) (cpo_end hp (by omega) (hE _ (by omega)) q (by omega))) (mk_VN hK hts nw_146 t_148 ts_LN_put t_3 t_149 rfl rfl (by decide +kernel) ⟨Nat.le_of_ble_eq_true rfl, Nat.le_of_ble_eq_true rfl⟩) hK.1 rfl (w_L (by omega)) rfl (fun _ h => h) (gK_ok D ct) hK (Nat.le_of_ble_eq_true rfl) ⟨Nat.zero_le _, Nat.zero_le _⟩ rfl rfl d_GV_putToOthers_36 ?_
        rintro _ rfl
        refine n_iinc (L' := [_, _, _, _, _]) hx hb d_GV_putToOthers_39 rfl rfl ?_
        refine g_goto (tgt := 3) hx hb d_GV_putToOthers_42 (by decide) ?_
        refine g_w (congrArg (gw ad ct) (show _ = cpo V p set x (q + 1) from by rw [cpo, if_pos ⟨heq, by omega⟩])) ?_
        exact ih_q (by omega) trivial
set_option maxRecDepth 100000 in
set_option maxHeartbeats 4000000 in
theorem ct_GV_receiveSync (l : Launch) (D : va_G) (ad : Nat → Nat) (ct : Nat → ClassId) (had : adOk ad) (V : VV) (a p c : Nat) (ha : a < 4) (hp : p < 4) (hc : c < 16) (hv : V (5 + 8 * p + 5) c ≤ 15) (hu : pkd (V (5 + 8 * p + 6) c)) : CTv l y_GV_receiveSync (mw y_GV_receiveSync c_GV_receiveSync 8 none) { frames := 1, cells := 0, slots := 0, locals := 23 } (gK D ct) D vcl (gA ad) [.ref (ad 0), .ref (ad (5 + 8 * a)), .int (nI p), .int (nI c)] (gw ad ct V) (fun w => w = gw ad ct (crs V a p c)) := by
  refine ct_v (by decide) rfl rfl (Nat.le_of_ble_eq_true rfl) ?_
  intro pg en sx mx blw mth cdx hx hb hr hts hown hlk hml hK
  refine g_L (L' := [_, _, _, _, _, _, _, _]) rfl ?_
  have lu := pkd_lt hu
  refine g_aload_n hx hb d_GV_receiveSync_0 rfl rfl ?_
  refine g_iload_n hx hb d_GV_receiveSync_1 rfl rfl ?_
  refine g_iload_n hx hb d_GV_receiveSync_2 rfl rfl ?_
  refine g_callVNv (C := "GroupViews$ProcessState") (nn := 2) ⟨hx, hb, hml.trans rfl, hown, hts⟩ (ct_PS_learnSync l D ad ct had _ _ _ _ ha (by omega) (by omega)) (mk_VN hK hts nw_157 t_159 ts_PS_learnSync t_2 t_160 rfl rfl (by decide +kernel) ⟨Nat.le_of_ble_eq_true rfl, Nat.le_of_ble_eq_true rfl⟩) hK.1 rfl (w_P ha) rfl (fun _ h => h) (gK_ok D ct) hK (Nat.le_of_ble_eq_true rfl) ⟨Nat.zero_le _, Nat.zero_le _⟩ rfl rfl d_GV_receiveSync_3 ?_
  rintro _ rfl
  refine g_aload_n hx hb d_GV_receiveSync_6 rfl rfl ?_
  refine g_get hx hb hts (in_mw in_GV) hown hK.1 w_0 rfl 0 (by decide) (hts _ (List.mem_cons_of_mem _ t_99)) rfl d_GV_receiveSync_7 ?_
  refine g_iload_n hx hb d_GV_receiveSync_10 rfl rfl ?_
  refine g_aald hx hb hK.1 w_1 2 rfl hp (by decide) (fP hp) d_GV_receiveSync_11 ?_
  refine g_getN hx hb hts (in_mw in_PS) hown hK.1 (w_P hp) rfl 13 (by decide) (nst_use hK nw_45 _) rfl d_GV_receiveSync_12 ?_
  refine g_iload_n hx hb d_GV_receiveSync_15 rfl rfl ?_
  refine g_iald hx hb hK.1 (w_Pa (k := 5) hp (by decide) (by decide)) 0 rfl (show _ < 16 by omega) (by decide) rfl d_GV_receiveSync_16 ?_
  refine g_val (show nI _ = nI (V (5 + 8 * p + 5) c) from congrArg nI (by unfold csy; rw [pt_ne (by omega)])) ?_
  refine g_istore (L' := [_, _, _, _, _, _, _, _]) hx hb d_GV_receiveSync_17 (Nat.le_of_ble_eq_true rfl) rfl ?_
  refine g_iload hx hb d_GV_receiveSync_19 rfl ?_
  refine n_if_ne (tgt := 25) hx hb d_GV_receiveSync_21 (by decide) (by omega) (fun hc1 => ?_) (fun hc1 => ?_)
  · refine g_aload_n hx hb d_GV_receiveSync_25 rfl rfl ?_
    refine g_get hx hb hts (in_mw in_GV) hown hK.1 w_0 rfl 0 (by decide) (hts _ (List.mem_cons_of_mem _ t_99)) rfl d_GV_receiveSync_26 ?_
    refine g_iload_n hx hb d_GV_receiveSync_29 rfl rfl ?_
    refine g_aald hx hb hK.1 w_1 2 rfl hp (by decide) (fP hp) d_GV_receiveSync_30 ?_
    refine g_getN hx hb hts (in_mw in_PS) hown hK.1 (w_P hp) rfl 14 (by decide) (nst_use hK nw_47 _) rfl d_GV_receiveSync_31 ?_
    refine g_iload_n hx hb d_GV_receiveSync_34 rfl rfl ?_
    refine g_iald hx hb hK.1 (w_Pa (k := 6) hp (by decide) (by decide)) 0 rfl (show _ < 16 by omega) (by decide) rfl d_GV_receiveSync_35 ?_
    refine g_val (show nI _ = nI (V (5 + 8 * p + 6) c) from congrArg nI (by unfold csy; rw [pt_ne (by omega)])) ?_
    refine g_istore (L' := [_, _, _, _, _, _, _, _]) hx hb d_GV_receiveSync_36 (Nat.le_of_ble_eq_true rfl) rfl ?_
    refine g_iconst hx hb d_GV_receiveSync_38 k_iconst_0 ?_
    refine g_istore (L' := [_, _, _, _, _, _, _, _]) hx hb d_GV_receiveSync_39 (Nat.le_of_ble_eq_true rfl) rfl ?_
    refine g_loop 4 (fun r => gw ad ct (crl (csy V a p c) a (V (5 + 8 * p + 5) c) (V (5 + 8 * p + 6) c) r)) (fun r => [some (.ref (ad 0)), some (.ref (ad (5 + 8 * a))), some (.int (nI p)), some (.int (nI c)), some (.int (nI (V (5 + 8 * p + 5) c))), some (.int (nI (V (5 + 8 * p + 6) c))), some (.int (nI r)), none]) (fun r => True) 0 (by omega) trivial rfl rfl ?_
    intro r hq0_r hqE_r hI_r ih_r
    try dsimp only
    refine g_iload hx hb d_GV_receiveSync_41 rfl ?_
    refine g_iconst hx hb d_GV_receiveSync_43 k_iconst_4 ?_
    refine n_icmp_ge (tgt := 84) hx hb d_GV_receiveSync_44 (by decide) (by omega) (by omega) (fun hc2 => ?_) (fun hc2 => ?_)
    · exact g_vret hx hb hr hlk d_GV_receiveSync_84 (by unfold crs; rw [if_neg hc1, show r = 4 by omega])
    · have hr4 : r < 4 := by omega
      have hcn := hu.2 r hr4
      refine g_iconst hx hb d_GV_receiveSync_47 k_iconst_1 ?_
      refine g_istore (L' := [_, _, _, _, _, _, _, _]) hx hb d_GV_receiveSync_48 (Nat.le_of_ble_eq_true rfl) rfl ?_
      refine g_loop (cnt (V (5 + 8 * p + 6) c) r) (fun n => gw ad ct (crn (crl (csy V a p c) a (V (5 + 8 * p + 5) c) (V (5 + 8 * p + 6) c) r) a (V (5 + 8 * p + 5) c) r n)) (fun n => [some (.ref (ad 0)), some (.ref (ad (5 + 8 * a))), some (.int (nI p)), some (.int (nI c)), some (.int (nI (V (5 + 8 * p + 5) c))), some (.int (nI (V (5 + 8 * p + 6) c))), some (.int (nI r)), some (.int (nI (n + 1)))]) (fun n => True) 0 (Nat.zero_le _) trivial rfl rfl ?_
      intro n hq0_n hqE_n hI_n ih_n
      try dsimp only
      refine g_iload hx hb d_GV_receiveSync_50 rfl ?_
      refine g_iload hx hb d_GV_receiveSync_52 rfl ?_
      refine g_iload hx hb d_GV_receiveSync_54 rfl ?_
      refine g_callSi (nn := 2) ⟨hx, hb, hml.trans rfl, hown, hts⟩ (ct_GV_countOf l D ad ct had _ _ _ (by omega) (by omega)) (mk_S hts t_201 t_202 t_1 t_203 rfl rfl (by decide +kernel) ⟨Nat.le_of_ble_eq_true rfl, Nat.le_of_ble_eq_true rfl⟩) (fun _ h => h) (gK_ok D ct) hK (Nat.le_of_ble_eq_true rfl) ⟨Nat.zero_le _, Nat.zero_le _⟩ rfl rfl d_GV_receiveSync_56 ?_
      rintro _ _ ⟨rfl, rfl⟩
      refine n_icmp_gt (tgt := 78) hx hb d_GV_receiveSync_59 (by decide) (by omega) (by omega) (fun hc3 => ?_) (fun hc3 => ?_)
      · have hn : n = cnt (V (5 + 8 * p + 6) c) r := by omega
        subst hn
        refine n_iinc (L' := [_, _, _, _, _, _, _, _]) hx hb d_GV_receiveSync_78 rfl rfl ?_
        refine g_goto (tgt := 41) hx hb d_GV_receiveSync_81 (by decide) ?_
        refine g_sub (L' := [_, _, _, _, _, _, _, none]) ⟨Or.inr rfl, Or.inr rfl, Or.inr rfl, Or.inr rfl, Or.inr rfl, Or.inr rfl, Or.inr rfl, Or.inl rfl, trivial⟩ ?_
        exact ih_r (by omega) trivial
      · refine g_aload_n hx hb d_GV_receiveSync_62 rfl rfl ?_
        refine g_iload hx hb d_GV_receiveSync_63 rfl ?_
        refine g_iload hx hb d_GV_receiveSync_65 rfl ?_
        refine g_iload hx hb d_GV_receiveSync_67 rfl ?_
        refine g_callVNv (C := "GroupViews$ProcessState") (nn := 3) ⟨hx, hb, hml.trans rfl, hown, hts⟩ (ct_PS_learnMessage l D ad ct had _ _ _ _ _ ha (by omega) (by omega)) (mk_VN hK hts nw_128 t_130 ts_PS_learnMessage t_2 t_131 rfl rfl (by decide +kernel) ⟨Nat.le_of_ble_eq_true rfl, Nat.le_of_ble_eq_true rfl⟩) hK.1 rfl (w_P ha) rfl (fun _ h => h) (gK_ok D ct) hK (Nat.le_of_ble_eq_true rfl) ⟨Nat.zero_le _, Nat.zero_le _⟩ rfl rfl d_GV_receiveSync_69 ?_
        rintro _ rfl
        refine n_iinc (L' := [_, _, _, _, _, _, _, _]) hx hb d_GV_receiveSync_72 rfl rfl ?_
        refine g_goto (tgt := 50) hx hb d_GV_receiveSync_75 (by decide) ?_
        exact ih_n (by omega) trivial
  · exact g_vret hx hb hr hlk d_GV_receiveSync_24 (by unfold crs; rw [if_pos hc1])
set_option maxRecDepth 100000 in
set_option maxHeartbeats 4000000 in
theorem ct_GV_isDeliverable (l : Launch) (D : va_G) (ad : Nat → Nat) (ct : Nat → ClassId) (had : adOk ad) (V : VV) (a q lim : Nat) (ha : a < 4) (hq : q < 4) (hl : pkd lim) (hcb : CB V) : CTi l y_GV_isDeliverable (mw y_GV_isDeliverable c_GV_isDeliverable 7 (some .boolean)) { frames := 1, cells := 0, slots := 0, locals := 22 } (gK D ct) D vcl (gA ad) [.ref (ad 0), .ref (ad (5 + 8 * a)), .int (nI q), .int (nI lim)] (gw ad ct V) (fun r w => r = nI (bC (cdl V a lim q)) ∧ w = gw ad ct V) := by
  refine ct_i (by decide) rfl rfl (Nat.le_of_ble_eq_true rfl) ?_
  intro pg en sx mx blw mth cdx hx hb hr hts hown hlk hml hK
  refine g_L (L' := [_, _, _, _, _, _, _]) rfl ?_
  have hpa := hcb.p a ha
  have hde := hpa.2.2.2.2.2.2.2.2
  have l1 := pkd_lt hde
  have l2 := pkd_lt hl
  have c1 := hde.2 q hq
  have c2 := hl.2 q hq
  have hkn := hcb.kn a (V (5 + 8 * a) 0 * 4 + q) ha (by omega)
  refine g_aload_n hx hb d_GV_isDeliverable_0 rfl rfl ?_
  refine g_getN hx hb hts (in_mw in_PS) hown hK.1 (w_P ha) rfl 8 (by decide) (nst_use hK nw_36 _) rfl d_GV_isDeliverable_1 ?_
  refine g_iload_n hx hb d_GV_isDeliverable_4 rfl rfl ?_
  refine g_callSi (nn := 2) ⟨hx, hb, hml.trans rfl, hown, hts⟩ (ct_GV_countOf l D ad ct had _ _ _ (by omega) (by omega)) (mk_S hts t_201 t_202 t_1 t_203 rfl rfl (by decide +kernel) ⟨Nat.le_of_ble_eq_true rfl, Nat.le_of_ble_eq_true rfl⟩) (fun _ h => h) (gK_ok D ct) hK (Nat.le_of_ble_eq_true rfl) ⟨Nat.zero_le _, Nat.zero_le _⟩ rfl rfl d_GV_isDeliverable_5 ?_
  rintro _ _ ⟨rfl, rfl⟩
  refine g_istore (L' := [_, _, _, _, _, _, _]) hx hb d_GV_isDeliverable_8 (Nat.le_of_ble_eq_true rfl) rfl ?_
  refine g_iload hx hb d_GV_isDeliverable_10 rfl ?_
  refine g_iload_n hx hb d_GV_isDeliverable_12 rfl rfl ?_
  refine g_iload_n hx hb d_GV_isDeliverable_13 rfl rfl ?_
  refine g_callSi (nn := 2) ⟨hx, hb, hml.trans rfl, hown, hts⟩ (ct_GV_countOf l D ad ct had _ _ _ (by omega) (by omega)) (mk_S hts t_201 t_202 t_1 t_203 rfl rfl (by decide +kernel) ⟨Nat.le_of_ble_eq_true rfl, Nat.le_of_ble_eq_true rfl⟩) (fun _ h => h) (gK_ok D ct) hK (Nat.le_of_ble_eq_true rfl) ⟨Nat.zero_le _, Nat.zero_le _⟩ rfl rfl d_GV_isDeliverable_14 ?_
  rintro _ _ ⟨rfl, rfl⟩
  refine n_icmp_ge (tgt := 32) hx hb d_GV_isDeliverable_17 (by decide) (by omega) (by omega) (fun hlt => ?_) (fun hlt => ?_)
  · refine g_iconst hx hb d_GV_isDeliverable_32 k_iconst_0 ?_
    exact g_zret hx hb hr hlk (by decide +kernel) d_GV_isDeliverable_33 (⟨by rw [bC_f (show ¬ cdl V a lim q from fun z => by have := z.1; omega)], rfl⟩)
  · have hvc := hcb.vc q (V (5 + 8 * a) 0 * 4 + cnt (V (5 + 8 * a) 8) q) hq (by omega)
    have l3 := pkd_lt hvc
    refine g_aload_n hx hb d_GV_isDeliverable_20 rfl rfl ?_
    refine g_iload_n hx hb d_GV_isDeliverable_21 rfl rfl ?_
    refine g_iload hx hb d_GV_isDeliverable_22 rfl ?_
    refine g_iconst hx hb d_GV_isDeliverable_24 k_iconst_1 ?_
    refine n_iadd hx hb d_GV_isDeliverable_25 ?_
    refine g_callVNi (C := "GroupViews$ProcessState") (nn := 2) ⟨hx, hb, hml.trans rfl, hown, hts⟩ (ct_PS_knowsMessage l D ad ct had _ _ _ _ ha (by omega) (by omega) (by omega)) (mk_VN hK hts nw_217 t_219 ts_PS_knowsMessage t_2 t_220 rfl rfl (by decide +kernel) ⟨Nat.le_of_ble_eq_true rfl, Nat.le_of_ble_eq_true rfl⟩) hK.1 rfl (w_P ha) rfl (fun _ h => h) (gK_ok D ct) hK (Nat.le_of_ble_eq_true rfl) ⟨Nat.zero_le _, Nat.zero_le _⟩ rfl rfl d_GV_isDeliverable_26 ?_
    rintro _ _ ⟨rfl, rfl⟩
    refine n_if_ne (tgt := 34) hx hb d_GV_isDeliverable_29 (by decide) (by omega) (fun hkw => ?_) (fun hkw => ?_)
    · refine g_aload_n hx hb d_GV_isDeliverable_34 rfl rfl ?_
      refine g_get hx hb hts (in_mw in_GV) hown hK.1 w_0 rfl 0 (by decide) (hts _ (List.mem_cons_of_mem _ t_99)) rfl d_GV_isDeliverable_35 ?_
      refine g_iload_n hx hb d_GV_isDeliverable_38 rfl rfl ?_
      refine g_aald hx hb hK.1 w_1 2 rfl hq (by decide) (fP hq) d_GV_isDeliverable_39 ?_
      refine g_getN hx hb hts (in_mw in_PS) hown hK.1 (w_P hq) rfl 12 (by decide) (nst_use hK nw_43 _) rfl d_GV_isDeliverable_40 ?_
      refine g_aload_n hx hb d_GV_isDeliverable_43 rfl rfl ?_
      refine g_getN hx hb hts (in_mw in_PS) hown hK.1 (w_P ha) rfl 0 (by decide) (nst_use hK nw_24 _) rfl d_GV_isDeliverable_44 ?_
      refine g_iload hx hb d_GV_isDeliverable_47 rfl ?_
      refine g_iconst hx hb d_GV_isDeliverable_49 k_iconst_1 ?_
      refine n_iadd hx hb d_GV_isDeliverable_50 ?_
      refine g_callSi (nn := 2) ⟨hx, hb, hml.trans rfl, hown, hts⟩ (ct_GV_slotOf l D ad ct had _ _ _ (by omega)) (mk_S hts t_122 t_123 t_1 t_124 rfl rfl (by decide +kernel) ⟨Nat.le_of_ble_eq_true rfl, Nat.le_of_ble_eq_true rfl⟩) (fun _ h => h) (gK_ok D ct) hK (Nat.le_of_ble_eq_true rfl) ⟨Nat.zero_le _, Nat.zero_le _⟩ rfl rfl d_GV_isDeliverable_51 ?_
      rintro _ _ ⟨rfl, rfl⟩
      refine g_val (show nI _ = nI (V (5 + 8 * a) 0 * 4 + cnt (V (5 + 8 * a) 8) q) from congrArg nI (by omega)) ?_
      refine g_iald hx hb hK.1 (w_Pa (k := 4) hq (by decide) (by decide)) 0 rfl (show _ < 64 by omega) (by decide) rfl d_GV_isDeliverable_54 ?_
      refine g_istore (L' := [_, _, _, _, _, _, _]) hx hb d_GV_isDeliverable_55 (Nat.le_of_ble_eq_true rfl) rfl ?_
      refine g_iconst hx hb d_GV_isDeliverable_57 k_iconst_0 ?_
      refine g_istore (L' := [_, _, _, _, _, _, _]) hx hb d_GV_isDeliverable_58 (Nat.le_of_ble_eq_true rfl) rfl ?_
      refine g_loop 4 (fun j => gw ad ct V) (fun j => [some (.ref (ad 0)), some (.ref (ad (5 + 8 * a))), some (.int (nI q)), some (.int (nI lim)), some (.int (nI (cnt (V (5 + 8 * a) 8) q))), some (.int (nI (V (5 + 8 * q + 4) (V (5 + 8 * a) 0 * 4 + cnt (V (5 + 8 * a) 8) q)))), some (.int (nI j))]) (fun j => ∀ i, i < j → cnt (V (5 + 8 * q + 4) (V (5 + 8 * a) 0 * 4 + cnt (V (5 + 8 * a) 8) q)) i ≤ cnt (V (5 + 8 * a) 8) i) 0 (by omega) (fun i hi => absurd hi (Nat.not_lt_zero i)) rfl rfl ?_
      intro j hq0_j hqE_j hI_j ih_j
      try dsimp only
      refine g_iload hx hb d_GV_isDeliverable_60 rfl ?_
      refine g_iconst hx hb d_GV_isDeliverable_62 k_iconst_4 ?_
      refine n_icmp_ge (tgt := 93) hx hb d_GV_isDeliverable_63 (by decide) (by omega) (by omega) (fun hj4 => ?_) (fun hj4 => ?_)
      · refine g_iconst hx hb d_GV_isDeliverable_93 k_iconst_1 ?_
        exact g_zret hx hb hr hlk (by decide +kernel) d_GV_isDeliverable_94 (⟨by rw [bC_t (show cdl V a lim q from ⟨hlt, by omega, fun i hi => hI_j i (by omega)⟩)], rfl⟩)
      · have hj : j < 4 := by omega
        have x1 := hde.2 j hj
        have x2 := hvc.2 j hj
        refine g_aload_n hx hb d_GV_isDeliverable_66 rfl rfl ?_
        refine g_getN hx hb hts (in_mw in_PS) hown hK.1 (w_P ha) rfl 8 (by decide) (nst_use hK nw_36 _) rfl d_GV_isDeliverable_67 ?_
        refine g_iload hx hb d_GV_isDeliverable_70 rfl ?_
        refine g_callSi (nn := 2) ⟨hx, hb, hml.trans rfl, hown, hts⟩ (ct_GV_countOf l D ad ct had _ _ _ (by omega) (by omega)) (mk_S hts t_201 t_202 t_1 t_203 rfl rfl (by decide +kernel) ⟨Nat.le_of_ble_eq_true rfl, Nat.le_of_ble_eq_true rfl⟩) (fun _ h => h) (gK_ok D ct) hK (Nat.le_of_ble_eq_true rfl) ⟨Nat.zero_le _, Nat.zero_le _⟩ rfl rfl d_GV_isDeliverable_72 ?_
        rintro _ _ ⟨rfl, rfl⟩
        refine g_iload hx hb d_GV_isDeliverable_75 rfl ?_
        refine g_iload hx hb d_GV_isDeliverable_77 rfl ?_
        refine g_callSi (nn := 2) ⟨hx, hb, hml.trans rfl, hown, hts⟩ (ct_GV_countOf l D ad ct had _ _ _ (by omega) (by omega)) (mk_S hts t_201 t_202 t_1 t_203 rfl rfl (by decide +kernel) ⟨Nat.le_of_ble_eq_true rfl, Nat.le_of_ble_eq_true rfl⟩) (fun _ h => h) (gK_ok D ct) hK (Nat.le_of_ble_eq_true rfl) ⟨Nat.zero_le _, Nat.zero_le _⟩ rfl rfl d_GV_isDeliverable_79 ?_
        rintro _ _ ⟨rfl, rfl⟩
        refine n_icmp_ge (tgt := 87) hx hb d_GV_isDeliverable_82 (by decide) (by omega) (by omega) (fun hle => ?_) (fun hle => ?_)
        · refine n_iinc (L' := [_, _, _, _, _, _, _]) hx hb d_GV_isDeliverable_87 rfl rfl ?_
          refine g_goto (tgt := 60) hx hb d_GV_isDeliverable_90 (by decide) ?_
          refine ih_j (by omega) (fun i hi => ?_)
          rcases Nat.lt_succ_iff_lt_or_eq.mp hi with z | z
          · exact hI_j i z
          · rw [z]; exact hle
        · refine g_iconst hx hb d_GV_isDeliverable_85 k_iconst_0 ?_
          exact g_zret hx hb hr hlk (by decide +kernel) d_GV_isDeliverable_86 (⟨by rw [bC_f (show ¬ cdl V a lim q from fun z => by have := z.2.2 j hj; omega)], rfl⟩)
    · refine g_iconst hx hb d_GV_isDeliverable_32 k_iconst_0 ?_
      exact g_zret hx hb hr hlk (by decide +kernel) d_GV_isDeliverable_33 (⟨by rw [bC_f (show ¬ cdl V a lim q from fun z => by have := z.2.1; omega)], rfl⟩)
set_option maxRecDepth 100000 in
set_option maxHeartbeats 4000000 in
theorem ct_GV_deliverOne (l : Launch) (D : va_G) (ad : Nat → Nat) (ct : Nat → ClassId) (had : adOk ad) (V : VV) (a lim : Nat) (ha : a < 4) (hl : pkd lim) (hcb : CB V) : CTi l y_GV_deliverOne (mw y_GV_deliverOne c_GV_deliverOne 6 (some .int)) { frames := 2, cells := 0, slots := 0, locals := 48 } (gK D ct) D vcl (gA ad) [.ref (ad 0), .ref (ad (5 + 8 * a)), .int (nI lim)] (gw ad ct V) (fun r w => ∃ X', cd1 V a lim r X' ∧ w = gw ad ct X') := by
  refine ct_i (by decide) rfl rfl (Nat.le_of_ble_eq_true rfl) ?_
  intro pg en sx mx blw mth cdx hx hb hr hts hown hlk hml hK
  refine g_L (L' := [_, _, _, _, _, _]) rfl ?_
  have hpa := hcb.p a ha
  have hde := hpa.2.2.2.2.2.2.2.2
  have l1 := pkd_lt hde
  refine g_iconst hx hb d_GV_deliverOne_0 k_iconst_0 ?_
  refine g_istore_n (L' := [_, _, _, _, _, _]) hx hb d_GV_deliverOne_1 rfl (Nat.le_of_ble_eq_true rfl) rfl ?_
  refine g_loop 4 (fun q => gw ad ct V) (fun q => [some (.ref (ad 0)), some (.ref (ad (5 + 8 * a))), some (.int (nI lim)), some (.int (nI q)), none, none]) (fun q => ∀ j, j < q → ¬ cdl V a lim j) 0 (by omega) (fun j hj => absurd hj (Nat.not_lt_zero j)) rfl rfl ?_
  intro q hq0_q hqE_q hI_q ih_q
  try dsimp only
  refine g_iload_n hx hb d_GV_deliverOne_2 rfl rfl ?_
  refine g_iconst hx hb d_GV_deliverOne_3 k_iconst_4 ?_
  refine n_icmp_ge (tgt := 82) hx hb d_GV_deliverOne_4 (by decide) (by omega) (by omega) (fun hc1 => ?_) (fun hc1 => ?_)
  · refine g_iconst hx hb d_GV_deliverOne_82 k_iconst_0 ?_
    exact g_iret hx hb hr hlk d_GV_deliverOne_83 (⟨_, Or.inr ⟨rfl, fun j hj => hI_q j (by omega), rfl⟩, rfl⟩)
  · have hq : q < 4 := by omega
    have c1 := hde.2 q hq
    have c2 := hl.2 q hq
    refine g_aload_n hx hb d_GV_deliverOne_7 rfl rfl ?_
    refine g_aload_n hx hb d_GV_deliverOne_8 rfl rfl ?_
    refine g_iload_n hx hb d_GV_deliverOne_9 rfl rfl ?_
    refine g_iload_n hx hb d_GV_deliverOne_10 rfl rfl ?_
    refine g_callVi (C := "GroupViews") (nn := 3) ⟨hx, hb, hml.trans rfl, hown, hts⟩ (ct_GV_isDeliverable l D ad ct had _ _ _ _ ha hq hl hcb) (mk_V hts t_213 t_215 ts_GV_isDeliverable t_1 t_216 rfl rfl (by decide +kernel) ⟨Nat.le_of_ble_eq_true rfl, Nat.le_of_ble_eq_true rfl⟩) hK.1 rfl w_0 rfl (fun _ h => h) (gK_ok D ct) hK (Nat.le_of_ble_eq_true rfl) ⟨Nat.zero_le _, Nat.zero_le _⟩ rfl rfl d_GV_deliverOne_11 ?_
    rintro _ _ ⟨rfl, rfl⟩
    refine n_if_eq (tgt := 76) hx hb d_GV_deliverOne_14 (by decide) bC_lt (fun hdl => ?_) (fun hdl => ?_)
    · have hdl := bC_0.mp hdl
      refine n_iinc (L' := [_, _, _, _, _, _]) hx hb d_GV_deliverOne_76 rfl rfl ?_
      refine g_goto (tgt := 2) hx hb d_GV_deliverOne_79 (by decide) ?_
      refine ih_q (by omega) (fun j hj => ?_)
      rcases Nat.lt_succ_iff_lt_or_eq.mp hj with z | z
      · exact hI_q j z
      · rw [z]; exact hdl
    · have hdl := bC_n0.mp hdl
      have c3 := hdl.1
      refine g_aload_n hx hb d_GV_deliverOne_17 rfl rfl ?_
      refine g_getN hx hb hts (in_mw in_PS) hown hK.1 (w_P ha) rfl 8 (by decide) (nst_use hK nw_36 _) rfl d_GV_deliverOne_18 ?_
      refine g_iload_n hx hb d_GV_deliverOne_21 rfl rfl ?_
      refine g_callSi (nn := 2) ⟨hx, hb, hml.trans rfl, hown, hts⟩ (ct_GV_countOf l D ad ct had _ _ _ (by omega) (by omega)) (mk_S hts t_201 t_202 t_1 t_203 rfl rfl (by decide +kernel) ⟨Nat.le_of_ble_eq_true rfl, Nat.le_of_ble_eq_true rfl⟩) (fun _ h => h) (gK_ok D ct) hK (Nat.le_of_ble_eq_true rfl) ⟨Nat.zero_le _, Nat.zero_le _⟩ rfl rfl d_GV_deliverOne_22 ?_
      rintro _ _ ⟨rfl, rfl⟩
      refine g_iconst hx hb d_GV_deliverOne_25 k_iconst_1 ?_
      refine n_iadd hx hb d_GV_deliverOne_26 ?_
      refine g_istore (L' := [_, _, _, _, _, _]) hx hb d_GV_deliverOne_27 (Nat.le_of_ble_eq_true rfl) rfl ?_
      refine g_aload_n hx hb d_GV_deliverOne_29 rfl rfl ?_
      refine g_get hx hb hts (in_mw in_GV) hown hK.1 w_0 rfl 0 (by decide) (hts _ (List.mem_cons_of_mem _ t_99)) rfl d_GV_deliverOne_30 ?_
      refine g_iload_n hx hb d_GV_deliverOne_33 rfl rfl ?_
      refine g_aald hx hb hK.1 w_1 2 rfl hq (by decide) (fP hq) d_GV_deliverOne_34 ?_
      refine g_getN hx hb hts (in_mw in_PS) hown hK.1 (w_P hq) rfl 11 (by decide) (nst_use hK nw_41 _) rfl d_GV_deliverOne_35 ?_
      refine g_aload_n hx hb d_GV_deliverOne_38 rfl rfl ?_
      refine g_getN hx hb hts (in_mw in_PS) hown hK.1 (w_P ha) rfl 0 (by decide) (nst_use hK nw_24 _) rfl d_GV_deliverOne_39 ?_
      refine g_iload hx hb d_GV_deliverOne_42 rfl ?_
      refine g_callSi (nn := 2) ⟨hx, hb, hml.trans rfl, hown, hts⟩ (ct_GV_slotOf l D ad ct had _ _ _ (by omega)) (mk_S hts t_122 t_123 t_1 t_124 rfl rfl (by decide +kernel) ⟨Nat.le_of_ble_eq_true rfl, Nat.le_of_ble_eq_true rfl⟩) (fun _ h => h) (gK_ok D ct) hK (Nat.le_of_ble_eq_true rfl) ⟨Nat.zero_le _, Nat.zero_le _⟩ rfl rfl d_GV_deliverOne_44 ?_
      rintro _ _ ⟨rfl, rfl⟩
      refine g_val (show nI _ = nI (V (5 + 8 * a) 0 * 4 + cnt (V (5 + 8 * a) 8) q) from congrArg nI (by omega)) ?_
      refine g_iald hx hb hK.1 (w_Pa (k := 3) hq (by decide) (by decide)) 0 rfl (show _ < 64 by omega) (by decide) rfl d_GV_deliverOne_47 ?_
      refine g_istore (L' := [_, _, _, _, _, _]) hx hb d_GV_deliverOne_48 (Nat.le_of_ble_eq_true rfl) rfl ?_
      refine g_aload_n hx hb d_GV_deliverOne_50 rfl rfl ?_
      refine g_aload_n hx hb d_GV_deliverOne_51 rfl rfl ?_
      refine g_getN hx hb hts (in_mw in_PS) hown hK.1 (w_P ha) rfl 8 (by decide) (nst_use hK nw_36 _) rfl d_GV_deliverOne_52 ?_
      refine g_iload_n hx hb d_GV_deliverOne_55 rfl rfl ?_
      refine g_iload hx hb d_GV_deliverOne_56 rfl ?_
      refine g_callSi (nn := 3) ⟨hx, hb, hml.trans rfl, hown, hts⟩ (ct_GV_withCount l D ad ct had _ _ _ _ hde hq (by omega)) (mk_S hts t_125 t_126 t_1 t_127 rfl rfl (by decide +kernel) ⟨Nat.le_of_ble_eq_true rfl, Nat.le_of_ble_eq_true rfl⟩) (fun _ h => h) (gK_ok D ct) hK (Nat.le_of_ble_eq_true rfl) ⟨Nat.zero_le _, Nat.zero_le _⟩ rfl rfl d_GV_deliverOne_58 ?_
      rintro _ _ ⟨rfl, rfl⟩
      refine g_putN (ty := .int) hx hb hts (in_mw in_PS) ty_PS tyo_PS nm_PS hown hK.1 (gw_D had) (w_P ha) rfl 8 (by decide) (nst_use hK nw_36 _) rfl (by decide +kernel) rfl rfl (Nat.le_of_ble_eq_true rfl) d_GV_deliverOne_61 (s_P ha 8 _ (by decide)) ?_
      refine g_aload_n hx hb d_GV_deliverOne_64 rfl rfl ?_
      refine g_iconst hx hb d_GV_deliverOne_65 k_iconst_1 ?_
      refine g_iload_n hx hb d_GV_deliverOne_66 rfl rfl ?_
      refine g_iload hx hb d_GV_deliverOne_67 rfl ?_
      refine g_iload hx hb d_GV_deliverOne_69 rfl ?_
      refine g_callVNv (C := "GroupViews$ProcessState") (nn := 4) ⟨hx, hb, hml.trans rfl, hown, hts⟩ (ct_PS_setEvent l D ad ct had _ _ _ _ _ _ ha) (mk_VN hK hts nw_221 t_223 ts_PS_setEvent t_2 t_224 rfl rfl (by decide +kernel) ⟨Nat.le_of_ble_eq_true rfl, Nat.le_of_ble_eq_true rfl⟩) hK.1 rfl (w_P ha) rfl (fun _ h => h) (gK_ok D ct) hK (Nat.le_of_ble_eq_true rfl) ⟨Nat.zero_le _, Nat.zero_le _⟩ rfl rfl d_GV_deliverOne_71 ?_
      rintro _ rfl
      refine g_iconst hx hb d_GV_deliverOne_74 k_iconst_1 ?_
      exact g_iret hx hb hr hlk d_GV_deliverOne_75 (⟨_, Or.inl ⟨rfl, q, hq, hdl, hI_q, rfl⟩, rfl⟩)
set_option maxRecDepth 100000 in
set_option maxHeartbeats 4000000 in
theorem ct_GV_isReady (l : Launch) (D : va_G) (ad : Nat → Nat) (ct : Nat → ClassId) (had : adOk ad) (V : VV) (a com : Nat) (ha : a < 4) (hcm : com < 16) (hcb : CB V) : CTi l y_GV_isReady (mw y_GV_isReady c_GV_isReady 4 (some .boolean)) { frames := 1, cells := 0, slots := 0, locals := 22 } (gK D ct) D vcl (gA ad) [.ref (ad 0), .ref (ad (5 + 8 * a)), .int (nI com)] (gw ad ct V) (fun r w => r = nI (bC (crd V a com)) ∧ w = gw ad ct V) := by
  refine ct_i (by decide) rfl rfl (Nat.le_of_ble_eq_true rfl) ?_
  intro pg en sx mx blw mth cdx hx hb hr hts hown hlk hml hK
  refine g_L (L' := [_, _, _, _]) rfl ?_
  have hpa := hcb.p a ha
  refine g_iconst hx hb d_GV_isReady_0 k_iconst_0 ?_
  refine g_istore_n (L' := [_, _, _, _]) hx hb d_GV_isReady_1 rfl (Nat.le_of_ble_eq_true rfl) rfl ?_
  refine g_loop 4 (fun q => gw ad ct V) (fun q => [some (.ref (ad 0)), some (.ref (ad (5 + 8 * a))), some (.int (nI com)), some (.int (nI q))]) (fun q => ∀ j, j < q → com / 2 ^ j % 2 = 1 → V (5 + 8 * a + 2) j / 2 ^ (V 4 (V (5 + 8 * a) 5 * 4 + j)) % 2 = 1) 0 (by omega) (fun j hj => absurd hj (Nat.not_lt_zero j)) rfl rfl ?_
  intro q hq0_q hqE_q hI_q ih_q
  try dsimp only
  refine g_iload_n hx hb d_GV_isReady_2 rfl rfl ?_
  refine g_iconst hx hb d_GV_isReady_3 k_iconst_4 ?_
  refine n_icmp_ge (tgt := 44) hx hb d_GV_isReady_4 (by decide) (by omega) (by omega) (fun hc1 => ?_) (fun hc1 => ?_)
  · refine g_iconst hx hb d_GV_isReady_44 k_iconst_1 ?_
    exact g_zret hx hb hr hlk (by decide +kernel) d_GV_isReady_45 (⟨by rw [bC_t (show crd V a com from fun j hj hb => hI_q j (by omega) hb)], rfl⟩)
  · have hq : q < 4 := by omega
    have hst := hcb.t (V (5 + 8 * a) 5 * 4 + q) (by omega)
    have hkc := hcb.kc a q ha hq
    refine g_iload_n hx hb d_GV_isReady_7 rfl rfl ?_
    refine g_iload_n hx hb d_GV_isReady_8 rfl rfl ?_
    refine g_callSi (nn := 2) ⟨hx, hb, hml.trans rfl, hown, hts⟩ (ct_GV_has l D ad ct had _ _ _ (by omega) (by omega)) (mk_S hts t_140 t_141 t_1 t_142 rfl rfl (by decide +kernel) ⟨Nat.le_of_ble_eq_true rfl, Nat.le_of_ble_eq_true rfl⟩) (fun _ h => h) (gK_ok D ct) hK (Nat.le_of_ble_eq_true rfl) ⟨Nat.zero_le _, Nat.zero_le _⟩ rfl rfl d_GV_isReady_9 ?_
    rintro _ _ ⟨rfl, rfl⟩
    refine n_if_eq (tgt := 38) hx hb d_GV_isReady_12 (by decide) (by omega) (fun hbit => ?_) (fun hbit => ?_)
    · refine n_iinc (L' := [_, _, _, _]) hx hb d_GV_isReady_38 rfl rfl ?_
      refine g_goto (tgt := 2) hx hb d_GV_isReady_41 (by decide) ?_
      refine ih_q (by omega) (fun j hj hb => ?_)
      rcases Nat.lt_succ_iff_lt_or_eq.mp hj with z | z
      · exact hI_q j z hb
      · subst z
        omega
    · refine g_aload_n hx hb d_GV_isReady_15 rfl rfl ?_
      refine g_iload_n hx hb d_GV_isReady_16 rfl rfl ?_
      refine g_aload_n hx hb d_GV_isReady_17 rfl rfl ?_
      refine g_get hx hb hts (in_mw in_GV) hown hK.1 w_0 rfl 3 (by decide) (hts _ (List.mem_cons_of_mem _ t_102)) rfl d_GV_isReady_18 ?_
      refine g_aload_n hx hb d_GV_isReady_21 rfl rfl ?_
      refine g_getN hx hb hts (in_mw in_PS) hown hK.1 (w_P ha) rfl 5 (by decide) (nst_use hK nw_31 _) rfl d_GV_isReady_22 ?_
      refine g_iload_n hx hb d_GV_isReady_25 rfl rfl ?_
      refine g_callSi (nn := 2) ⟨hx, hb, hml.trans rfl, hown, hts⟩ (ct_GV_startIndex l D ad ct had _ _ _) (mk_S hts t_169 t_170 t_1 t_171 rfl rfl (by decide +kernel) ⟨Nat.le_of_ble_eq_true rfl, Nat.le_of_ble_eq_true rfl⟩) (fun _ h => h) (gK_ok D ct) hK (Nat.le_of_ble_eq_true rfl) ⟨Nat.zero_le _, Nat.zero_le _⟩ rfl rfl d_GV_isReady_26 ?_
      rintro _ _ ⟨rfl, rfl⟩
      refine g_iald hx hb hK.1 w_4 0 rfl (show _ < 64 by omega) (by decide) rfl d_GV_isReady_29 ?_
      refine g_callVNi (C := "GroupViews$ProcessState") (nn := 2) ⟨hx, hb, hml.trans rfl, hown, hts⟩ (ct_PS_knowsSync l D ad ct had _ _ _ _ ha (by omega) (by omega) (by omega)) (mk_VN hK hts nw_229 t_231 ts_PS_knowsSync t_2 t_232 rfl rfl (by decide +kernel) ⟨Nat.le_of_ble_eq_true rfl, Nat.le_of_ble_eq_true rfl⟩) hK.1 rfl (w_P ha) rfl (fun _ h => h) (gK_ok D ct) hK (Nat.le_of_ble_eq_true rfl) ⟨Nat.zero_le _, Nat.zero_le _⟩ rfl rfl d_GV_isReady_30 ?_
      rintro _ _ ⟨rfl, rfl⟩
      refine n_if_ne (tgt := 38) hx hb d_GV_isReady_33 (by decide) (by omega) (fun hkn => ?_) (fun hkn => ?_)
      · refine n_iinc (L' := [_, _, _, _]) hx hb d_GV_isReady_38 rfl rfl ?_
        refine g_goto (tgt := 2) hx hb d_GV_isReady_41 (by decide) ?_
        refine ih_q (by omega) (fun j hj hb => ?_)
        rcases Nat.lt_succ_iff_lt_or_eq.mp hj with z | z
        · exact hI_q j z hb
        · subst z
          omega
      · refine g_iconst hx hb d_GV_isReady_36 k_iconst_0 ?_
        exact g_zret hx hb hr hlk (by decide +kernel) d_GV_isReady_37 (⟨by rw [bC_f (show ¬ crd V a com from fun z => by have := z q hq (by omega); omega)], rfl⟩)
set_option maxRecDepth 100000 in
set_option maxHeartbeats 4000000 in
theorem ct_GV_companionsAmong (l : Launch) (D : va_G) (ad : Nat → Nat) (ct : Nat → ClassId) (had : adOk ad) (V : VV) (a com : Nat) (ha : a < 4) (hcm : com < 16) (hcb : CB V) : CTi l y_GV_companionsAmong (mw y_GV_companionsAmong c_GV_companionsAmong 6 (some .int)) { frames := 1, cells := 0, slots := 0, locals := 21 } (gK D ct) D vcl (gA ad) [.ref (ad 0), .ref (ad (5 + 8 * a)), .int (nI com)] (gw ad ct V) (fun r w => r = nI (cco V a com 4) ∧ w = gw ad ct V) := by
  refine ct_i (by decide) rfl rfl (Nat.le_of_ble_eq_true rfl) ?_
  intro pg en sx mx blw mth cdx hx hb hr hts hown hlk hml hK
  refine g_L (L' := [_, _, _, _, _, _]) rfl ?_
  have hpa := hcb.p a ha
  refine g_iconst hx hb d_GV_companionsAmong_0 k_iconst_0 ?_
  refine g_istore_n (L' := [_, _, _, _, _, _]) hx hb d_GV_companionsAmong_1 rfl (Nat.le_of_ble_eq_true rfl) rfl ?_
  refine g_iconst hx hb d_GV_companionsAmong_2 k_iconst_0 ?_
  refine g_istore (L' := [_, _, _, _, _, _]) hx hb d_GV_companionsAmong_3 (Nat.le_of_ble_eq_true rfl) rfl ?_
  refine g_loop 4 (fun q => gw ad ct V) (fun q => [some (.ref (ad 0)), some (.ref (ad (5 + 8 * a))), some (.int (nI com)), some (.int (nI (cco V a com q))), some (.int (nI q)), none]) (fun q => True) 0 (by omega) trivial rfl rfl ?_
  intro q hq0_q hqE_q hI_q ih_q
  try dsimp only
  refine g_iload hx hb d_GV_companionsAmong_5 rfl ?_
  refine g_iconst hx hb d_GV_companionsAmong_7 k_iconst_4 ?_
  refine n_icmp_ge (tgt := 69) hx hb d_GV_companionsAmong_8 (by decide) (by omega) (by omega) (fun hc1 => ?_) (fun hc1 => ?_)
  · have hq4 : q = 4 := by omega
    subst hq4
    refine g_iload_n hx hb d_GV_companionsAmong_69 rfl rfl ?_
    exact g_iret hx hb hr hlk d_GV_companionsAmong_70 (⟨rfl, rfl⟩)
  · have hq : q < 4 := by omega
    have hst := hcb.t (V (5 + 8 * a) 5 * 4 + q) (by omega)
    have hcv5 := hcb.cv q (V 4 (V (5 + 8 * a) 5 * 4 + q)) hq (by omega)
    have hco := cco_lt (X := V) (p := a) (com := com) q (by omega)
    refine g_aload_n hx hb d_GV_companionsAmong_11 rfl rfl ?_
    refine g_get hx hb hts (in_mw in_GV) hown hK.1 w_0 rfl 3 (by decide) (hts _ (List.mem_cons_of_mem _ t_102)) rfl d_GV_companionsAmong_12 ?_
    refine g_aload_n hx hb d_GV_companionsAmong_15 rfl rfl ?_
    refine g_getN hx hb hts (in_mw in_PS) hown hK.1 (w_P ha) rfl 5 (by decide) (nst_use hK nw_31 _) rfl d_GV_companionsAmong_16 ?_
    refine g_iload hx hb d_GV_companionsAmong_19 rfl ?_
    refine g_callSi (nn := 2) ⟨hx, hb, hml.trans rfl, hown, hts⟩ (ct_GV_startIndex l D ad ct had _ _ _) (mk_S hts t_169 t_170 t_1 t_171 rfl rfl (by decide +kernel) ⟨Nat.le_of_ble_eq_true rfl, Nat.le_of_ble_eq_true rfl⟩) (fun _ h => h) (gK_ok D ct) hK (Nat.le_of_ble_eq_true rfl) ⟨Nat.zero_le _, Nat.zero_le _⟩ rfl rfl d_GV_companionsAmong_21 ?_
    rintro _ _ ⟨rfl, rfl⟩
    refine g_iald hx hb hK.1 w_4 0 rfl (show _ < 64 by omega) (by decide) rfl d_GV_companionsAmong_24 ?_
    refine g_istore (L' := [_, _, _, _, _, _]) hx hb d_GV_companionsAmong_25 (Nat.le_of_ble_eq_true rfl) rfl ?_
    refine g_iload_n hx hb d_GV_companionsAmong_27 rfl rfl ?_
    refine g_iload hx hb d_GV_companionsAmong_28 rfl ?_
    refine g_callSi (nn := 2) ⟨hx, hb, hml.trans rfl, hown, hts⟩ (ct_GV_has l D ad ct had _ _ _ (by omega) (by omega)) (mk_S hts t_140 t_141 t_1 t_142 rfl rfl (by decide +kernel) ⟨Nat.le_of_ble_eq_true rfl, Nat.le_of_ble_eq_true rfl⟩) (fun _ h => h) (gK_ok D ct) hK (Nat.le_of_ble_eq_true rfl) ⟨Nat.zero_le _, Nat.zero_le _⟩ rfl rfl d_GV_companionsAmong_30 ?_
    rintro _ _ ⟨rfl, rfl⟩
    refine n_if_eq (tgt := 63) hx hb d_GV_companionsAmong_33 (by decide) (by omega) (fun hbit => ?_) (fun hbit => ?_)
    · refine n_iinc (L' := [_, _, _, _, _, _]) hx hb d_GV_companionsAmong_63 rfl rfl ?_
      refine g_goto (tgt := 5) hx hb d_GV_companionsAmong_66 (by decide) ?_
      refine g_sub (L' := [_, _, _, _, _, none]) ⟨Or.inr rfl, Or.inr rfl, Or.inr rfl, Or.inr rfl, Or.inr rfl, Or.inl rfl, trivial⟩ ?_
      exact (show cco V a com (q + 1) = _ from by rw [cco, if_neg (fun z => by omega)]) ▸ ih_q (by omega) trivial
    · refine g_aload_n hx hb d_GV_companionsAmong_36 rfl rfl ?_
      refine g_get hx hb hts (in_mw in_GV) hown hK.1 w_0 rfl 0 (by decide) (hts _ (List.mem_cons_of_mem _ t_99)) rfl d_GV_companionsAmong_37 ?_
      refine g_iload hx hb d_GV_companionsAmong_40 rfl ?_
      refine g_aald hx hb hK.1 w_1 2 rfl hq (by decide) (fP hq) d_GV_companionsAmong_42 ?_
      refine g_getN hx hb hts (in_mw in_PS) hown hK.1 (w_P hq) rfl 13 (by decide) (nst_use hK nw_45 _) rfl d_GV_companionsAmong_43 ?_
      refine g_iload hx hb d_GV_companionsAmong_46 rfl ?_
      refine g_iald hx hb hK.1 (w_Pa (k := 5) hq (by decide) (by decide)) 0 rfl (show _ < 16 by omega) (by decide) rfl d_GV_companionsAmong_48 ?_
      refine g_aload_n hx hb d_GV_companionsAmong_49 rfl rfl ?_
      refine g_getN hx hb hts (in_mw in_PS) hown hK.1 (w_P ha) rfl 0 (by decide) (nst_use hK nw_24 _) rfl d_GV_companionsAmong_50 ?_
      refine n_icmp_ne (tgt := 63) hx hb d_GV_companionsAmong_53 (by decide) (by omega) (by omega) (fun hcv => ?_) (fun hcv => ?_)
      · refine n_iinc (L' := [_, _, _, _, _, _]) hx hb d_GV_companionsAmong_63 rfl rfl ?_
        refine g_goto (tgt := 5) hx hb d_GV_companionsAmong_66 (by decide) ?_
        refine g_sub (L' := [_, _, _, _, _, none]) ⟨Or.inr rfl, Or.inr rfl, Or.inr rfl, Or.inr rfl, Or.inr rfl, Or.inl rfl, trivial⟩ ?_
        exact (show cco V a com (q + 1) = _ from by rw [cco, if_neg (fun z => hcv z.2)]) ▸ ih_q (by omega) trivial
      · refine g_iload_n hx hb d_GV_companionsAmong_56 rfl rfl ?_
        refine g_iconst hx hb d_GV_companionsAmong_57 k_iconst_1 ?_
        refine g_iload hx hb d_GV_companionsAmong_58 rfl ?_
        refine n_ishl hx hb d_GV_companionsAmong_60 (by omega) (q_p32 (by omega)) ?_
        refine g_val (show nI (1 * 2 ^ q) = nI (2 ^ q) from congrArg nI (Nat.one_mul _)) ?_
        refine n_ior hx hb d_GV_companionsAmong_61 ?_
        refine g_istore_n (L' := [_, _, _, _, _, _]) hx hb d_GV_companionsAmong_62 rfl (Nat.le_of_ble_eq_true rfl) rfl ?_
        refine n_iinc (L' := [_, _, _, _, _, _]) hx hb d_GV_companionsAmong_63 rfl rfl ?_
        refine g_goto (tgt := 5) hx hb d_GV_companionsAmong_66 (by decide) ?_
        refine g_sub (L' := [_, _, _, _, _, none]) ⟨Or.inr rfl, Or.inr rfl, Or.inr rfl, Or.inr rfl, Or.inr rfl, Or.inl rfl, trivial⟩ ?_
        exact (show cco V a com (q + 1) = _ from by rw [cco, if_pos ⟨by omega, hcv⟩]) ▸ ih_q (by omega) trivial
set_option maxRecDepth 100000 in
set_option maxHeartbeats 4000000 in
theorem ct_GV_limitsOf (l : Launch) (D : va_G) (ad : Nat → Nat) (ct : Nat → ClassId) (had : adOk ad) (V : VV) (v cs : Nat) (hv : v < 16) (hcs : cs < 16) (hcb : CB V) : CTi l y_GV_limitsOf (mw y_GV_limitsOf c_GV_limitsOf 5 (some .int)) { frames := 2, cells := 0, slots := 0, locals := 55 } (gK D ct) D vcl (gA ad) [.ref (ad 0), .int (nI v), .int (nI cs)] (gw ad ct V) (fun r w => r = nI (cli V v cs 4) ∧ w = gw ad ct V) := by
  refine ct_i (by decide) rfl rfl (Nat.le_of_ble_eq_true rfl) ?_
  intro pg en sx mx blw mth cdx hx hb hr hts hown hlk hml hK
  refine g_L (L' := [_, _, _, _, _]) rfl ?_
  refine g_iconst hx hb d_GV_limitsOf_0 k_iconst_0 ?_
  refine g_istore_n (L' := [_, _, _, _, _]) hx hb d_GV_limitsOf_1 rfl (Nat.le_of_ble_eq_true rfl) rfl ?_
  refine g_iconst hx hb d_GV_limitsOf_2 k_iconst_0 ?_
  refine g_istore (L' := [_, _, _, _, _]) hx hb d_GV_limitsOf_3 (Nat.le_of_ble_eq_true rfl) rfl ?_
  refine g_loop 4 (fun q => gw ad ct V) (fun q => [some (.ref (ad 0)), some (.int (nI v)), some (.int (nI cs)), some (.int (nI (cli V v cs q))), some (.int (nI q))]) (fun q => True) 0 (by omega) trivial rfl rfl ?_
  intro q hq0_q hqE_q hI_q ih_q
  try dsimp only
  refine g_iload hx hb d_GV_limitsOf_5 rfl ?_
  refine g_iconst hx hb d_GV_limitsOf_7 k_iconst_4 ?_
  refine n_icmp_ge (tgt := 53) hx hb d_GV_limitsOf_8 (by decide) (by omega) (by omega) (fun hc1 => ?_) (fun hc1 => ?_)
  · have hq4 : q = 4 := by omega
    subst hq4
    refine g_iload_n hx hb d_GV_limitsOf_53 rfl rfl ?_
    exact g_iret hx hb hr hlk d_GV_limitsOf_54 (⟨rfl, rfl⟩)
  · have hq : q < 4 := by omega
    have hst := hcb.t (v * 4 + q) (by omega)
    refine g_iload_n hx hb d_GV_limitsOf_11 rfl rfl ?_
    refine g_iload hx hb d_GV_limitsOf_12 rfl ?_
    refine g_callSi (nn := 2) ⟨hx, hb, hml.trans rfl, hown, hts⟩ (ct_GV_has l D ad ct had _ _ _ (by omega) (by omega)) (mk_S hts t_140 t_141 t_1 t_142 rfl rfl (by decide +kernel) ⟨Nat.le_of_ble_eq_true rfl, Nat.le_of_ble_eq_true rfl⟩) (fun _ h => h) (gK_ok D ct) hK (Nat.le_of_ble_eq_true rfl) ⟨Nat.zero_le _, Nat.zero_le _⟩ rfl rfl d_GV_limitsOf_14 ?_
    rintro _ _ ⟨rfl, rfl⟩
    refine n_if_eq (tgt := 47) hx hb d_GV_limitsOf_17 (by decide) (by omega) (fun hbit => ?_) (fun hbit => ?_)
    · refine n_iinc (L' := [_, _, _, _, _]) hx hb d_GV_limitsOf_47 rfl rfl ?_
      refine g_goto (tgt := 5) hx hb d_GV_limitsOf_50 (by decide) ?_
      exact (show cli V v cs (q + 1) = _ from by rw [cli, if_neg (by omega)]) ▸ ih_q (by omega) trivial
    · refine g_iload_n hx hb d_GV_limitsOf_20 rfl rfl ?_
      refine g_aload_n hx hb d_GV_limitsOf_21 rfl rfl ?_
      refine g_get hx hb hts (in_mw in_GV) hown hK.1 w_0 rfl 0 (by decide) (hts _ (List.mem_cons_of_mem _ t_99)) rfl d_GV_limitsOf_22 ?_
      refine g_iload hx hb d_GV_limitsOf_25 rfl ?_
      refine g_aald hx hb hK.1 w_1 2 rfl hq (by decide) (fP hq) d_GV_limitsOf_27 ?_
      refine g_getN hx hb hts (in_mw in_PS) hown hK.1 (w_P hq) rfl 14 (by decide) (nst_use hK nw_47 _) rfl d_GV_limitsOf_28 ?_
      refine g_aload_n hx hb d_GV_limitsOf_31 rfl rfl ?_
      refine g_get hx hb hts (in_mw in_GV) hown hK.1 w_0 rfl 3 (by decide) (hts _ (List.mem_cons_of_mem _ t_102)) rfl d_GV_limitsOf_32 ?_
      refine g_iload_n hx hb d_GV_limitsOf_35 rfl rfl ?_
      refine g_iload hx hb d_GV_limitsOf_36 rfl ?_
      refine g_callSi (nn := 2) ⟨hx, hb, hml.trans rfl, hown, hts⟩ (ct_GV_startIndex l D ad ct had _ _ _) (mk_S hts t_169 t_170 t_1 t_171 rfl rfl (by decide +kernel) ⟨Nat.le_of_ble_eq_true rfl, Nat.le_of_ble_eq_true rfl⟩) (fun _ h => h) (gK_ok D ct) hK (Nat.le_of_ble_eq_true rfl) ⟨Nat.zero_le _, Nat.zero_le _⟩ rfl rfl d_GV_limitsOf_38 ?_
      rintro _ _ ⟨rfl, rfl⟩
      refine g_iald hx hb hK.1 w_4 0 rfl (show _ < 64 by omega) (by decide) rfl d_GV_limitsOf_41 ?_
      refine g_iald hx hb hK.1 (w_Pa (k := 6) hq (by decide) (by decide)) 0 rfl (show _ < 16 by omega) (by decide) rfl d_GV_limitsOf_42 ?_
      refine g_callSi (nn := 2) ⟨hx, hb, hml.trans rfl, hown, hts⟩ (ct_GV_greatestOfEach l D ad ct had _ _ _ (cli_pkd hcb hv q (by omega)) (hcb.cu q _ hq (by omega))) (mk_S hts t_241 t_242 t_1 t_243 rfl rfl (by decide +kernel) ⟨Nat.le_of_ble_eq_true rfl, Nat.le_of_ble_eq_true rfl⟩) (fun _ h => h) (gK_ok D ct) hK (Nat.le_of_ble_eq_true rfl) ⟨Nat.zero_le _, Nat.zero_le _⟩ rfl rfl d_GV_limitsOf_43 ?_
      rintro _ _ ⟨rfl, rfl⟩
      refine g_istore_n (L' := [_, _, _, _, _]) hx hb d_GV_limitsOf_46 rfl (Nat.le_of_ble_eq_true rfl) rfl ?_
      refine n_iinc (L' := [_, _, _, _, _]) hx hb d_GV_limitsOf_47 rfl rfl ?_
      refine g_goto (tgt := 5) hx hb d_GV_limitsOf_50 (by decide) ?_
      exact (show cli V v cs (q + 1) = _ from by rw [cli, if_pos (by omega)]) ▸ ih_q (by omega) trivial
