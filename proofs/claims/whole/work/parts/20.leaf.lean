theorem q_p32 {n : Nat} (h : n < 31) : 1 * 2 ^ n < 2 ^ 32 := by
  rw [Nat.one_mul]
  exact Nat.pow_lt_pow_right (by decide) (by omega)
theorem q_ge1 {n : Nat} (h : n < 2 ^ 32) (hc : ¬ nI n < nI 1) : 1 ≤ n ∧ n < 2 ^ 31 := by
  by_cases hn : n < 2 ^ 31
  · refine ⟨?_, hn⟩
    rcases Nat.eq_zero_or_pos n with z | z
    · subst z
      exact absurd (nI_lt (by decide) (by decide)) hc
    · exact z
  · exfalso
    apply hc
    have h1 := (q_lt0 h).mpr (by omega)
    have e1 := Int32.lt_iff_toInt_lt.mp h1
    have e2 : (nI 1).toInt = 1 := nI_toInt (n := 1) (by decide)
    rw [Int32.lt_iff_toInt_lt]
    have e0 : (0 : Int32).toInt = 0 := rfl
    omega
set_option maxRecDepth 100000 in
set_option maxHeartbeats 4000000 in
theorem ct_GV_isProcess (l : Launch) (D : va_G) (ad : Nat → Nat) (ct : Nat → ClassId) (had : adOk ad) (V : VV) (n : Nat) (h : n < 2 ^ 32) : CTi l y_GV_isProcess (mw y_GV_isProcess c_GV_isProcess 1 (some .boolean)) { frames := 0, cells := 0, slots := 0, locals := 0 } (gK D ct) D vcl (gA ad) [.int (nI n)] (gw ad ct V) (fun r w => r = nI (bN (n < 4)) ∧ w = gw ad ct V) := by
  refine ct_i (by decide) rfl rfl (Nat.le_of_ble_eq_true rfl) ?_
  intro pg en sx mx blw mth cdx hx hb hr hts hown hlk hml hK
  refine g_L (L' := [_]) rfl ?_
  refine g_iload_n hx hb d_GV_isProcess_0 rfl rfl ?_
  refine g_if_lt (tgt := 13) hx hb d_GV_isProcess_1 (by decide) (fun hc1 => ?_) (fun hc1 => ?_)
  · have hc1 := (q_lt0 h).mp hc1
    refine g_iconst hx hb d_GV_isProcess_13 k_iconst_0 ?_
    exact g_zret hx hb hr hlk (by decide +kernel) d_GV_isProcess_14 (⟨by first | rw [bN_t (by omega)] | rw [bN_f (by omega)], rfl⟩)
  · have hc1 : n < 2 ^ 31 := Nat.not_le.mp (fun z => hc1 ((q_lt0 h).mpr z))
    refine g_iload_n hx hb d_GV_isProcess_4 rfl rfl ?_
    refine g_iconst hx hb d_GV_isProcess_5 k_iconst_4 ?_
    refine n_icmp_ge (tgt := 13) hx hb d_GV_isProcess_6 (by decide) (by omega) (by omega) (fun hc2 => ?_) (fun hc2 => ?_)
    · refine g_iconst hx hb d_GV_isProcess_13 k_iconst_0 ?_
      exact g_zret hx hb hr hlk (by decide +kernel) d_GV_isProcess_14 (⟨by first | rw [bN_t (by omega)] | rw [bN_f (by omega)], rfl⟩)
    · refine g_iconst hx hb d_GV_isProcess_9 k_iconst_1 ?_
      refine g_goto (tgt := 14) hx hb d_GV_isProcess_10 (by decide) ?_
      exact g_zret hx hb hr hlk (by decide +kernel) d_GV_isProcess_14 (⟨by first | rw [bN_t (by omega)] | rw [bN_f (by omega)], rfl⟩)
set_option maxRecDepth 100000 in
set_option maxHeartbeats 4000000 in
theorem ct_GV_isLine (l : Launch) (D : va_G) (ad : Nat → Nat) (ct : Nat → ClassId) (had : adOk ad) (V : VV) (a b : Nat) (h1 : a < 2 ^ 32) (h2 : b < 2 ^ 32) : CTi l y_GV_isLine (mw y_GV_isLine c_GV_isLine 2 (some .boolean)) { frames := 1, cells := 0, slots := 0, locals := 20 } (gK D ct) D vcl (gA ad) [.int (nI a), .int (nI b)] (gw ad ct V) (fun r w => r = nI (bN (a < 4 ∧ b < 4 ∧ ¬ a = b)) ∧ w = gw ad ct V) := by
  refine ct_i (by decide) rfl rfl (Nat.le_of_ble_eq_true rfl) ?_
  intro pg en sx mx blw mth cdx hx hb hr hts hown hlk hml hK
  refine g_L (L' := [_, _]) rfl ?_
  refine g_iload_n hx hb d_GV_isLine_0 rfl rfl ?_
  refine g_callSi (nn := 1) ⟨hx, hb, hml.trans rfl, hown, hts⟩ (ct_GV_isProcess l D ad ct had _ _ (by omega)) (mk_S hts t_119 t_120 t_1 t_121 rfl rfl (by decide +kernel) ⟨Nat.le_of_ble_eq_true rfl, Nat.le_of_ble_eq_true rfl⟩) (fun _ h => h) (gK_ok D ct) hK (Nat.le_of_ble_eq_true rfl) ⟨Nat.zero_le _, Nat.zero_le _⟩ rfl rfl d_GV_isLine_1 ?_
  rintro _ _ ⟨rfl, rfl⟩
  refine n_if_eq (tgt := 23) hx hb d_GV_isLine_4 (by decide) bN_lt (fun hc1 => ?_) (fun hc1 => ?_)
  · have hc1 := bN_0.mp hc1
    refine g_iconst hx hb d_GV_isLine_23 k_iconst_0 ?_
    exact g_zret hx hb hr hlk (by decide +kernel) d_GV_isLine_24 (⟨by first | rw [bN_t (by omega)] | rw [bN_f (by omega)], rfl⟩)
  · have hc1 := bN_n0.mp hc1
    refine g_iload_n hx hb d_GV_isLine_7 rfl rfl ?_
    refine g_callSi (nn := 1) ⟨hx, hb, hml.trans rfl, hown, hts⟩ (ct_GV_isProcess l D ad ct had _ _ (by omega)) (mk_S hts t_119 t_120 t_1 t_121 rfl rfl (by decide +kernel) ⟨Nat.le_of_ble_eq_true rfl, Nat.le_of_ble_eq_true rfl⟩) (fun _ h => h) (gK_ok D ct) hK (Nat.le_of_ble_eq_true rfl) ⟨Nat.zero_le _, Nat.zero_le _⟩ rfl rfl d_GV_isLine_8 ?_
    rintro _ _ ⟨rfl, rfl⟩
    refine n_if_eq (tgt := 23) hx hb d_GV_isLine_11 (by decide) bN_lt (fun hc2 => ?_) (fun hc2 => ?_)
    · have hc2 := bN_0.mp hc2
      refine g_iconst hx hb d_GV_isLine_23 k_iconst_0 ?_
      exact g_zret hx hb hr hlk (by decide +kernel) d_GV_isLine_24 (⟨by first | rw [bN_t (by omega)] | rw [bN_f (by omega)], rfl⟩)
    · have hc2 := bN_n0.mp hc2
      refine g_iload_n hx hb d_GV_isLine_14 rfl rfl ?_
      refine g_iload_n hx hb d_GV_isLine_15 rfl rfl ?_
      refine n_icmp_eq (tgt := 23) hx hb d_GV_isLine_16 (by decide) (by omega) (by omega) (fun hc3 => ?_) (fun hc3 => ?_)
      · refine g_iconst hx hb d_GV_isLine_23 k_iconst_0 ?_
        exact g_zret hx hb hr hlk (by decide +kernel) d_GV_isLine_24 (⟨by first | rw [bN_t (by omega)] | rw [bN_f (by omega)], rfl⟩)
      · refine g_iconst hx hb d_GV_isLine_19 k_iconst_1 ?_
        refine g_goto (tgt := 24) hx hb d_GV_isLine_20 (by decide) ?_
        exact g_zret hx hb hr hlk (by decide +kernel) d_GV_isLine_24 (⟨by first | rw [bN_t (by omega)] | rw [bN_f (by omega)], rfl⟩)
set_option maxRecDepth 100000 in
set_option maxHeartbeats 4000000 in
theorem ct_GV_isNonEmptySet (l : Launch) (D : va_G) (ad : Nat → Nat) (ct : Nat → ClassId) (had : adOk ad) (V : VV) (n : Nat) (h : n < 2 ^ 32) : CTi l y_GV_isNonEmptySet (mw y_GV_isNonEmptySet c_GV_isNonEmptySet 1 (some .boolean)) { frames := 0, cells := 0, slots := 0, locals := 0 } (gK D ct) D vcl (gA ad) [.int (nI n)] (gw ad ct V) (fun r w => r = nI (bN (1 ≤ n ∧ n ≤ 15)) ∧ w = gw ad ct V) := by
  refine ct_i (by decide) rfl rfl (Nat.le_of_ble_eq_true rfl) ?_
  intro pg en sx mx blw mth cdx hx hb hr hts hown hlk hml hK
  refine g_L (L' := [_]) rfl ?_
  refine g_iload_n hx hb d_GV_isNonEmptySet_0 rfl rfl ?_
  refine g_iconst hx hb d_GV_isNonEmptySet_1 k_iconst_1 ?_
  refine g_icmp_lt (tgt := 15) hx hb d_GV_isNonEmptySet_2 (by decide) (fun hc1 => ?_) (fun hc1 => ?_)
  · have hc1 : ¬ (1 ≤ n ∧ n ≤ 15) := fun z => (nI_nlt z.1 (by omega)) hc1
    refine g_iconst hx hb d_GV_isNonEmptySet_15 k_iconst_0 ?_
    exact g_zret hx hb hr hlk (by decide +kernel) d_GV_isNonEmptySet_16 (⟨by first | rw [bN_t (by omega)] | rw [bN_f (by omega)], rfl⟩)
  · have hc1 : 1 ≤ n ∧ n < 2 ^ 31 := q_ge1 h hc1
    refine g_iload_n hx hb d_GV_isNonEmptySet_5 rfl rfl ?_
    refine g_bipush hx hb d_GV_isNonEmptySet_6 k_bipush_15 ?_
    refine n_icmp_gt (tgt := 15) hx hb d_GV_isNonEmptySet_8 (by decide) (by omega) (by omega) (fun hc2 => ?_) (fun hc2 => ?_)
    · refine g_iconst hx hb d_GV_isNonEmptySet_15 k_iconst_0 ?_
      exact g_zret hx hb hr hlk (by decide +kernel) d_GV_isNonEmptySet_16 (⟨by first | rw [bN_t (by omega)] | rw [bN_f (by omega)], rfl⟩)
    · refine g_iconst hx hb d_GV_isNonEmptySet_11 k_iconst_1 ?_
      refine g_goto (tgt := 16) hx hb d_GV_isNonEmptySet_12 (by decide) ?_
      exact g_zret hx hb hr hlk (by decide +kernel) d_GV_isNonEmptySet_16 (⟨by first | rw [bN_t (by omega)] | rw [bN_f (by omega)], rfl⟩)
set_option maxRecDepth 100000 in
set_option maxHeartbeats 4000000 in
theorem ct_GV_has (l : Launch) (D : va_G) (ad : Nat → Nat) (ct : Nat → ClassId) (had : adOk ad) (V : VV) (a p : Nat) (h1 : a < 2 ^ 31) (h2 : p < 32) : CTi l y_GV_has (mw y_GV_has c_GV_has 2 (some .boolean)) { frames := 0, cells := 0, slots := 0, locals := 0 } (gK D ct) D vcl (gA ad) [.int (nI a), .int (nI p)] (gw ad ct V) (fun r w => r = nI (a / 2 ^ p % 2) ∧ w = gw ad ct V) := by
  refine ct_i (by decide) rfl rfl (Nat.le_of_ble_eq_true rfl) ?_
  intro pg en sx mx blw mth cdx hx hb hr hts hown hlk hml hK
  refine g_L (L' := [_, _]) rfl ?_
  refine g_iload_n hx hb d_GV_has_0 rfl rfl ?_
  refine g_iload_n hx hb d_GV_has_1 rfl rfl ?_
  refine n_ishr hx hb d_GV_has_2 (by omega) (by omega) ?_
  refine g_iconst hx hb d_GV_has_3 k_iconst_1 ?_
  refine n_iand hx hb d_GV_has_4 ?_
  refine g_iconst hx hb d_GV_has_5 k_iconst_1 ?_
  refine g_val2 (show nI _ = nI (a / 2 ^ p % 2) from congrArg nI (Nat.and_one_is_mod _)) ?_
  refine n_icmp_ne (tgt := 13) hx hb d_GV_has_6 (by decide) (by omega) (by omega) (fun hc1 => ?_) (fun hc1 => ?_)
  · refine g_iconst hx hb d_GV_has_13 k_iconst_0 ?_
    exact g_zret hx hb hr hlk (by decide +kernel) d_GV_has_14 (⟨by congr 1; omega, rfl⟩)
  · refine g_iconst hx hb d_GV_has_9 k_iconst_1 ?_
    refine g_goto (tgt := 14) hx hb d_GV_has_10 (by decide) ?_
    exact g_zret hx hb hr hlk (by decide +kernel) d_GV_has_14 (⟨by congr 1; omega, rfl⟩)
set_option maxRecDepth 100000 in
set_option maxHeartbeats 4000000 in
theorem ct_GV_lineIndex (l : Launch) (D : va_G) (ad : Nat → Nat) (ct : Nat → ClassId) (had : adOk ad) (V : VV) (a b : Nat)  : CTi l y_GV_lineIndex (mw y_GV_lineIndex c_GV_lineIndex 2 (some .int)) { frames := 0, cells := 0, slots := 0, locals := 0 } (gK D ct) D vcl (gA ad) [.int (nI a), .int (nI b)] (gw ad ct V) (fun r w => r = nI (a * 4 + b) ∧ w = gw ad ct V) := by
  refine ct_i (by decide) rfl rfl (Nat.le_of_ble_eq_true rfl) ?_
  intro pg en sx mx blw mth cdx hx hb hr hts hown hlk hml hK
  refine g_L (L' := [_, _]) rfl ?_
  refine g_iload_n hx hb d_GV_lineIndex_0 rfl rfl ?_
  refine g_iconst hx hb d_GV_lineIndex_1 k_iconst_4 ?_
  refine n_imul hx hb d_GV_lineIndex_2 ?_
  refine g_iload_n hx hb d_GV_lineIndex_3 rfl rfl ?_
  refine n_iadd hx hb d_GV_lineIndex_4 ?_
  exact g_iret hx hb hr hlk d_GV_lineIndex_5 (⟨rfl, rfl⟩)
set_option maxRecDepth 100000 in
set_option maxHeartbeats 4000000 in
theorem ct_GV_startIndex (l : Launch) (D : va_G) (ad : Nat → Nat) (ct : Nat → ClassId) (had : adOk ad) (V : VV) (a b : Nat)  : CTi l y_GV_startIndex (mw y_GV_startIndex c_GV_startIndex 2 (some .int)) { frames := 0, cells := 0, slots := 0, locals := 0 } (gK D ct) D vcl (gA ad) [.int (nI a), .int (nI b)] (gw ad ct V) (fun r w => r = nI (a * 4 + b) ∧ w = gw ad ct V) := by
  refine ct_i (by decide) rfl rfl (Nat.le_of_ble_eq_true rfl) ?_
  intro pg en sx mx blw mth cdx hx hb hr hts hown hlk hml hK
  refine g_L (L' := [_, _]) rfl ?_
  refine g_iload_n hx hb d_GV_startIndex_0 rfl rfl ?_
  refine g_iconst hx hb d_GV_startIndex_1 k_iconst_4 ?_
  refine n_imul hx hb d_GV_startIndex_2 ?_
  refine g_iload_n hx hb d_GV_startIndex_3 rfl rfl ?_
  refine n_iadd hx hb d_GV_startIndex_4 ?_
  exact g_iret hx hb hr hlk d_GV_startIndex_5 (⟨rfl, rfl⟩)
set_option maxRecDepth 100000 in
set_option maxHeartbeats 4000000 in
theorem ct_GV_slotOf (l : Launch) (D : va_G) (ad : Nat → Nat) (ct : Nat → ClassId) (had : adOk ad) (V : VV) (a b : Nat) (h : 1 ≤ b) : CTi l y_GV_slotOf (mw y_GV_slotOf c_GV_slotOf 2 (some .int)) { frames := 0, cells := 0, slots := 0, locals := 0 } (gK D ct) D vcl (gA ad) [.int (nI a), .int (nI b)] (gw ad ct V) (fun r w => r = nI (a * 4 + b - 1) ∧ w = gw ad ct V) := by
  refine ct_i (by decide) rfl rfl (Nat.le_of_ble_eq_true rfl) ?_
  intro pg en sx mx blw mth cdx hx hb hr hts hown hlk hml hK
  refine g_L (L' := [_, _]) rfl ?_
  refine g_iload_n hx hb d_GV_slotOf_0 rfl rfl ?_
  refine g_iconst hx hb d_GV_slotOf_1 k_iconst_4 ?_
  refine n_imul hx hb d_GV_slotOf_2 ?_
  refine g_iload_n hx hb d_GV_slotOf_3 rfl rfl ?_
  refine n_iadd hx hb d_GV_slotOf_4 ?_
  refine g_iconst hx hb d_GV_slotOf_5 k_iconst_1 ?_
  refine n_isub hx hb d_GV_slotOf_6 (by omega) ?_
  exact g_iret hx hb hr hlk d_GV_slotOf_7 (⟨rfl, rfl⟩)
set_option maxRecDepth 100000 in
set_option maxHeartbeats 4000000 in
theorem ct_GV_viewOfSlot (l : Launch) (D : va_G) (ad : Nat → Nat) (ct : Nat → ClassId) (had : adOk ad) (V : VV) (a : Nat) (h : a < 2 ^ 31) : CTi l y_GV_viewOfSlot (mw y_GV_viewOfSlot c_GV_viewOfSlot 1 (some .int)) { frames := 0, cells := 0, slots := 0, locals := 0 } (gK D ct) D vcl (gA ad) [.int (nI a)] (gw ad ct V) (fun r w => r = nI (a / 4) ∧ w = gw ad ct V) := by
  refine ct_i (by decide) rfl rfl (Nat.le_of_ble_eq_true rfl) ?_
  intro pg en sx mx blw mth cdx hx hb hr hts hown hlk hml hK
  refine g_L (L' := [_]) rfl ?_
  refine g_iload_n hx hb d_GV_viewOfSlot_0 rfl rfl ?_
  refine g_iconst hx hb d_GV_viewOfSlot_1 k_iconst_4 ?_
  refine n_idiv hx hb d_GV_viewOfSlot_2 (by omega) (by decide) (by decide) ?_
  exact g_iret hx hb hr hlk d_GV_viewOfSlot_3 (⟨rfl, rfl⟩)
set_option maxRecDepth 100000 in
set_option maxHeartbeats 4000000 in
theorem ct_GV_numberOfSlot (l : Launch) (D : va_G) (ad : Nat → Nat) (ct : Nat → ClassId) (had : adOk ad) (V : VV) (a : Nat) (h : a < 2 ^ 31) : CTi l y_GV_numberOfSlot (mw y_GV_numberOfSlot c_GV_numberOfSlot 1 (some .int)) { frames := 0, cells := 0, slots := 0, locals := 0 } (gK D ct) D vcl (gA ad) [.int (nI a)] (gw ad ct V) (fun r w => r = nI (a % 4 + 1) ∧ w = gw ad ct V) := by
  refine ct_i (by decide) rfl rfl (Nat.le_of_ble_eq_true rfl) ?_
  intro pg en sx mx blw mth cdx hx hb hr hts hown hlk hml hK
  refine g_L (L' := [_]) rfl ?_
  refine g_iload_n hx hb d_GV_numberOfSlot_0 rfl rfl ?_
  refine g_iconst hx hb d_GV_numberOfSlot_1 k_iconst_4 ?_
  refine n_irem hx hb d_GV_numberOfSlot_2 (by omega) (by decide) (by decide) ?_
  refine g_iconst hx hb d_GV_numberOfSlot_3 k_iconst_1 ?_
  refine n_iadd hx hb d_GV_numberOfSlot_4 ?_
  exact g_iret hx hb hr hlk d_GV_numberOfSlot_5 (⟨rfl, rfl⟩)
set_option maxRecDepth 100000 in
set_option maxHeartbeats 4000000 in
theorem ct_GV_countOf (l : Launch) (D : va_G) (ad : Nat → Nat) (ct : Nat → ClassId) (had : adOk ad) (V : VV) (x r0 : Nat) (h1 : x < 2 ^ 31) (h2 : r0 < 4) : CTi l y_GV_countOf (mw y_GV_countOf c_GV_countOf 2 (some .int)) { frames := 0, cells := 0, slots := 0, locals := 0 } (gK D ct) D vcl (gA ad) [.int (nI x), .int (nI r0)] (gw ad ct V) (fun r w => r = nI (cnt x r0) ∧ w = gw ad ct V) := by
  refine ct_i (by decide) rfl rfl (Nat.le_of_ble_eq_true rfl) ?_
  intro pg en sx mx blw mth cdx hx hb hr hts hown hlk hml hK
  refine g_L (L' := [_, _]) rfl ?_
  refine g_iload_n hx hb d_GV_countOf_0 rfl rfl ?_
  refine g_iload_n hx hb d_GV_countOf_1 rfl rfl ?_
  refine g_bipush hx hb d_GV_countOf_2 k_bipush_8 ?_
  refine n_imul hx hb d_GV_countOf_4 ?_
  refine n_ishr hx hb d_GV_countOf_5 (by omega) (by omega) ?_
  refine g_sipush hx hb d_GV_countOf_6 k_sipush_255 ?_
  refine n_iand hx hb d_GV_countOf_9 ?_
  exact g_iret hx hb hr hlk d_GV_countOf_10 (⟨congrArg nI (Nat.and_two_pow_sub_one_eq_mod _ 8), rfl⟩)
set_option maxRecDepth 100000 in
set_option maxHeartbeats 4000000 in
theorem ct_GV_withCount (l : Launch) (D : va_G) (ad : Nat → Nat) (ct : Nat → ClassId) (had : adOk ad) (V : VV) (x p y : Nat) (h1 : pkd x) (h2 : p < 4) (h3 : y ≤ 4) : CTi l y_GV_withCount (mw y_GV_withCount c_GV_withCount 4 (some .int)) { frames := 0, cells := 0, slots := 0, locals := 0 } (gK D ct) D vcl (gA ad) [.int (nI x), .int (nI p), .int (nI y)] (gw ad ct V) (fun r w => r = nI (wc x p y) ∧ w = gw ad ct V) := by
  refine ct_i (by decide) rfl rfl (Nat.le_of_ble_eq_true rfl) ?_
  intro pg en sx mx blw mth cdx hx hb hr hts hown hlk hml hK
  refine g_L (L' := [_, _, _, _]) rfl ?_
  refine g_iload_n hx hb d_GV_withCount_0 rfl rfl ?_
  refine g_bipush hx hb d_GV_withCount_1 k_bipush_8 ?_
  refine n_imul hx hb d_GV_withCount_3 ?_
  refine g_istore_n (L' := [_, _, _, _]) hx hb d_GV_withCount_4 rfl (Nat.le_of_ble_eq_true rfl) rfl ?_
  refine g_iload_n hx hb d_GV_withCount_5 rfl rfl ?_
  refine g_sipush hx hb d_GV_withCount_6 k_sipush_255 ?_
  refine g_iload_n hx hb d_GV_withCount_9 rfl rfl ?_
  refine g_ishl hx hb d_GV_withCount_10 ?_
  refine g_iconst hx hb d_GV_withCount_11 k_iconst_m1 ?_
  refine g_ixor hx hb d_GV_withCount_12 ?_
  refine g_iand hx hb d_GV_withCount_13 ?_
  refine g_iload_n hx hb d_GV_withCount_14 rfl rfl ?_
  refine g_iload_n hx hb d_GV_withCount_15 rfl rfl ?_
  refine g_ishl hx hb d_GV_withCount_16 ?_
  refine g_ior hx hb d_GV_withCount_17 ?_
  exact g_iret hx hb hr hlk d_GV_withCount_18 (⟨wc_int h1 h2 h3, rfl⟩)
set_option maxRecDepth 100000 in
set_option maxHeartbeats 4000000 in
theorem ct_LN_put (l : Launch) (D : va_G) (ad : Nat → Nat) (ct : Nat → ClassId) (had : adOk ad) (V : VV) (i x : Nat) (hi : i < 16) (hE : V (37 + 2 * i) 2 ≤ 75) : CTv l y_LN_put (mw y_LN_put c_LN_put 2 none) { frames := 0, cells := 0, slots := 0, locals := 0 } (gK D ct) D vcl (gA ad) [.ref (ad (37 + 2 * i)), .int (nI x)] (gw ad ct V) (fun w => w = gw ad ct (cput V i x)) := by
  refine ct_v (by decide) rfl rfl (Nat.le_of_ble_eq_true rfl) ?_
  intro pg en sx mx blw mth cdx hx hb hr hts hown hlk hml hK
  refine g_L (L' := [_, _]) rfl ?_
  refine g_aload_n hx hb d_LN_put_0 rfl rfl ?_
  refine g_get hx hb hts (in_mw in_LN) hown hK.1 (w_L hi) rfl 2 (by decide) (hts _ (List.mem_cons_of_mem _ t_91)) rfl d_LN_put_1 ?_
  refine g_aload_n hx hb d_LN_put_4 rfl rfl ?_
  refine g_get hx hb hts (in_mw in_LN) hown hK.1 (w_L hi) rfl 0 (by decide) (hts _ (List.mem_cons_of_mem _ t_89)) rfl d_LN_put_5 ?_
  refine g_alen (len := 75) hx hb hK.1 (w_La hi) 0 rfl rfl d_LN_put_8 ?_
  refine n_icmp_ge (tgt := 32) hx hb d_LN_put_9 (by decide) (by omega) (by omega) (fun hc1 => ?_) (fun hc1 => ?_)
  · exact g_vret hx hb hr hlk d_LN_put_32 (by unfold cput; rw [if_neg (by omega)])
  · refine g_aload_n hx hb d_LN_put_12 rfl rfl ?_
    refine g_get hx hb hts (in_mw in_LN) hown hK.1 (w_L hi) rfl 0 (by decide) (hts _ (List.mem_cons_of_mem _ t_89)) rfl d_LN_put_13 ?_
    refine g_aload_n hx hb d_LN_put_16 rfl rfl ?_
    refine g_get hx hb hts (in_mw in_LN) hown hK.1 (w_L hi) rfl 2 (by decide) (hts _ (List.mem_cons_of_mem _ t_91)) rfl d_LN_put_17 ?_
    refine g_iload_n hx hb d_LN_put_20 rfl rfl ?_
    refine g_iast hx hb hK.1 (gw_D had) (w_La hi) 0 rfl (show _ < 75 by omega) (by decide) d_LN_put_21 (s_La hi _ _) ?_
    refine g_aload_n hx hb d_LN_put_22 rfl rfl ?_
    refine g_dup hx hb d_LN_put_23 rfl ?_
    refine g_get hx hb hts (in_mw in_LN) hown hK.1 (w_L hi) rfl 2 (by decide) (hts _ (List.mem_cons_of_mem _ t_91)) rfl d_LN_put_24 ?_
    refine g_val (show nI _ = nI (V (37 + 2 * i) 2) from congrArg nI (by simp (disch := omega) only [pt_eq, pt_ne, pt_nk])) ?_
    refine g_iconst hx hb d_LN_put_27 k_iconst_1 ?_
    refine n_iadd hx hb d_LN_put_28 ?_
    refine g_put (ty := .int) hx hb hts (in_mw in_LN) ty_LN tyo_LN nm_LN hown hK.1 (gw_D had) (w_L hi) rfl 2 (by decide) (hts _ (List.mem_cons_of_mem _ t_91)) rfl (by decide +kernel) rfl rfl (Nat.le_of_ble_eq_true rfl) d_LN_put_29 (s_L hi 2 _ (by decide) (by decide)) ?_
    exact g_vret hx hb hr hlk d_LN_put_32 (by unfold cput; rw [if_pos (by omega)])
set_option maxRecDepth 100000 in
set_option maxHeartbeats 4000000 in
theorem ct_LN_takeFirst (l : Launch) (D : va_G) (ad : Nat → Nat) (ct : Nat → ClassId) (had : adOk ad) (V : VV) (i : Nat) (hi : i < 16) (hF : V (37 + 2 * i) 1 ≤ 75) (hE : V (37 + 2 * i) 2 ≤ 75) : CTi l y_LN_takeFirst (mw y_LN_takeFirst c_LN_takeFirst 2 (some .int)) { frames := 0, cells := 0, slots := 0, locals := 0 } (gK D ct) D vcl (gA ad) [.ref (ad (37 + 2 * i))] (gw ad ct V) (fun r w => (V (37 + 2 * i) 2 ≤ V (37 + 2 * i) 1 ∧ r = -1 ∧ w = gw ad ct V) ∨ (V (37 + 2 * i) 1 < V (37 + 2 * i) 2 ∧ r = nI (V (37 + 2 * i + 1) (V (37 + 2 * i) 1)) ∧ w = gw ad ct (pt V (37 + 2 * i) 1 (V (37 + 2 * i) 1 + 1)))) := by
  refine ct_i (by decide) rfl rfl (Nat.le_of_ble_eq_true rfl) ?_
  intro pg en sx mx blw mth cdx hx hb hr hts hown hlk hml hK
  refine g_L (L' := [_, _]) rfl ?_
  refine g_aload_n hx hb d_LN_takeFirst_0 rfl rfl ?_
  refine g_get hx hb hts (in_mw in_LN) hown hK.1 (w_L hi) rfl 1 (by decide) (hts _ (List.mem_cons_of_mem _ t_90)) rfl d_LN_takeFirst_1 ?_
  refine g_aload_n hx hb d_LN_takeFirst_4 rfl rfl ?_
  refine g_get hx hb hts (in_mw in_LN) hown hK.1 (w_L hi) rfl 2 (by decide) (hts _ (List.mem_cons_of_mem _ t_91)) rfl d_LN_takeFirst_5 ?_
  refine n_icmp_lt (tgt := 13) hx hb d_LN_takeFirst_8 (by decide) (by omega) (by omega) (fun hc1 => ?_) (fun hc1 => ?_)
  · refine g_aload_n hx hb d_LN_takeFirst_13 rfl rfl ?_
    refine g_get hx hb hts (in_mw in_LN) hown hK.1 (w_L hi) rfl 0 (by decide) (hts _ (List.mem_cons_of_mem _ t_89)) rfl d_LN_takeFirst_14 ?_
    refine g_aload_n hx hb d_LN_takeFirst_17 rfl rfl ?_
    refine g_get hx hb hts (in_mw in_LN) hown hK.1 (w_L hi) rfl 1 (by decide) (hts _ (List.mem_cons_of_mem _ t_90)) rfl d_LN_takeFirst_18 ?_
    refine g_iald hx hb hK.1 (w_La hi) 0 rfl (show _ < 75 by omega) (by decide) rfl d_LN_takeFirst_21 ?_
    refine g_istore_n (L' := [_, _]) hx hb d_LN_takeFirst_22 rfl (Nat.le_of_ble_eq_true rfl) rfl ?_
    refine g_aload_n hx hb d_LN_takeFirst_23 rfl rfl ?_
    refine g_dup hx hb d_LN_takeFirst_24 rfl ?_
    refine g_get hx hb hts (in_mw in_LN) hown hK.1 (w_L hi) rfl 1 (by decide) (hts _ (List.mem_cons_of_mem _ t_90)) rfl d_LN_takeFirst_25 ?_
    refine g_iconst hx hb d_LN_takeFirst_28 k_iconst_1 ?_
    refine n_iadd hx hb d_LN_takeFirst_29 ?_
    refine g_put (ty := .int) hx hb hts (in_mw in_LN) ty_LN tyo_LN nm_LN hown hK.1 (gw_D had) (w_L hi) rfl 1 (by decide) (hts _ (List.mem_cons_of_mem _ t_90)) rfl (by decide +kernel) rfl rfl (Nat.le_of_ble_eq_true rfl) d_LN_takeFirst_30 (s_L hi 1 _ (by decide) (by decide)) ?_
    refine g_iload_n hx hb d_LN_takeFirst_33 rfl rfl ?_
    exact g_iret hx hb hr hlk d_LN_takeFirst_34 (Or.inr ⟨by omega, rfl, rfl⟩)
  · refine g_iconst hx hb d_LN_takeFirst_11 k_iconst_m1 ?_
    exact g_iret hx hb hr hlk d_LN_takeFirst_12 (Or.inl ⟨by omega, rfl, rfl⟩)
set_option maxRecDepth 100000 in
set_option maxHeartbeats 4000000 in
theorem ct_LN_length (l : Launch) (D : va_G) (ad : Nat → Nat) (ct : Nat → ClassId) (had : adOk ad) (V : VV) (i : Nat) (hi : i < 16) (hF : V (37 + 2 * i) 1 ≤ V (37 + 2 * i) 2) : CTi l y_LN_length (mw y_LN_length c_LN_length 1 (some .int)) { frames := 0, cells := 0, slots := 0, locals := 0 } (gK D ct) D vcl (gA ad) [.ref (ad (37 + 2 * i))] (gw ad ct V) (fun r w => r = nI (V (37 + 2 * i) 2 - V (37 + 2 * i) 1) ∧ w = gw ad ct V) := by
  refine ct_i (by decide) rfl rfl (Nat.le_of_ble_eq_true rfl) ?_
  intro pg en sx mx blw mth cdx hx hb hr hts hown hlk hml hK
  refine g_L (L' := [_]) rfl ?_
  refine g_aload_n hx hb d_LN_length_0 rfl rfl ?_
  refine g_get hx hb hts (in_mw in_LN) hown hK.1 (w_L hi) rfl 2 (by decide) (hts _ (List.mem_cons_of_mem _ t_91)) rfl d_LN_length_1 ?_
  refine g_aload_n hx hb d_LN_length_4 rfl rfl ?_
  refine g_get hx hb hts (in_mw in_LN) hown hK.1 (w_L hi) rfl 1 (by decide) (hts _ (List.mem_cons_of_mem _ t_90)) rfl d_LN_length_5 ?_
  refine n_isub hx hb d_LN_length_8 (by omega) ?_
  exact g_iret hx hb hr hlk d_LN_length_9 (⟨rfl, rfl⟩)
set_option maxRecDepth 100000 in
set_option maxHeartbeats 4000000 in
theorem ct_PS_learnMessage (l : Launch) (D : va_G) (ad : Nat → Nat) (ct : Nat → ClassId) (had : adOk ad) (V : VV) (a v r n : Nat) (ha : a < 4) (hv : v * 4 + r < 64) (hn : n < 31) : CTv l y_PS_learnMessage (mw y_PS_learnMessage c_PS_learnMessage 4 none) { frames := 0, cells := 0, slots := 0, locals := 0 } (gK D ct) D vcl (gA ad) [.ref (ad (5 + 8 * a)), .int (nI v), .int (nI r), .int (nI n)] (gw ad ct V) (fun w => w = gw ad ct (cln V a v r n)) := by
  refine ct_v (by decide) rfl rfl (Nat.le_of_ble_eq_true rfl) ?_
  intro pg en sx mx blw mth cdx hx hb hr hts hown hlk hml hK
  refine g_L (L' := [_, _, _, _]) rfl ?_
  refine g_aload_n hx hb d_PS_learnMessage_0 rfl rfl ?_
  refine g_get hx hb hts (in_mw in_PS) hown hK.1 (w_P ha) rfl 9 (by decide) (hts _ (List.mem_cons_of_mem _ t_38)) rfl d_PS_learnMessage_1 ?_
  refine g_iload_n hx hb d_PS_learnMessage_4 rfl rfl ?_
  refine g_iconst hx hb d_PS_learnMessage_5 k_iconst_4 ?_
  refine n_imul hx hb d_PS_learnMessage_6 ?_
  refine g_iload_n hx hb d_PS_learnMessage_7 rfl rfl ?_
  refine n_iadd hx hb d_PS_learnMessage_8 ?_
  refine g_dup2 hx hb d_PS_learnMessage_9 rfl rfl ?_
  refine g_iald hx hb hK.1 (w_Pa (k := 1) ha (by decide) (by decide)) 0 rfl (show _ < 64 by omega) (by decide) rfl d_PS_learnMessage_10 ?_
  refine g_iconst hx hb d_PS_learnMessage_11 k_iconst_1 ?_
  refine g_iload_n hx hb d_PS_learnMessage_12 rfl rfl ?_
  refine n_ishl hx hb d_PS_learnMessage_13 (by omega) (q_p32 hn) ?_
  refine g_val (show nI (1 * 2 ^ n) = nI (2 ^ n) from congrArg nI (Nat.one_mul _)) ?_
  refine n_ior hx hb d_PS_learnMessage_14 ?_
  refine g_iast hx hb hK.1 (gw_D had) (w_Pa (k := 1) ha (by decide) (by decide)) 0 rfl (show _ < 64 by omega) (by decide) d_PS_learnMessage_15 (s_Pa (k := 1) ha (by decide) (by decide) _ _) ?_
  exact g_vret hx hb hr hlk d_PS_learnMessage_16 (rfl)
set_option maxRecDepth 100000 in
set_option maxHeartbeats 4000000 in
theorem ct_PS_knowsMessage (l : Launch) (D : va_G) (ad : Nat → Nat) (ct : Nat → ClassId) (had : adOk ad) (V : VV) (a r n : Nat) (ha : a < 4) (hv : V (5 + 8 * a) 0 * 4 + r < 64) (hn : n < 32) (hx : V (5 + 8 * a + 1) (V (5 + 8 * a) 0 * 4 + r) < 2 ^ 31) : CTi l y_PS_knowsMessage (mw y_PS_knowsMessage c_PS_knowsMessage 3 (some .boolean)) { frames := 0, cells := 0, slots := 0, locals := 0 } (gK D ct) D vcl (gA ad) [.ref (ad (5 + 8 * a)), .int (nI r), .int (nI n)] (gw ad ct V) (fun r0 w => r0 = nI (V (5 + 8 * a + 1) (V (5 + 8 * a) 0 * 4 + r) / 2 ^ n % 2) ∧ w = gw ad ct V) := by
  refine ct_i (by decide) rfl rfl (Nat.le_of_ble_eq_true rfl) ?_
  intro pg en sx mx blw mth cdx hx hb hr hts hown hlk hml hK
  refine g_L (L' := [_, _, _]) rfl ?_
  refine g_aload_n hx hb d_PS_knowsMessage_0 rfl rfl ?_
  refine g_get hx hb hts (in_mw in_PS) hown hK.1 (w_P ha) rfl 9 (by decide) (hts _ (List.mem_cons_of_mem _ t_38)) rfl d_PS_knowsMessage_1 ?_
  refine g_aload_n hx hb d_PS_knowsMessage_4 rfl rfl ?_
  refine g_get hx hb hts (in_mw in_PS) hown hK.1 (w_P ha) rfl 0 (by decide) (hts _ (List.mem_cons_of_mem _ t_25)) rfl d_PS_knowsMessage_5 ?_
  refine g_iconst hx hb d_PS_knowsMessage_8 k_iconst_4 ?_
  refine n_imul hx hb d_PS_knowsMessage_9 ?_
  refine g_iload_n hx hb d_PS_knowsMessage_10 rfl rfl ?_
  refine n_iadd hx hb d_PS_knowsMessage_11 ?_
  refine g_iald hx hb hK.1 (w_Pa (k := 1) ha (by decide) (by decide)) 0 rfl (show _ < 64 by omega) (by decide) rfl d_PS_knowsMessage_12 ?_
  refine g_iload_n hx hb d_PS_knowsMessage_13 rfl rfl ?_
  refine n_ishr hx hb d_PS_knowsMessage_14 (by omega) (by omega) ?_
  refine g_iconst hx hb d_PS_knowsMessage_15 k_iconst_1 ?_
  refine n_iand hx hb d_PS_knowsMessage_16 ?_
  refine g_val (show nI _ = nI (V (5 + 8 * a + 1) (V (5 + 8 * a) 0 * 4 + r) / 2 ^ n % 2) from congrArg nI (Nat.and_one_is_mod _)) ?_
  refine g_iconst hx hb d_PS_knowsMessage_17 k_iconst_1 ?_
  refine n_icmp_ne (tgt := 25) hx hb d_PS_knowsMessage_18 (by decide) (by omega) (by omega) (fun hc1 => ?_) (fun hc1 => ?_)
  · refine g_iconst hx hb d_PS_knowsMessage_25 k_iconst_0 ?_
    exact g_zret hx hb hr hlk (by decide +kernel) d_PS_knowsMessage_26 (⟨by congr 1; omega, rfl⟩)
  · refine g_iconst hx hb d_PS_knowsMessage_21 k_iconst_1 ?_
    refine g_goto (tgt := 26) hx hb d_PS_knowsMessage_22 (by decide) ?_
    exact g_zret hx hb hr hlk (by decide +kernel) d_PS_knowsMessage_26 (⟨by congr 1; omega, rfl⟩)
set_option maxRecDepth 100000 in
set_option maxHeartbeats 4000000 in
theorem ct_PS_learnSync (l : Launch) (D : va_G) (ad : Nat → Nat) (ct : Nat → ClassId) (had : adOk ad) (V : VV) (a r n : Nat) (ha : a < 4) (hv : r < 4) (hn : n < 31) : CTv l y_PS_learnSync (mw y_PS_learnSync c_PS_learnSync 3 none) { frames := 0, cells := 0, slots := 0, locals := 0 } (gK D ct) D vcl (gA ad) [.ref (ad (5 + 8 * a)), .int (nI r), .int (nI n)] (gw ad ct V) (fun w => w = gw ad ct (csy V a r n)) := by
  refine ct_v (by decide) rfl rfl (Nat.le_of_ble_eq_true rfl) ?_
  intro pg en sx mx blw mth cdx hx hb hr hts hown hlk hml hK
  refine g_L (L' := [_, _, _]) rfl ?_
  refine g_aload_n hx hb d_PS_learnSync_0 rfl rfl ?_
  refine g_get hx hb hts (in_mw in_PS) hown hK.1 (w_P ha) rfl 10 (by decide) (hts _ (List.mem_cons_of_mem _ t_39)) rfl d_PS_learnSync_1 ?_
  refine g_iload_n hx hb d_PS_learnSync_4 rfl rfl ?_
  refine g_dup2 hx hb d_PS_learnSync_5 rfl rfl ?_
  refine g_iald hx hb hK.1 (w_Pa (k := 2) ha (by decide) (by decide)) 0 rfl (show _ < 4 by omega) (by decide) rfl d_PS_learnSync_6 ?_
  refine g_iconst hx hb d_PS_learnSync_7 k_iconst_1 ?_
  refine g_iload_n hx hb d_PS_learnSync_8 rfl rfl ?_
  refine n_ishl hx hb d_PS_learnSync_9 (by omega) (q_p32 hn) ?_
  refine g_val (show nI (1 * 2 ^ n) = nI (2 ^ n) from congrArg nI (Nat.one_mul _)) ?_
  refine n_ior hx hb d_PS_learnSync_10 ?_
  refine g_iast hx hb hK.1 (gw_D had) (w_Pa (k := 2) ha (by decide) (by decide)) 0 rfl (show _ < 4 by omega) (by decide) d_PS_learnSync_11 (s_Pa (k := 2) ha (by decide) (by decide) _ _) ?_
  exact g_vret hx hb hr hlk d_PS_learnSync_12 (rfl)
set_option maxRecDepth 100000 in
set_option maxHeartbeats 4000000 in
theorem ct_PS_knowsSync (l : Launch) (D : va_G) (ad : Nat → Nat) (ct : Nat → ClassId) (had : adOk ad) (V : VV) (a r n : Nat) (ha : a < 4) (hv : r < 4) (hn : n < 32) (hx : V (5 + 8 * a + 2) r < 2 ^ 31) : CTi l y_PS_knowsSync (mw y_PS_knowsSync c_PS_knowsSync 3 (some .boolean)) { frames := 0, cells := 0, slots := 0, locals := 0 } (gK D ct) D vcl (gA ad) [.ref (ad (5 + 8 * a)), .int (nI r), .int (nI n)] (gw ad ct V) (fun r0 w => r0 = nI (V (5 + 8 * a + 2) r / 2 ^ n % 2) ∧ w = gw ad ct V) := by
  refine ct_i (by decide) rfl rfl (Nat.le_of_ble_eq_true rfl) ?_
  intro pg en sx mx blw mth cdx hx hb hr hts hown hlk hml hK
  refine g_L (L' := [_, _, _]) rfl ?_
  refine g_aload_n hx hb d_PS_knowsSync_0 rfl rfl ?_
  refine g_get hx hb hts (in_mw in_PS) hown hK.1 (w_P ha) rfl 10 (by decide) (hts _ (List.mem_cons_of_mem _ t_39)) rfl d_PS_knowsSync_1 ?_
  refine g_iload_n hx hb d_PS_knowsSync_4 rfl rfl ?_
  refine g_iald hx hb hK.1 (w_Pa (k := 2) ha (by decide) (by decide)) 0 rfl (show _ < 4 by omega) (by decide) rfl d_PS_knowsSync_5 ?_
  refine g_iload_n hx hb d_PS_knowsSync_6 rfl rfl ?_
  refine n_ishr hx hb d_PS_knowsSync_7 (by omega) (by omega) ?_
  refine g_iconst hx hb d_PS_knowsSync_8 k_iconst_1 ?_
  refine n_iand hx hb d_PS_knowsSync_9 ?_
  refine g_val (show nI _ = nI (V (5 + 8 * a + 2) r / 2 ^ n % 2) from congrArg nI (Nat.and_one_is_mod _)) ?_
  refine g_iconst hx hb d_PS_knowsSync_10 k_iconst_1 ?_
  refine n_icmp_ne (tgt := 18) hx hb d_PS_knowsSync_11 (by decide) (by omega) (by omega) (fun hc1 => ?_) (fun hc1 => ?_)
  · refine g_iconst hx hb d_PS_knowsSync_18 k_iconst_0 ?_
    exact g_zret hx hb hr hlk (by decide +kernel) d_PS_knowsSync_19 (⟨by congr 1; omega, rfl⟩)
  · refine g_iconst hx hb d_PS_knowsSync_14 k_iconst_1 ?_
    refine g_goto (tgt := 19) hx hb d_PS_knowsSync_15 (by decide) ?_
    exact g_zret hx hb hr hlk (by decide +kernel) d_PS_knowsSync_19 (⟨by congr 1; omega, rfl⟩)
set_option maxRecDepth 100000 in
set_option maxHeartbeats 4000000 in
theorem ct_PS_setEvent (l : Launch) (D : va_G) (ad : Nat → Nat) (ct : Nat → ClassId) (had : adOk ad) (V : VV) (a x y z u : Nat) (ha : a < 4) : CTv l y_PS_setEvent (mw y_PS_setEvent c_PS_setEvent 5 none) { frames := 0, cells := 0, slots := 0, locals := 0 } (gK D ct) D vcl (gA ad) [.ref (ad (5 + 8 * a)), .int (nI x), .int (nI y), .int (nI z), .int (nI u)] (gw ad ct V) (fun w => w = gw ad ct (cev V a x y z u)) := by
  refine ct_v (by decide) rfl rfl (Nat.le_of_ble_eq_true rfl) ?_
  intro pg en sx mx blw mth cdx hx hb hr hts hown hlk hml hK
  refine g_L (L' := [_, _, _, _, _]) rfl ?_
  refine g_aload_n hx hb d_PS_setEvent_0 rfl rfl ?_
  refine g_get hx hb hts (in_mw in_PS) hown hK.1 (w_P ha) rfl 15 (by decide) (hts _ (List.mem_cons_of_mem _ t_48)) rfl d_PS_setEvent_1 ?_
  refine g_iconst hx hb d_PS_setEvent_4 k_iconst_0 ?_
  refine g_iload_n hx hb d_PS_setEvent_5 rfl rfl ?_
  refine g_iast hx hb hK.1 (gw_D had) (w_Pa (k := 7) ha (by decide) (by decide)) 0 rfl (show _ < 4 by omega) (by decide) d_PS_setEvent_6 (s_Pa (k := 7) ha (by decide) (by decide) _ _) ?_
  refine g_aload_n hx hb d_PS_setEvent_7 rfl rfl ?_
  refine g_get hx hb hts (in_mw in_PS) hown hK.1 (w_P ha) rfl 15 (by decide) (hts _ (List.mem_cons_of_mem _ t_48)) rfl d_PS_setEvent_8 ?_
  refine g_iconst hx hb d_PS_setEvent_11 k_iconst_1 ?_
  refine g_iload_n hx hb d_PS_setEvent_12 rfl rfl ?_
  refine g_iast hx hb hK.1 (gw_D had) (w_Pa (k := 7) ha (by decide) (by decide)) 0 rfl (show _ < 4 by omega) (by decide) d_PS_setEvent_13 (s_Pa (k := 7) ha (by decide) (by decide) _ _) ?_
  refine g_aload_n hx hb d_PS_setEvent_14 rfl rfl ?_
  refine g_get hx hb hts (in_mw in_PS) hown hK.1 (w_P ha) rfl 15 (by decide) (hts _ (List.mem_cons_of_mem _ t_48)) rfl d_PS_setEvent_15 ?_
  refine g_iconst hx hb d_PS_setEvent_18 k_iconst_2 ?_
  refine g_iload_n hx hb d_PS_setEvent_19 rfl rfl ?_
  refine g_iast hx hb hK.1 (gw_D had) (w_Pa (k := 7) ha (by decide) (by decide)) 0 rfl (show _ < 4 by omega) (by decide) d_PS_setEvent_20 (s_Pa (k := 7) ha (by decide) (by decide) _ _) ?_
  refine g_aload_n hx hb d_PS_setEvent_21 rfl rfl ?_
  refine g_get hx hb hts (in_mw in_PS) hown hK.1 (w_P ha) rfl 15 (by decide) (hts _ (List.mem_cons_of_mem _ t_48)) rfl d_PS_setEvent_22 ?_
  refine g_iconst hx hb d_PS_setEvent_25 k_iconst_3 ?_
  refine g_iload hx hb d_PS_setEvent_26 rfl ?_
  refine g_iast hx hb hK.1 (gw_D had) (w_Pa (k := 7) ha (by decide) (by decide)) 0 rfl (show _ < 4 by omega) (by decide) d_PS_setEvent_28 (s_Pa (k := 7) ha (by decide) (by decide) _ _) ?_
  exact g_vret hx hb hr hlk d_PS_setEvent_29 (rfl)
set_option maxRecDepth 100000 in
set_option maxHeartbeats 4000000 in
theorem ct_PS_enterPending (l : Launch) (D : va_G) (ad : Nat → Nat) (ct : Nat → ClassId) (had : adOk ad) (V : VV) (a : Nat) (ha : a < 4) : CTv l y_PS_enterPending (mw y_PS_enterPending c_PS_enterPending 1 none) { frames := 0, cells := 0, slots := 0, locals := 0 } (gK D ct) D vcl (gA ad) [.ref (ad (5 + 8 * a))] (gw ad ct V) (fun w => w = gw ad ct (cen V a)) := by
  refine ct_v (by decide) rfl rfl (Nat.le_of_ble_eq_true rfl) ?_
  intro pg en sx mx blw mth cdx hx hb hr hts hown hlk hml hK
  refine g_L (L' := [_]) rfl ?_
  refine g_aload_n hx hb d_PS_enterPending_0 rfl rfl ?_
  refine g_aload_n hx hb d_PS_enterPending_1 rfl rfl ?_
  refine g_get hx hb hts (in_mw in_PS) hown hK.1 (w_P ha) rfl 5 (by decide) (hts _ (List.mem_cons_of_mem _ t_32)) rfl d_PS_enterPending_2 ?_
  refine g_put (ty := .int) hx hb hts (in_mw in_PS) ty_PS tyo_PS nm_PS hown hK.1 (gw_D had) (w_P ha) rfl 0 (by decide) (hts _ (List.mem_cons_of_mem _ t_25)) rfl (by decide +kernel) rfl rfl (Nat.le_of_ble_eq_true rfl) d_PS_enterPending_5 (s_P ha 0 _ (by decide)) ?_
  refine g_aload_n hx hb d_PS_enterPending_8 rfl rfl ?_
  refine g_iconst hx hb d_PS_enterPending_9 k_iconst_0 ?_
  refine g_put (ty := .int) hx hb hts (in_mw in_PS) ty_PS tyo_PS nm_PS hown hK.1 (gw_D had) (w_P ha) rfl 5 (by decide) (hts _ (List.mem_cons_of_mem _ t_32)) rfl (by decide +kernel) rfl rfl (Nat.le_of_ble_eq_true rfl) d_PS_enterPending_10 (s_P ha 5 _ (by decide)) ?_
  refine g_aload_n hx hb d_PS_enterPending_13 rfl rfl ?_
  refine g_iconst hx hb d_PS_enterPending_14 k_iconst_0 ?_
  refine g_put (ty := .boolean) hx hb hts (in_mw in_PS) ty_PS tyo_PS nm_PS hown hK.1 (gw_D had) (w_P ha) rfl 4 (by decide) (hts _ (List.mem_cons_of_mem _ t_30)) rfl (by decide +kernel) (by decide +kernel) rfl (Nat.le_of_ble_eq_true rfl) d_PS_enterPending_15 (s_P ha 4 _ (by decide)) ?_
  refine g_aload_n hx hb d_PS_enterPending_18 rfl rfl ?_
  refine g_iconst hx hb d_PS_enterPending_19 k_iconst_0 ?_
  refine g_put (ty := .int) hx hb hts (in_mw in_PS) ty_PS tyo_PS nm_PS hown hK.1 (gw_D had) (w_P ha) rfl 7 (by decide) (hts _ (List.mem_cons_of_mem _ t_35)) rfl (by decide +kernel) rfl rfl (Nat.le_of_ble_eq_true rfl) d_PS_enterPending_20 (s_P ha 7 _ (by decide)) ?_
  refine g_aload_n hx hb d_PS_enterPending_23 rfl rfl ?_
  refine g_iconst hx hb d_PS_enterPending_24 k_iconst_0 ?_
  refine g_put (ty := .int) hx hb hts (in_mw in_PS) ty_PS tyo_PS nm_PS hown hK.1 (gw_D had) (w_P ha) rfl 8 (by decide) (hts _ (List.mem_cons_of_mem _ t_37)) rfl (by decide +kernel) rfl rfl (Nat.le_of_ble_eq_true rfl) d_PS_enterPending_25 (s_P ha 8 _ (by decide)) ?_
  exact g_vret hx hb hr hlk d_PS_enterPending_28 (rfl)
