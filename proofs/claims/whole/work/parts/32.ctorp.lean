set_option maxRecDepth 100000 in
set_option maxHeartbeats 4000000 in
theorem ct_PS_init (l : Launch) (D : va_G) (ct : Nat → ClassId) (q : Nat) : CTn l y_PS_init (mw y_PS_init c_PS_init 1 none) { frames := 1, cells := 7, slots := 232, locals := 20 } (gK D ct) D vcl q (.inr (1, F_PS)) (fun a => PSB ct q a) 7 232 := by
  refine ct_n (by decide) rfl (by decide) ?_
  intro pg en sx mx blw mth cdx hx hb hr hts hown hlk hml hK hnm hA hD
  refine g_L (L' := [_]) rfl ?_
  refine g_aload_n hx hb d_PS_init_0 rfl rfl ?_
  refine g_obj hx hb hown (hts _ (List.mem_cons_of_mem _ t_23)) (hts _ (List.mem_cons_of_mem _ t_13)) (hts _ (List.mem_cons_of_mem _ t_14)) (hml.trans rfl) d_PS_init_1 (Nat.le_of_ble_eq_true rfl) (Nat.le_of_ble_eq_true rfl) ?_
  refine g_aload_n hx hb d_PS_init_4 rfl rfl ?_
  refine g_bipush hx hb d_PS_init_5 k_bipush_64 ?_
  refine g_newa (atype := .int) (ty := .int) (a0 := (64, .inl (fun _ => nI 0))) hx hb (hts _ (List.mem_cons_of_mem _ t_83)) rfl hK.1 0 rfl hD hA (ha_i 64) (by decide) (hby_i (by decide)) (Nat.le_of_ble_eq_true rfl) (Nat.le_of_ble_eq_true rfl) d_PS_init_7 (fun q1 hD => ?_)
  refine g_wd (w' := [(q, .inr (1, [.int (nI 0), .int (nI 0), .int (nI 0), .int (nI 0), .int (nI 0), .int (nI 0), .int (nI 0), .int (nI 0), .int (nI 0), .null, .null, .null, .null, .null, .null, .null])), (q1, za ct 0 64)]) rfl hD (fun hD => ?_)
  refine g_putF (q0 := 0) (ty := .array .int) (w' := [(q, .inr (1, [.int (nI 0), .int (nI 0), .int (nI 0), .int (nI 0), .int (nI 0), .int (nI 0), .int (nI 0), .int (nI 0), .int (nI 0), .ref q1, .null, .null, .null, .null, .null, .null])), (q1, za ct 0 64)]) hx hb hts (in_mw in_PS) ty_PS tyo_PS nm_PS hown hK.1 hD rfl rfl 9 (by decide) (hts _ (List.mem_cons_of_mem _ t_38)) rfl hnm rfl (by decide +kernel) rfl rfl (Nat.le_of_ble_eq_true rfl) d_PS_init_9 rfl (fun hD => ?_)
  refine g_aload_n hx hb d_PS_init_12 rfl rfl ?_
  refine g_iconst hx hb d_PS_init_13 k_iconst_4 ?_
  refine g_newa (atype := .int) (ty := .int) (a0 := (4, .inl (fun _ => nI 0))) hx hb (hts _ (List.mem_cons_of_mem _ t_83)) rfl hK.1 0 rfl hD hA (ha_i 4) (by decide) (hby_i (by decide)) (Nat.le_of_ble_eq_true rfl) (Nat.le_of_ble_eq_true rfl) d_PS_init_14 (fun q2 hD => ?_)
  refine g_wd (w' := [(q, .inr (1, [.int (nI 0), .int (nI 0), .int (nI 0), .int (nI 0), .int (nI 0), .int (nI 0), .int (nI 0), .int (nI 0), .int (nI 0), .ref q1, .null, .null, .null, .null, .null, .null])), (q1, za ct 0 64), (q2, za ct 0 4)]) rfl hD (fun hD => ?_)
  refine g_putF (q0 := 0) (ty := .array .int) (w' := [(q, .inr (1, [.int (nI 0), .int (nI 0), .int (nI 0), .int (nI 0), .int (nI 0), .int (nI 0), .int (nI 0), .int (nI 0), .int (nI 0), .ref q1, .ref q2, .null, .null, .null, .null, .null])), (q1, za ct 0 64), (q2, za ct 0 4)]) hx hb hts (in_mw in_PS) ty_PS tyo_PS nm_PS hown hK.1 hD rfl rfl 10 (by decide) (hts _ (List.mem_cons_of_mem _ t_39)) rfl hnm rfl (by decide +kernel) rfl rfl (Nat.le_of_ble_eq_true rfl) d_PS_init_16 rfl (fun hD => ?_)
  refine g_aload_n hx hb d_PS_init_19 rfl rfl ?_
  refine g_bipush hx hb d_PS_init_20 k_bipush_64 ?_
  refine g_newa (atype := .int) (ty := .int) (a0 := (64, .inl (fun _ => nI 0))) hx hb (hts _ (List.mem_cons_of_mem _ t_83)) rfl hK.1 0 rfl hD hA (ha_i 64) (by decide) (hby_i (by decide)) (Nat.le_of_ble_eq_true rfl) (Nat.le_of_ble_eq_true rfl) d_PS_init_22 (fun q3 hD => ?_)
  refine g_wd (w' := [(q, .inr (1, [.int (nI 0), .int (nI 0), .int (nI 0), .int (nI 0), .int (nI 0), .int (nI 0), .int (nI 0), .int (nI 0), .int (nI 0), .ref q1, .ref q2, .null, .null, .null, .null, .null])), (q1, za ct 0 64), (q2, za ct 0 4), (q3, za ct 0 64)]) rfl hD (fun hD => ?_)
  refine g_putF (q0 := 0) (ty := .array .int) (w' := [(q, .inr (1, [.int (nI 0), .int (nI 0), .int (nI 0), .int (nI 0), .int (nI 0), .int (nI 0), .int (nI 0), .int (nI 0), .int (nI 0), .ref q1, .ref q2, .ref q3, .null, .null, .null, .null])), (q1, za ct 0 64), (q2, za ct 0 4), (q3, za ct 0 64)]) hx hb hts (in_mw in_PS) ty_PS tyo_PS nm_PS hown hK.1 hD rfl rfl 11 (by decide) (hts _ (List.mem_cons_of_mem _ t_40)) rfl hnm rfl (by decide +kernel) rfl rfl (Nat.le_of_ble_eq_true rfl) d_PS_init_24 rfl (fun hD => ?_)
  refine g_aload_n hx hb d_PS_init_27 rfl rfl ?_
  refine g_bipush hx hb d_PS_init_28 k_bipush_64 ?_
  refine g_newa (atype := .int) (ty := .int) (a0 := (64, .inl (fun _ => nI 0))) hx hb (hts _ (List.mem_cons_of_mem _ t_83)) rfl hK.1 0 rfl hD hA (ha_i 64) (by decide) (hby_i (by decide)) (Nat.le_of_ble_eq_true rfl) (Nat.le_of_ble_eq_true rfl) d_PS_init_30 (fun q4 hD => ?_)
  refine g_wd (w' := [(q, .inr (1, [.int (nI 0), .int (nI 0), .int (nI 0), .int (nI 0), .int (nI 0), .int (nI 0), .int (nI 0), .int (nI 0), .int (nI 0), .ref q1, .ref q2, .ref q3, .null, .null, .null, .null])), (q1, za ct 0 64), (q2, za ct 0 4), (q3, za ct 0 64), (q4, za ct 0 64)]) rfl hD (fun hD => ?_)
  refine g_putF (q0 := 0) (ty := .array .int) (w' := [(q, .inr (1, [.int (nI 0), .int (nI 0), .int (nI 0), .int (nI 0), .int (nI 0), .int (nI 0), .int (nI 0), .int (nI 0), .int (nI 0), .ref q1, .ref q2, .ref q3, .ref q4, .null, .null, .null])), (q1, za ct 0 64), (q2, za ct 0 4), (q3, za ct 0 64), (q4, za ct 0 64)]) hx hb hts (in_mw in_PS) ty_PS tyo_PS nm_PS hown hK.1 hD rfl rfl 12 (by decide) (hts _ (List.mem_cons_of_mem _ t_42)) rfl hnm rfl (by decide +kernel) rfl rfl (Nat.le_of_ble_eq_true rfl) d_PS_init_32 rfl (fun hD => ?_)
  refine g_aload_n hx hb d_PS_init_35 rfl rfl ?_
  refine g_bipush hx hb d_PS_init_36 k_bipush_16 ?_
  refine g_newa (atype := .int) (ty := .int) (a0 := (16, .inl (fun _ => nI 0))) hx hb (hts _ (List.mem_cons_of_mem _ t_83)) rfl hK.1 0 rfl hD hA (ha_i 16) (by decide) (hby_i (by decide)) (Nat.le_of_ble_eq_true rfl) (Nat.le_of_ble_eq_true rfl) d_PS_init_38 (fun q5 hD => ?_)
  refine g_wd (w' := [(q, .inr (1, [.int (nI 0), .int (nI 0), .int (nI 0), .int (nI 0), .int (nI 0), .int (nI 0), .int (nI 0), .int (nI 0), .int (nI 0), .ref q1, .ref q2, .ref q3, .ref q4, .null, .null, .null])), (q1, za ct 0 64), (q2, za ct 0 4), (q3, za ct 0 64), (q4, za ct 0 64), (q5, za ct 0 16)]) rfl hD (fun hD => ?_)
  refine g_putF (q0 := 0) (ty := .array .int) (w' := [(q, .inr (1, [.int (nI 0), .int (nI 0), .int (nI 0), .int (nI 0), .int (nI 0), .int (nI 0), .int (nI 0), .int (nI 0), .int (nI 0), .ref q1, .ref q2, .ref q3, .ref q4, .ref q5, .null, .null])), (q1, za ct 0 64), (q2, za ct 0 4), (q3, za ct 0 64), (q4, za ct 0 64), (q5, za ct 0 16)]) hx hb hts (in_mw in_PS) ty_PS tyo_PS nm_PS hown hK.1 hD rfl rfl 13 (by decide) (hts _ (List.mem_cons_of_mem _ t_44)) rfl hnm rfl (by decide +kernel) rfl rfl (Nat.le_of_ble_eq_true rfl) d_PS_init_40 rfl (fun hD => ?_)
  refine g_aload_n hx hb d_PS_init_43 rfl rfl ?_
  refine g_bipush hx hb d_PS_init_44 k_bipush_16 ?_
  refine g_newa (atype := .int) (ty := .int) (a0 := (16, .inl (fun _ => nI 0))) hx hb (hts _ (List.mem_cons_of_mem _ t_83)) rfl hK.1 0 rfl hD hA (ha_i 16) (by decide) (hby_i (by decide)) (Nat.le_of_ble_eq_true rfl) (Nat.le_of_ble_eq_true rfl) d_PS_init_46 (fun q6 hD => ?_)
  refine g_wd (w' := [(q, .inr (1, [.int (nI 0), .int (nI 0), .int (nI 0), .int (nI 0), .int (nI 0), .int (nI 0), .int (nI 0), .int (nI 0), .int (nI 0), .ref q1, .ref q2, .ref q3, .ref q4, .ref q5, .null, .null])), (q1, za ct 0 64), (q2, za ct 0 4), (q3, za ct 0 64), (q4, za ct 0 64), (q5, za ct 0 16), (q6, za ct 0 16)]) rfl hD (fun hD => ?_)
  refine g_putF (q0 := 0) (ty := .array .int) (w' := [(q, .inr (1, [.int (nI 0), .int (nI 0), .int (nI 0), .int (nI 0), .int (nI 0), .int (nI 0), .int (nI 0), .int (nI 0), .int (nI 0), .ref q1, .ref q2, .ref q3, .ref q4, .ref q5, .ref q6, .null])), (q1, za ct 0 64), (q2, za ct 0 4), (q3, za ct 0 64), (q4, za ct 0 64), (q5, za ct 0 16), (q6, za ct 0 16)]) hx hb hts (in_mw in_PS) ty_PS tyo_PS nm_PS hown hK.1 hD rfl rfl 14 (by decide) (hts _ (List.mem_cons_of_mem _ t_46)) rfl hnm rfl (by decide +kernel) rfl rfl (Nat.le_of_ble_eq_true rfl) d_PS_init_48 rfl (fun hD => ?_)
  refine g_aload_n hx hb d_PS_init_51 rfl rfl ?_
  refine g_iconst hx hb d_PS_init_52 k_iconst_4 ?_
  refine g_newa (atype := .int) (ty := .int) (a0 := (4, .inl (fun _ => nI 0))) hx hb (hts _ (List.mem_cons_of_mem _ t_83)) rfl hK.1 0 rfl hD hA (ha_i 4) (by decide) (hby_i (by decide)) (Nat.le_of_ble_eq_true rfl) (Nat.le_of_ble_eq_true rfl) d_PS_init_53 (fun q7 hD => ?_)
  refine g_wd (w' := [(q, .inr (1, [.int (nI 0), .int (nI 0), .int (nI 0), .int (nI 0), .int (nI 0), .int (nI 0), .int (nI 0), .int (nI 0), .int (nI 0), .ref q1, .ref q2, .ref q3, .ref q4, .ref q5, .ref q6, .null])), (q1, za ct 0 64), (q2, za ct 0 4), (q3, za ct 0 64), (q4, za ct 0 64), (q5, za ct 0 16), (q6, za ct 0 16), (q7, za ct 0 4)]) rfl hD (fun hD => ?_)
  refine g_putF (q0 := 0) (ty := .array .int) (w' := [(q, .inr (1, [.int (nI 0), .int (nI 0), .int (nI 0), .int (nI 0), .int (nI 0), .int (nI 0), .int (nI 0), .int (nI 0), .int (nI 0), .ref q1, .ref q2, .ref q3, .ref q4, .ref q5, .ref q6, .ref q7])), (q1, za ct 0 64), (q2, za ct 0 4), (q3, za ct 0 64), (q4, za ct 0 64), (q5, za ct 0 16), (q6, za ct 0 16), (q7, za ct 0 4)]) hx hb hts (in_mw in_PS) ty_PS tyo_PS nm_PS hown hK.1 hD rfl rfl 15 (by decide) (hts _ (List.mem_cons_of_mem _ t_48)) rfl hnm rfl (by decide +kernel) rfl rfl (Nat.le_of_ble_eq_true rfl) d_PS_init_55 rfl (fun hD => ?_)
  exact g_nret (blk := fun a => PSB ct q a) (A1 := fun _ => True) hx hb hr hlk d_PS_init_58 (fun i => [0, q1, q2, q3, q4, q5, q6, q7].getD i 0) rfl hD
set_option maxRecDepth 100000 in
set_option maxHeartbeats 4000000 in
theorem ct_LN_init (l : Launch) (D : va_G) (ct : Nat → ClassId) (q : Nat) : CTn l y_LN_init (mw y_LN_init c_LN_init 1 none) { frames := 1, cells := 1, slots := 75, locals := 20 } (gK D ct) D vcl q (.inr (2, F_LN)) (fun a => LNB ct q a) 1 75 := by
  refine ct_n (by decide) rfl (by decide) ?_
  intro pg en sx mx blw mth cdx hx hb hr hts hown hlk hml hK hnm hA hD
  refine g_L (L' := [_]) rfl ?_
  refine g_aload_n hx hb d_LN_init_0 rfl rfl ?_
  refine g_obj hx hb hown (hts _ (List.mem_cons_of_mem _ t_88)) (hts _ (List.mem_cons_of_mem _ t_13)) (hts _ (List.mem_cons_of_mem _ t_14)) (hml.trans rfl) d_LN_init_1 (Nat.le_of_ble_eq_true rfl) (Nat.le_of_ble_eq_true rfl) ?_
  refine g_aload_n hx hb d_LN_init_4 rfl rfl ?_
  refine g_bipush hx hb d_LN_init_5 k_bipush_75 ?_
  refine g_newa (atype := .int) (ty := .int) (a0 := (75, .inl (fun _ => nI 0))) hx hb (hts _ (List.mem_cons_of_mem _ t_83)) rfl hK.1 0 rfl hD hA (ha_i 75) (by decide) (hby_i (by decide)) (Nat.le_of_ble_eq_true rfl) (Nat.le_of_ble_eq_true rfl) d_LN_init_7 (fun q1 hD => ?_)
  refine g_wd (w' := [(q, .inr (2, [.null, .int (nI 0), .int (nI 0)])), (q1, za ct 0 75)]) rfl hD (fun hD => ?_)
  refine g_putF (q0 := 0) (ty := .array .int) (w' := [(q, .inr (2, [.ref q1, .int (nI 0), .int (nI 0)])), (q1, za ct 0 75)]) hx hb hts (in_mw in_LN) ty_LN tyo_LN nm_LN hown hK.1 hD rfl rfl 0 (by decide) (hts _ (List.mem_cons_of_mem _ t_89)) rfl hnm rfl (by decide +kernel) rfl rfl (Nat.le_of_ble_eq_true rfl) d_LN_init_9 rfl (fun hD => ?_)
  exact g_nret (blk := fun a => LNB ct q a) (A1 := fun _ => True) hx hb hr hlk d_LN_init_12 (fun i => [0, q1].getD i 0) rfl hD
