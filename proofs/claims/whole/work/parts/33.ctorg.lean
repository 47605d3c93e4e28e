theorem dv_PS : ∀ j, j < 16 → defaultValue (ty_PS j) = vp_V F_PS j := fun j hj => by
  match j, hj with
  | 0, _ => rfl
  | 1, _ => rfl
  | 2, _ => rfl
  | 3, _ => rfl
  | 4, _ => rfl
  | 5, _ => rfl
  | 6, _ => rfl
  | 7, _ => rfl
  | 8, _ => rfl
  | 9, _ => rfl
  | 10, _ => rfl
  | 11, _ => rfl
  | 12, _ => rfl
  | 13, _ => rfl
  | 14, _ => rfl
  | 15, _ => rfl
  | n + 16, h => exact absurd h (by omega)
theorem dv_LN : ∀ j, j < 3 → defaultValue (ty_LN j) = vp_V F_LN j := fun j hj => by
  match j, hj with
  | 0, _ => rfl
  | 1, _ => rfl
  | 2, _ => rfl
  | n + 3, h => exact absurd h (by omega)
theorem dv_GV : ∀ j, j < 5 → defaultValue (ty_GV j) = vp_V F_GV j := fun j hj => by
  match j, hj with
  | 0, _ => rfl
  | 1, _ => rfl
  | 2, _ => rfl
  | 3, _ => rfl
  | 4, _ => rfl
  | n + 5, h => exact absurd h (by omega)
theorem dv_MD : ∀ j, j < 23 → defaultValue (ty_MD j) = vp_V F_MD j := fun j hj => by
  match j, hj with
  | 0, _ => rfl
  | 1, _ => rfl
  | 2, _ => rfl
  | 3, _ => rfl
  | 4, _ => rfl
  | 5, _ => rfl
  | 6, _ => rfl
  | 7, _ => rfl
  | 8, _ => rfl
  | 9, _ => rfl
  | 10, _ => rfl
  | 11, _ => rfl
  | 12, _ => rfl
  | 13, _ => rfl
  | 14, _ => rfl
  | 15, _ => rfl
  | 16, _ => rfl
  | 17, _ => rfl
  | 18, _ => rfl
  | 19, _ => rfl
  | 20, _ => rfl
  | 21, _ => rfl
  | 22, _ => rfl
  | n + 23, h => exact absurd h (by omega)
set_option maxRecDepth 100000 in
set_option maxHeartbeats 4000000 in
theorem gv_l1 {pg : Program} {l : Launch} {e : Env} {s : State} {m : MethodId} {below : List Frame} {meth : Method} {c : Code} {D : va_G} {ct : Nat → ClassId} {q : Nat} {A : Nat → Prop} {Q : State → Prop} (hx : pg.tables.exec = Jvm.exec) (hb : c.code = c_GV_init) (hts : ∀ w ∈ mw y_GV_init c_GV_init 2 none, w.before #[Value.ref q] s = true) (hown : s.vm.findClass "GroupViews" = some m.cls) (hml : c.maxLocals = 2) (hK : gK D ct s) (hA : ∀ z, s.heap.size ≤ z → A z) (cont : ∀ ad, ad 0 = q → va_D A (gwn (5 + 8 * 4) 4 0 ad ct) → G pg l e { frames := 2, cells := 68, slots := 2340, locals := 40 } s m #[Value.ref q] below meth c D vcl A (4 + 8 * 4) (100 + 248 * 4) Q (gwn (5 + 8 * 4) 4 0 ad ct) [some (.ref q), some (.int (nI 4))] 39 []) : ∀ (k p : Nat) (ad : Nat → Nat), p + k = 4 → ad 0 = q → va_D A (gwn (5 + 8 * p) p 0 ad ct) → G pg l e { frames := 2, cells := 68, slots := 2340, locals := 40 } s m #[Value.ref q] below meth c D vcl A (4 + 8 * p) (100 + 248 * p) Q (gwn (5 + 8 * p) p 0 ad ct) [some (.ref q), some (.int (nI p))] 39 []
  | 0, p, ad, hp, h0, hD => by
    have e : p = 4 := by omega
    subst e
    exact cont ad h0 hD
  | k + 1, p, ad, hp, h0, hD => by
    have hp4 : p < 4 := by omega
    refine g_iload_n hx hb d_GV_init_39 rfl rfl ?_
    refine g_iconst hx hb d_GV_init_40 k_iconst_4 ?_
    refine n_icmp_ge (tgt := 63) hx hb d_GV_init_41 (by decide) (by omega) (by decide) (fun h => absurd h (by omega)) (fun _ => ?_)
    refine g_aload_n hx hb d_GV_init_44 rfl rfl ?_
    refine g_get hx hb hts (in_mw in_GV) hown hK.1 (show (gwn (5 + 8 * p) p 0 ad ct)[0]? = some (q, .inr (0, [.ref (ad 1), .ref (ad 2), .ref (ad 3), .ref (ad 4), .int (nI 0)])) by rw [gwn_at (by omega), h0]; rfl) rfl 0 (by decide) (hts _ (List.mem_cons_of_mem _ t_99)) rfl d_GV_init_45 ?_
    refine g_iload_n hx hb d_GV_init_48 rfl rfl ?_
    refine g_new (ci := 1) (fs := F_PS) hx hb hts (in_mw in_PS) ty_PS tyo_PS hown (hts _ (List.mem_cons_of_mem _ t_15)) (hts _ (List.mem_cons_of_mem _ t_19)) (hts _ (List.mem_cons_of_mem _ t_2)) hK.1 hD hA rfl (fun j hj => dv_PS j hj) (by show (4 + 8 * p) + 1 ≤ 68; omega) (by show (100 + 248 * p) + 16 ≤ 2340; omega) d_GV_init_49 (fun z hD => ?_)
    refine g_dup hx hb d_GV_init_52 rfl ?_
    refine g_callI (host := "GroupViews") ⟨hx, hb, hml.trans rfl, hown, hts⟩ (ct_PS_init l D ct z) (Or.inr (mk_IN hK hts nw_20 t_21 t_2 t_22 rfl rfl rfl (by decide +kernel) ⟨Nat.le_of_ble_eq_true rfl, Nat.le_of_ble_eq_true rfl⟩)) (gK_ok D ct) hK hD hA (Nat.le_of_ble_eq_true rfl) ⟨by show (4 + 8 * p) + 1 + 7 ≤ 68; omega, by show (100 + 248 * p) + 16 + 232 ≤ 2340; omega⟩ d_GV_init_53 (fun a hD => ?_)
    refine g_aast (q0 := 1) (qk := 5 + 8 * p) (ci := 1) (len := 4) (r := ("GroupViews$ProcessState", T_PS, 16)) hx hb hK.1 hD 2 (show _ = some (ad 1, _) from by rw [List.getElem?_append_left (by rw [gwn_len]; omega), gwn_at (by omega)]; rfl) rfl (show _ = some (z, _) from by rw [List.getElem?_append_right (by rw [gwn_len]; omega), gwn_len, Nat.sub_self]; rfl) rfl hp4 (by decide) d_GV_init_56 (extP hp4) (fun hD => ?_)
    refine n_iinc (L' := [_, _]) hx hb d_GV_init_57 rfl rfl ?_
    refine g_goto (tgt := 39) hx hb d_GV_init_60 (by decide) ?_
    refine g_widen (k' := (4 + 8 * (p + 1))) (n' := (100 + 248 * (p + 1))) (by omega) (by omega) ?_
    exact gv_l1 hx hb hts hown hml hK hA cont k (p + 1) _ (by omega) (by rw [adx_lt (by omega)]; exact h0) hD
set_option maxRecDepth 100000 in
set_option maxHeartbeats 4000000 in
theorem gv_l2 {pg : Program} {l : Launch} {e : Env} {s : State} {m : MethodId} {below : List Frame} {meth : Method} {c : Code} {D : va_G} {ct : Nat → ClassId} {q : Nat} {A : Nat → Prop} {Q : State → Prop} (hx : pg.tables.exec = Jvm.exec) (hb : c.code = c_GV_init) (hts : ∀ w ∈ mw y_GV_init c_GV_init 2 none, w.before #[Value.ref q] s = true) (hown : s.vm.findClass "GroupViews" = some m.cls) (hml : c.maxLocals = 2) (hK : gK D ct s) (hA : ∀ z, s.heap.size ≤ z → A z) (cont : ∀ ad, ad 0 = q → va_D A (gwn (37 + 2 * 16) 4 16 ad ct) → G pg l e { frames := 2, cells := 68, slots := 2340, locals := 40 } s m #[Value.ref q] below meth c D vcl A (36 + 2 * 16) (1092 + 78 * 16) Q (gwn (37 + 2 * 16) 4 16 ad ct) [some (.ref q), some (.int (nI 16))] 65 []) : ∀ (k p : Nat) (ad : Nat → Nat), p + k = 16 → ad 0 = q → va_D A (gwn (37 + 2 * p) 4 p ad ct) → G pg l e { frames := 2, cells := 68, slots := 2340, locals := 40 } s m #[Value.ref q] below meth c D vcl A (36 + 2 * p) (1092 + 78 * p) Q (gwn (37 + 2 * p) 4 p ad ct) [some (.ref q), some (.int (nI p))] 65 []
  | 0, p, ad, hp, h0, hD => by
    have e : p = 16 := by omega
    subst e
    exact cont ad h0 hD
  | k + 1, p, ad, hp, h0, hD => by
    have hp4 : p < 16 := by omega
    refine g_iload_n hx hb d_GV_init_65 rfl rfl ?_
    refine g_aload_n hx hb d_GV_init_66 rfl rfl ?_
    refine g_get hx hb hts (in_mw in_GV) hown hK.1 (show (gwn (37 + 2 * p) 4 p ad ct)[0]? = some (q, .inr (0, [.ref (ad 1), .ref (ad 2), .ref (ad 3), .ref (ad 4), .int (nI 0)])) by rw [gwn_at (by omega), h0]; rfl) rfl 1 (by decide) (hts _ (List.mem_cons_of_mem _ t_100)) rfl d_GV_init_67 ?_
    refine g_alen (len := 16) hx hb hK.1 (show (gwn (37 + 2 * p) 4 p ad ct)[2]? = some (ad 2, _) from gwn_at (by omega)) 3 rfl rfl d_GV_init_70 ?_
    refine n_icmp_ge (tgt := 93) hx hb d_GV_init_71 (by decide) (by omega) (by decide) (fun h => absurd h (by omega)) (fun _ => ?_)
    refine g_aload_n hx hb d_GV_init_74 rfl rfl ?_
    refine g_get hx hb hts (in_mw in_GV) hown hK.1 (show (gwn (37 + 2 * p) 4 p ad ct)[0]? = some (q, .inr (0, [.ref (ad 1), .ref (ad 2), .ref (ad 3), .ref (ad 4), .int (nI 0)])) by rw [gwn_at (by omega), h0]; rfl) rfl 1 (by decide) (hts _ (List.mem_cons_of_mem _ t_100)) rfl d_GV_init_75 ?_
    refine g_iload_n hx hb d_GV_init_78 rfl rfl ?_
    refine g_new (ci := 2) (fs := F_LN) hx hb hts (in_mw in_LN) ty_LN tyo_LN hown (hts _ (List.mem_cons_of_mem _ t_17)) (hts _ (List.mem_cons_of_mem _ t_84)) (hts _ (List.mem_cons_of_mem _ t_3)) hK.1 hD hA rfl (fun j hj => dv_LN j hj) (by show (36 + 2 * p) + 1 ≤ 68; omega) (by show (1092 + 78 * p) + 3 ≤ 2340; omega) d_GV_init_79 (fun z hD => ?_)
    refine g_dup hx hb d_GV_init_82 rfl ?_
    refine g_callI (host := "GroupViews") ⟨hx, hb, hml.trans rfl, hown, hts⟩ (ct_LN_init l D ct z) (Or.inr (mk_IN hK hts nw_85 t_86 t_3 t_87 rfl rfl rfl (by decide +kernel) ⟨Nat.le_of_ble_eq_true rfl, Nat.le_of_ble_eq_true rfl⟩)) (gK_ok D ct) hK hD hA (Nat.le_of_ble_eq_true rfl) ⟨by show (36 + 2 * p) + 1 + 1 ≤ 68; omega, by show (1092 + 78 * p) + 3 + 75 ≤ 2340; omega⟩ d_GV_init_83 (fun a hD => ?_)
    refine g_aast (q0 := 2) (qk := 37 + 2 * p) (ci := 2) (len := 16) (r := ("GroupViews$Line", T_LN, 3)) hx hb hK.1 hD 3 (show _ = some (ad 2, _) from by rw [List.getElem?_append_left (by rw [gwn_len]; omega), gwn_at (by omega)]; rfl) rfl (show _ = some (z, _) from by rw [List.getElem?_append_right (by rw [gwn_len]; omega), gwn_len, Nat.sub_self]; rfl) rfl hp4 (by decide) d_GV_init_86 (extL hp4) (fun hD => ?_)
    refine n_iinc (L' := [_, _]) hx hb d_GV_init_87 rfl rfl ?_
    refine g_goto (tgt := 65) hx hb d_GV_init_90 (by decide) ?_
    refine g_widen (k' := (36 + 2 * (p + 1))) (n' := (1092 + 78 * (p + 1))) (by omega) (by omega) ?_
    exact gv_l2 hx hb hts hown hml hK hA cont k (p + 1) _ (by omega) (by rw [adx_lt (by omega)]; exact h0) hD
theorem gv_start (ct : Nat → ClassId) (q q1 q2 q3 q4 : Nat) : ([(q, .inr (0, [.ref q1, .ref q2, .ref q3, .ref q4, .int (nI 0)])), (q1, .inl (ct 2, 4, .inr (.inr (.inr (.inr (fun _ => none)))))), (q2, .inl (ct 3, 16, .inr (.inr (.inr (.inr (fun _ => none)))))), (q3, za ct 0 16), (q4, za ct 0 64)] : va_W) = gwn (5 + 8 * 0) 0 0 (fun i => [q, q1, q2, q3, q4].getD i 0) ct := rfl
theorem gv_end (ct : Nat → ClassId) {q : Nat} (ad : Nat → Nat) (h0 : ad 0 = q) : gwn (37 + 2 * 16) 4 16 ad ct = GVB ct q ad := by
  unfold GVB
  have e : (fun c => if c = 0 then q else ad c) = ad := by
    funext c
    by_cases hc : c = 0
    · rw [if_pos hc, hc, h0]
    · rw [if_neg hc]
  rw [e]
set_option maxRecDepth 100000 in
set_option maxHeartbeats 4000000 in
theorem ct_GV_init (l : Launch) (D : va_G) (ct : Nat → ClassId) (q : Nat) : CTn l y_GV_init (mw y_GV_init c_GV_init 2 none) { frames := 2, cells := 68, slots := 2340, locals := 40 } (gK2 D ct) D vcl q (.inr (0, F_GV)) (fun a => GVB ct q a) 68 2340 := by
  refine ct_n (by decide) rfl (by decide) ?_
  intro pg en sx mx blw mth cdx hx hb hr hts hown hlk hml hK2 hnm hA hD
  have hK := hK2.1
  refine g_L (L' := [_, _]) rfl ?_
  refine g_aload_n hx hb d_GV_init_0 rfl rfl ?_
  refine g_obj hx hb hown (hts _ (List.mem_cons_of_mem _ t_12)) (hts _ (List.mem_cons_of_mem _ t_13)) (hts _ (List.mem_cons_of_mem _ t_14)) (hml.trans rfl) d_GV_init_1 (Nat.le_of_ble_eq_true rfl) (Nat.le_of_ble_eq_true rfl) ?_
  refine g_aload_n hx hb d_GV_init_4 rfl rfl ?_
  refine g_iconst hx hb d_GV_init_5 k_iconst_4 ?_
  refine g_newq hx hb hown (hts _ (List.mem_cons_of_mem _ t_15)) hK2.2.1 hK.1 2 rfl hD hA (by decide) (by decide) (Nat.le_of_ble_eq_true rfl) (Nat.le_of_ble_eq_true rfl) d_GV_init_6 (fun q1 hD => ?_)
  refine g_wd (w' := [(q, .inr (0, [.null, .null, .null, .null, .int (nI 0)])), (q1, .inl (ct 2, 4, .inr (.inr (.inr (.inr (fun _ => none))))))]) rfl hD (fun hD => ?_)
  refine g_putF (q0 := 0) (ty := .array (.object "GroupViews$ProcessState")) (w' := [(q, .inr (0, [.ref q1, .null, .null, .null, .int (nI 0)])), (q1, .inl (ct 2, 4, .inr (.inr (.inr (.inr (fun _ => none))))))]) hx hb hts (in_mw in_GV) ty_GV tyo_GV nm_GV hown hK.1 hD rfl rfl 0 (by decide) (hts _ (List.mem_cons_of_mem _ t_99)) rfl hnm rfl (by decide +kernel) rfl rfl (Nat.le_of_ble_eq_true rfl) d_GV_init_9 rfl (fun hD => ?_)
  refine g_aload_n hx hb d_GV_init_12 rfl rfl ?_
  refine g_bipush hx hb d_GV_init_13 k_bipush_16 ?_
  refine g_newq hx hb hown (hts _ (List.mem_cons_of_mem _ t_17)) hK2.2.2 hK.1 3 rfl hD hA (by decide) (by decide) (Nat.le_of_ble_eq_true rfl) (Nat.le_of_ble_eq_true rfl) d_GV_init_15 (fun q2 hD => ?_)
  refine g_wd (w' := [(q, .inr (0, [.ref q1, .null, .null, .null, .int (nI 0)])), (q1, .inl (ct 2, 4, .inr (.inr (.inr (.inr (fun _ => none)))))), (q2, .inl (ct 3, 16, .inr (.inr (.inr (.inr (fun _ => none))))))]) rfl hD (fun hD => ?_)
  refine g_putF (q0 := 0) (ty := .array (.object "GroupViews$Line")) (w' := [(q, .inr (0, [.ref q1, .ref q2, .null, .null, .int (nI 0)])), (q1, .inl (ct 2, 4, .inr (.inr (.inr (.inr (fun _ => none)))))), (q2, .inl (ct 3, 16, .inr (.inr (.inr (.inr (fun _ => none))))))]) hx hb hts (in_mw in_GV) ty_GV tyo_GV nm_GV hown hK.1 hD rfl rfl 1 (by decide) (hts _ (List.mem_cons_of_mem _ t_100)) rfl hnm rfl (by decide +kernel) rfl rfl (Nat.le_of_ble_eq_true rfl) d_GV_init_18 rfl (fun hD => ?_)
  refine g_aload_n hx hb d_GV_init_21 rfl rfl ?_
  refine g_bipush hx hb d_GV_init_22 k_bipush_16 ?_
  refine g_newa (atype := .int) (ty := .int) (a0 := (16, .inl (fun _ => nI 0))) hx hb (hts _ (List.mem_cons_of_mem _ t_83)) rfl hK.1 0 rfl hD hA (ha_i 16) (by decide) (hby_i (by decide)) (Nat.le_of_ble_eq_true rfl) (Nat.le_of_ble_eq_true rfl) d_GV_init_24 (fun q3 hD => ?_)
  refine g_wd (w' := [(q, .inr (0, [.ref q1, .ref q2, .null, .null, .int (nI 0)])), (q1, .inl (ct 2, 4, .inr (.inr (.inr (.inr (fun _ => none)))))), (q2, .inl (ct 3, 16, .inr (.inr (.inr (.inr (fun _ => none)))))), (q3, za ct 0 16)]) rfl hD (fun hD => ?_)
  refine g_putF (q0 := 0) (ty := .array .int) (w' := [(q, .inr (0, [.ref q1, .ref q2, .ref q3, .null, .int (nI 0)])), (q1, .inl (ct 2, 4, .inr (.inr (.inr (.inr (fun _ => none)))))), (q2, .inl (ct 3, 16, .inr (.inr (.inr (.inr (fun _ => none)))))), (q3, za ct 0 16)]) hx hb hts (in_mw in_GV) ty_GV tyo_GV nm_GV hown hK.1 hD rfl rfl 2 (by decide) (hts _ (List.mem_cons_of_mem _ t_101)) rfl hnm rfl (by decide +kernel) rfl rfl (Nat.le_of_ble_eq_true rfl) d_GV_init_26 rfl (fun hD => ?_)
  refine g_aload_n hx hb d_GV_init_29 rfl rfl ?_
  refine g_bipush hx hb d_GV_init_30 k_bipush_64 ?_
  refine g_newa (atype := .int) (ty := .int) (a0 := (64, .inl (fun _ => nI 0))) hx hb (hts _ (List.mem_cons_of_mem _ t_83)) rfl hK.1 0 rfl hD hA (ha_i 64) (by decide) (hby_i (by decide)) (Nat.le_of_ble_eq_true rfl) (Nat.le_of_ble_eq_true rfl) d_GV_init_32 (fun q4 hD => ?_)
  refine g_wd (w' := [(q, .inr (0, [.ref q1, .ref q2, .ref q3, .null, .int (nI 0)])), (q1, .inl (ct 2, 4, .inr (.inr (.inr (.inr (fun _ => none)))))), (q2, .inl (ct 3, 16, .inr (.inr (.inr (.inr (fun _ => none)))))), (q3, za ct 0 16), (q4, za ct 0 64)]) rfl hD (fun hD => ?_)
  refine g_putF (q0 := 0) (ty := .array .int) (w' := [(q, .inr (0, [.ref q1, .ref q2, .ref q3, .ref q4, .int (nI 0)])), (q1, .inl (ct 2, 4, .inr (.inr (.inr (.inr (fun _ => none)))))), (q2, .inl (ct 3, 16, .inr (.inr (.inr (.inr (fun _ => none)))))), (q3, za ct 0 16), (q4, za ct 0 64)]) hx hb hts (in_mw in_GV) ty_GV tyo_GV nm_GV hown hK.1 hD rfl rfl 3 (by decide) (hts _ (List.mem_cons_of_mem _ t_102)) rfl hnm rfl (by decide +kernel) rfl rfl (Nat.le_of_ble_eq_true rfl) d_GV_init_34 rfl (fun hD => ?_)
  refine g_iconst hx hb d_GV_init_37 k_iconst_0 ?_
  refine g_istore_n (L' := [_, _]) hx hb d_GV_init_38 rfl (Nat.le_of_ble_eq_true rfl) rfl ?_
  refine g_wd (w' := gwn (5 + 8 * 0) 0 0 (fun i => [q, q1, q2, q3, q4].getD i 0) ct) (gv_start ct q q1 q2 q3 q4) hD (fun hD => ?_)
  refine g_widen (k' := (4 + 8 * 0)) (n' := (100 + 248 * 0)) (by decide) (by decide) ?_
  refine gv_l1 hx hb hts hown hml hK hA (fun ad h0 hD => ?_) 4 0 _ rfl rfl hD
  refine g_iload_n hx hb d_GV_init_39 rfl rfl ?_
  refine g_iconst hx hb d_GV_init_40 k_iconst_4 ?_
  refine n_icmp_ge (tgt := 63) hx hb d_GV_init_41 (by decide) (by decide) (by decide) (fun _ => ?_) (fun h => absurd h (by decide))
  refine g_iconst hx hb d_GV_init_63 k_iconst_0 ?_
  refine g_istore_n (L' := [_, _]) hx hb d_GV_init_64 rfl (Nat.le_of_ble_eq_true rfl) rfl ?_
  refine g_wd (w' := gwn (37 + 2 * 0) 4 0 ad ct) rfl hD (fun hD => ?_)
  refine g_widen (k' := (36 + 2 * 0)) (n' := (1092 + 78 * 0)) (by decide) (by decide) ?_
  refine gv_l2 hx hb hts hown hml hK hA (fun ad h0 hD => ?_) 16 0 _ rfl h0 hD
  refine g_iload_n hx hb d_GV_init_65 rfl rfl ?_
  refine g_aload_n hx hb d_GV_init_66 rfl rfl ?_
  refine g_get hx hb hts (in_mw in_GV) hown hK.1 (show (gwn (37 + 2 * 16) 4 16 ad ct)[0]? = some (q, .inr (0, [.ref (ad 1), .ref (ad 2), .ref (ad 3), .ref (ad 4), .int (nI 0)])) by rw [gwn_at (by omega), h0]; rfl) rfl 1 (by decide) (hts _ (List.mem_cons_of_mem _ t_100)) rfl d_GV_init_67 ?_
  refine g_alen (len := 16) hx hb hK.1 (show (gwn (37 + 2 * 16) 4 16 ad ct)[2]? = some (ad 2, _) from gwn_at (by omega)) 3 rfl rfl d_GV_init_70 ?_
  refine n_icmp_ge (tgt := 93) hx hb d_GV_init_71 (by decide) (by decide) (by decide) (fun _ => ?_) (fun h => absurd h (by decide))
  refine g_widen (k' := 68) (n' := 2340) (by decide) (by decide) ?_
  exact g_nret (blk := fun a => GVB ct q a) (A1 := fun _ => True) hx hb hr hlk d_GV_init_93 ad (gv_end ct ad h0) hD
