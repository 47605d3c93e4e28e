theorem nst_of {w : Cond} (h : isNst w = true) {A : Array Value} {U : State} (hb : w.before A U = true) : va_Nw w U := by
  cases w <;> first | exact va_Nw.of rfl hb | (simp [isNst] at h; done)
def cs4 (a b c d : ClassId) : Nat → ClassId := fun k => match k with
  | 0 => a
  | 1 => b
  | 2 => c
  | _ => d
def is4 (a b c d : Nat → Nat) : Nat → Nat → Nat := fun k => match k with
  | 0 => a
  | 1 => b
  | 2 => c
  | _ => d
theorem law_K {args : Array Value} {s : State} (hts : ∀ w ∈ lw_tbl, w.before args s = true) : ∃ (D : va_G) (ct : Nat → ClassId), gK2 D ct s := by
  obtain ⟨c0, i0, k0⟩ := u_known (C := "GroupViews") (T := T_GV) (N := 5) (n := 5) hts (fun w hw => (List.mem_filter.mp (in_GV w hw)).1) (hts _ (List.mem_filter.mp t_8).1)
  obtain ⟨c1, i1, k1⟩ := u_known (C := "GroupViews$ProcessState") (T := T_PS) (N := 16) (n := 16) hts (fun w hw => (List.mem_filter.mp (in_PS w hw)).1) (hts _ (List.mem_filter.mp t_19).1)
  obtain ⟨c2, i2, k2⟩ := u_known (C := "GroupViews$Line") (T := T_LN) (N := 3) (n := 3) hts (fun w hw => (List.mem_filter.mp (in_LN w hw)).1) (hts _ (List.mem_filter.mp t_84).1)
  obtain ⟨c3, i3, k3⟩ := u_known (C := "GroupViewsModel") (T := T_MD) (N := 23) (n := 23) hts (fun w hw => (List.mem_filter.mp (in_MD w hw)).1) (hts _ (List.mem_filter.mp t_310).1)
  obtain ⟨a0, ka0, m0, f1, f2, f3⟩ := Cond.arrayClass_spec (hts (Cond.arrayClass .int) (List.mem_filter.mp t_83).1)
  obtain ⟨a1, ka1, m1, g1, g2, g3⟩ := Cond.arrayClass_spec (hts (Cond.arrayClass .boolean) (List.mem_filter.mp t_385).1)
  obtain ⟨m2, a2, ka2, h1, -, h3, h4, h5⟩ := Cond.arrayOver_spec (hts _ tx_16)
  obtain ⟨m3, a3, ka3, j1, -, j3, j4, j5⟩ := Cond.arrayOver_spec (hts _ tx_18)
  refine ⟨(cs4 c0 c1 c2 c3, is4 i0 i1 i2 i3), cs4 a0 a1 a2 a3, ⟨⟨⟨fun c q hq => ?_, fun k q hk => ?_⟩, fun w hw => nst_of (tblN_nst w hw) (hts w (tblN_in w hw))⟩, hts _ tx_16, hts _ tx_18⟩⟩
  · match c, hq with
    | 0, hq => cases hq; exact k0
    | 1, hq => cases hq; exact k1
    | 2, hq => cases hq; exact k2
    | 3, hq => cases hq; exact k3
    | n + 4, hq => simp at hq
  · match k, hk with
    | 0, hk => cases hk; exact ⟨fun n z => ⟨fun k h => (by cases h), ka0, f2, m0, f3⟩, f1⟩
    | 1, hk => cases hk; exact ⟨fun n z => ⟨fun k h => (by cases h), ka1, g2, m1, g3⟩, g1⟩
    | 2, hk => cases hk; exact ⟨fun n z => ⟨fun k h => (by cases h), ka2, h3, m2, h4⟩, ka2, m2, h3, h4, h1, h5⟩
    | 3, hk => cases hk; exact ⟨fun n z => ⟨fun k h => (by cases h), ka3, j3, m3, j4⟩, ka3, m3, j3, j4, j1, j5⟩
    | n + 4, hk => simp at hk
def mad (q : Nat) (a : Nat → Nat) (q2 : Nat) (a2 : Nat → Nat) : Nat → Nat := fun c => if c < 69 then (if c = 0 then q else a c) else (if c = 69 then q2 else a2 (c - 69))
theorem kd_69 {f f' : Nat → Nat} {ct : Nat → ClassId} {g : Nat → Nat} (h : ∀ c, 70 ≤ c → f c = f' c) : kd f ct 69 g = kd f' ct 69 g := by
  show Sum.inr (3, _) = Sum.inr (3, _)
  rw [h 70 (by decide), h 71 (by decide), h 72 (by decide), h 73 (by decide), h 74 (by decide), h 75 (by decide), h 76 (by decide), h 77 (by decide), h 78 (by decide), h 79 (by decide), h 80 (by decide), h 81 (by decide), h 82 (by decide), h 83 (by decide), h 84 (by decide), h 85 (by decide), h 86 (by decide), h 87 (by decide), h 88 (by decide), h 89 (by decide), h 90 (by decide)]
theorem merge (ct : Nat → ClassId) (q : Nat) (a : Nat → Nat) (q2 : Nat) (a2 : Nat → Nat) : ([] : va_W) ++ GVB ct q a ++ MDB ct q2 a2 = gw (mad q a q2 a2) ct (fun _ _ => 0) := by
  have hm : ∀ c, c < 69 → (fun c => if c = 0 then q else a c) c = mad q a q2 a2 c := fun c hc => by
    unfold mad
    rw [if_pos hc]
  have lG : (([] : va_W) ++ GVB ct q a).length = 69 := by rw [List.nil_append]; exact gwn_len
  have lM : (MDB ct q2 a2).length = 22 := by simp [MDB]
  apply List.ext_getElem?
  intro i
  by_cases hi : i < 91
  · rw [gw_at hi]
    by_cases h69 : i < 69
    · rw [List.getElem?_append_left (by rw [lG]; exact h69), List.nil_append]
      unfold GVB
      have hmi : (if i = 0 then q else a i) = mad q a q2 a2 i := hm i h69
      rw [gwn_at h69]
      show some (if i = 0 then q else a i, _) = _
      rw [hmi]
      by_cases h1 : i = 1
      · subst h1
        show some (_, Sum.inl _) = some (_, Sum.inl _)
        congr 9
        funext j
        by_cases hj : j < 4
        · rw [if_pos hj, if_pos hj]
          exact congrArg some (hm _ (by omega))
        · rw [if_neg hj, if_neg hj]
      · by_cases h2 : i = 2
        · subst h2
          show some (_, Sum.inl _) = some (_, Sum.inl _)
          congr 9
          funext j
          by_cases hj : j < 16
          · rw [if_pos hj, if_pos hj]
            exact congrArg some (hm _ (by omega))
          · rw [if_neg hj, if_neg hj]
        · rw [kn_ne h1 h2, kd_congr (N := 69) (ad' := mad q a q2 a2) hm (Or.inr ⟨16, Nat.le_refl _, rfl⟩) h69 h1 h2]
    · obtain ⟨j, hj⟩ : ∃ j, i = 69 + j := ⟨i - 69, by omega⟩
      subst hj
      rw [List.getElem?_append_right (by rw [lG]; omega), lG, Nat.add_sub_cancel_left]
      have hj22 : j < 22 := by omega
      have e : (MDB ct q2 a2)[j]? = some (if j = 0 then q2 else a2 j, kd (fun c' => a2 (c' - 69)) ct (69 + j) (fun _ => 0)) := by simp [MDB, hj22]
      rw [e]
      have em : mad q a q2 a2 (69 + j) = if j = 0 then q2 else a2 j := by
        unfold mad
        rw [if_neg (by omega)]
        by_cases h0 : j = 0
        · rw [if_pos h0, if_pos (by omega)]
        · rw [if_neg h0, if_neg (by omega), Nat.add_sub_cancel_left]
      rw [em]
      by_cases h0 : j = 0
      · subst h0
        rw [Nat.add_zero, kd_69 (f' := mad q a q2 a2) (fun c hc => by unfold mad; rw [if_neg (by omega), if_neg (by omega)])]
      · rw [kd_Ma (by omega), kd_Ma (by omega)]
  · rw [List.getElem?_eq_none (by rw [List.length_append, lG, lM]; omega), List.getElem?_eq_none (by rw [gw_len]; omega)]
theorem rel_0 : Rel (fun _ _ => 0) (fun _ _ => 0) := by
  have c0 : ∀ r, cnt 0 r = 0 := fun r => by unfold cnt; rw [Nat.zero_div]
  refine ⟨fun p hp => ⟨rfl, rfl, rfl, rfl, rfl, rfl, rfl, rfl, pkd_0, fun r hr => c0 r⟩, ⟨rfl, fun v hv => rfl, fun v p hv hp => rfl⟩, fun p v r hp hv hr => ⟨Nat.zero_lt_succ _, rfl, fun n hn => by rw [Nat.zero_div]⟩, fun p r hp hr => ⟨Nat.zero_lt_succ _, fun c hc => by rw [Nat.zero_div]⟩, fun p v n hp hv hn => ⟨rfl, pkd_0, fun r hr => c0 r⟩, fun p c hp hc => ⟨rfl, pkd_0, fun r hr => c0 r⟩, fun p i hp hi => rfl, fun p q hp hq => ⟨Nat.le_refl _, Nat.zero_le _, rfl, fun k h1 h2 => absurd h2 (Nat.not_lt_zero k)⟩, ?_⟩
  refine ⟨fun p hp => ⟨Nat.le_refl _, Nat.zero_le _, Nat.zero_lt_succ _, Nat.zero_le _, Nat.zero_le _, Nat.le_refl _, Nat.zero_le _, Nat.zero_le _, Nat.le_refl _, Or.inl rfl⟩, Nat.zero_le _, fun i => Nat.zero_le _, fun i => Nat.zero_lt_succ _, fun i => Nat.zero_le _, fun i => Nat.zero_le _, fun i => Nat.zero_le _, fun i => Nat.zero_le _, fun i => Nat.zero_le _, fun i => Nat.zero_le _, fun v p n hv hp hn => rfl⟩
set_option maxRecDepth 100000 in
set_option maxHeartbeats 4000000 in
theorem whole_start {p : Program} {e : Env} {s : State} {m : MethodId} {below : List Frame} {meth : Method} {c : Code} (l : Launch) {b L : Nat} {xs : Nat → Int32} (hL : L ≤ 1536) (C0 : lw_At p s m meth c b L xs) : W p l e room_1 s m #[Value.ref b] below meth c s.heap [] 0 0 (lw_Z below #[Value.ref b] s) (entryFrame m ([Value.ref b] : List Value).toArray 4) := by
  obtain ⟨hx, hb, hr, hml, hown, hts, hX, hbl, hlk, hgv⟩ := C0
  obtain ⟨D, ct, hK2⟩ := law_K hts
  have hK := hK2.1
  have htsG : ∀ w ∈ Cond.initialized "GroupViewsLaw" :: tblG, w.before #[Value.ref b] s = true := fun w hw => by
    rcases List.mem_cons.mp hw with z | z
    · rw [z]; exact hts _ (List.mem_filter.mp t_0).1
    · exact hts _ (List.mem_filter.mp z).1
  have hA : ∀ q, s.heap.size ≤ q → (fun q => s.heap.size ≤ q) q := fun q h => h
  have hD0 : va_D (fun q => s.heap.size ≤ q) [] := ⟨fun i j x y hi => by simp at hi, fun k q hq => by simp at hq⟩
  have main : G p l e room_1 s m #[Value.ref b] below meth c D vcl (fun q => s.heap.size ≤ q) 0 0 (lw_Z below #[Value.ref b] s) [] [some (.ref b), none, none, none] 0 [] := by
    refine g_new (ci := 0) (fs := F_GV) hx hb htsG (in_mw in_GV) ty_GV tyo_GV hown (htsG _ (List.mem_cons_of_mem _ t_7)) (htsG _ (List.mem_cons_of_mem _ t_8)) (htsG _ (List.mem_cons_of_mem _ t_1)) hK.1 hD0 hA rfl dv_GV (Nat.le_of_ble_eq_true rfl) (Nat.le_of_ble_eq_true rfl) d_LW_law_0 (fun q hD => ?_)
    refine g_dup hx hb d_LW_law_3 rfl ?_
    refine g_callI (host := "") ⟨hx, hb, hml.trans rfl, hown, htsG⟩ (ct_GV_init l D ct q) (Or.inl (mk_I htsG t_9 t_10 t_1 t_11 rfl rfl rfl (by decide +kernel) ⟨Nat.le_of_ble_eq_true rfl, Nat.le_of_ble_eq_true rfl⟩)) (gK2_ok D ct) hK2 hD hA (Nat.le_of_ble_eq_true rfl) ⟨(Nat.le_of_ble_eq_true rfl), (Nat.le_of_ble_eq_true rfl)⟩ d_LW_law_4 (fun a hD => ?_)
    refine g_astore_n (L' := [_, _, _, _]) hx hb d_LW_law_7 rfl (Nat.le_of_ble_eq_true rfl) rfl ?_
    refine g_new (ci := 3) (fs := F_MD) hx hb htsG (in_mw in_MD) ty_MD tyo_MD hown (htsG _ (List.mem_cons_of_mem _ t_309)) (htsG _ (List.mem_cons_of_mem _ t_310)) (htsG _ (List.mem_cons_of_mem _ t_4)) hK.1 hD hA rfl dv_MD (Nat.le_of_ble_eq_true rfl) (Nat.le_of_ble_eq_true rfl) d_LW_law_8 (fun q2 hD => ?_)
    refine g_dup hx hb d_LW_law_11 rfl ?_
    refine g_callI (host := "") ⟨hx, hb, hml.trans rfl, hown, htsG⟩ (ct_MD_init l D ct q2) (Or.inl (mk_I htsG t_311 t_312 t_4 t_313 rfl rfl rfl (by decide +kernel) ⟨Nat.le_of_ble_eq_true rfl, Nat.le_of_ble_eq_true rfl⟩)) (gK_ok D ct) hK hD hA (Nat.le_of_ble_eq_true rfl) ⟨(Nat.le_of_ble_eq_true rfl), (Nat.le_of_ble_eq_true rfl)⟩ d_LW_law_12 (fun a2 hD => ?_)
    refine g_astore_n (L' := [_, _, _, _]) hx hb d_LW_law_15 rfl (Nat.le_of_ble_eq_true rfl) rfl ?_
    refine g_wd (merge ct q a q2 a2) hD (fun hD => ?_)
    refine g_iconst hx hb d_LW_law_16 k_iconst_0 ?_
    refine g_istore_n (L' := [_, _, _, _]) hx hb d_LW_law_17 rfl (Nat.le_of_ble_eq_true rfl) rfl ?_
    have had : adOk (mad q a q2 a2) := fun i j hi hj hij => hD.1 i j _ _ (gw_at hi) (gw_at hj) hij
    have hAd : ∀ c, c < 91 → s.heap.size ≤ mad q a q2 a2 c := fun c hc => hD.2 c _ (gw_at hc)
    have C : LC p s m c D ct (mad q a q2 a2) b L xs := ⟨hx, hb, hml, hown, htsG, hK, had, hAd, hX, hbl, hL⟩
    refine law_loop C (fun V t => ?_) (L + 3) 0 (fun _ _ => 0) (by omega) (by omega) rel_0
    refine g_iconst hx hb d_LW_law_603 k_iconst_1 ?_
    refine g_val n1_eq ?_
    exact fun H locs ls hP hS hl => va_forget hS.2.2 (W.widen (by decide) (by decide) (lw_ret hx hb hr hlk d_LW_law_604))
  rw [lg_entry_eq]
  exact main s.heap [] _ (fun k q hq => by simp at hq) va_S.rf (lq_entry [.ref b] (fun v hv => by simp at hv; rw [hv]; rfl) 4 (Nat.le_of_ble_eq_true rfl))
