abbrev F_PS : List Value := [.int (nI 0), .int (nI 0), .int (nI 0), .int (nI 0), .int (nI 0), .int (nI 0), .int (nI 0), .int (nI 0), .int (nI 0), .null, .null, .null, .null, .null, .null, .null]
abbrev F_LN : List Value := [.null, .int (nI 0), .int (nI 0)]
abbrev F_GV : List Value := [.null, .null, .null, .null, .int (nI 0)]
abbrev F_MD : List Value := [.null, .null, .null, .null, .null, .null, .null, .null, .null, .null, .int (nI 0), .null, .null, .null, .null, .null, .null, .null, .null, .null, .null, .null, .int (nI 0)]
/-- an array of noughts -/
abbrev za (ct : Nat → ClassId) (t len : Nat) : va_E := .inl (ct t, len, .inl (fun _ => nI 0))
def PSB (ct : Nat → ClassId) (z : Nat) (a : Nat → Nat) : va_W := [(z, .inr (1, [.int (nI 0), .int (nI 0), .int (nI 0), .int (nI 0), .int (nI 0), .int (nI 0), .int (nI 0), .int (nI 0), .int (nI 0), .ref (a 1), .ref (a 2), .ref (a 3), .ref (a 4), .ref (a 5), .ref (a 6), .ref (a 7)])), (a 1, za ct 0 64), (a 2, za ct 0 4), (a 3, za ct 0 64), (a 4, za ct 0 64), (a 5, za ct 0 16), (a 6, za ct 0 16), (a 7, za ct 0 4)]
def LNB (ct : Nat → ClassId) (z : Nat) (a : Nat → Nat) : va_W := [(z, .inr (2, [.ref (a 1), .int (nI 0), .int (nI 0)])), (a 1, za ct 0 75)]
def MDB (ct : Nat → ClassId) (z : Nat) (a : Nat → Nat) : va_W := (List.range 22).map (fun c => (if c = 0 then z else a c, kd (fun c' => a (c' - 69)) ct (69 + c) (fun _ => 0)))
def kn (np nl : Nat) (ad : Nat → Nat) (ct : Nat → ClassId) (c : Nat) : va_E :=
  if c = 1 then .inl (ct 2, 4, .inr (.inr (.inr (.inr (fun i => if i < np then some (ad (5 + 8 * i)) else none)))))
  else if c = 2 then .inl (ct 3, 16, .inr (.inr (.inr (.inr (fun i => if i < nl then some (ad (37 + 2 * i)) else none)))))
  else kd ad ct c (fun _ => 0)
def gwn (N np nl : Nat) (ad : Nat → Nat) (ct : Nat → ClassId) : va_W := (List.range N).map (fun c => (ad c, kn np nl ad ct c))
def GVB (ct : Nat → ClassId) (z : Nat) (a : Nat → Nat) : va_W := gwn 69 4 16 (fun c => if c = 0 then z else a c) ct
def adx (N : Nat) (ad : Nat → Nat) (z : Nat) (a : Nat → Nat) : Nat → Nat := fun c => if c < N then ad c else if c = N then z else a (c - N)
theorem gwn_at {N np nl c : Nat} {ad : Nat → Nat} {ct : Nat → ClassId} (h : c < N) : (gwn N np nl ad ct)[c]? = some (ad c, kn np nl ad ct c) := by simp [gwn, h]
theorem gwn_len {N np nl : Nat} {ad : Nat → Nat} {ct : Nat → ClassId} : (gwn N np nl ad ct).length = N := by simp [gwn]
theorem kd_congr {ad ad' : Nat → Nat} {ct : Nat → ClassId} {c N : Nat} {g : Nat → Nat} (h : ∀ i, i < N → ad i = ad' i) (hN : (∃ p, p ≤ 4 ∧ N = 5 + 8 * p) ∨ (∃ i, i ≤ 16 ∧ N = 37 + 2 * i)) (hc : c < N) (h1 : c ≠ 1) (h2 : c ≠ 2) : kd ad ct c g = kd ad' ct c g := by
  have h5 : 5 ≤ N := by rcases hN with ⟨p, _, e⟩ | ⟨i, _, e⟩ <;> omega
  by_cases e0 : c = 0
  · subst e0
    show kd ad ct 0 g = kd ad' ct 0 g
    unfold kd
    rw [if_pos rfl, if_pos rfl, h 1 (by omega), h 2 (by omega), h 3 (by omega), h 4 (by omega)]
  by_cases e3 : c = 3
  · subst e3; rfl
  by_cases e4 : c = 4
  · subst e4; rfl
  by_cases e37 : c < 37
  · obtain ⟨j, t, hj, ht, e⟩ : ∃ j t, j < 4 ∧ t < 8 ∧ c = 5 + 8 * j + t := ⟨(c - 5) / 8, (c - 5) % 8, by omega, by omega, by omega⟩
    subst e
    by_cases et : t = 0
    · subst et
      have hh : 5 + 8 * j + 7 < N := by rcases hN with ⟨p, _, e⟩ | ⟨i, _, e⟩ <;> omega
      rw [Nat.add_zero, kd_P hj, kd_P hj, h (5 + 8 * j + 1) (by omega), h (5 + 8 * j + 2) (by omega), h (5 + 8 * j + 3) (by omega), h (5 + 8 * j + 4) (by omega), h (5 + 8 * j + 5) (by omega), h (5 + 8 * j + 6) (by omega), h (5 + 8 * j + 7) (by omega)]
    · rw [kd_Pa hj (by omega) ht, kd_Pa hj (by omega) ht]
  · obtain ⟨j, t, hj, ht, e⟩ : ∃ j t, j < 16 ∧ t < 2 ∧ c = 37 + 2 * j + t := ⟨(c - 37) / 2, (c - 37) % 2, by rcases hN with ⟨p, _, e⟩ | ⟨i, _, e⟩ <;> omega, by omega, by omega⟩
    subst e
    by_cases et : t = 0
    · subst et
      have hh : 37 + 2 * j + 1 < N := by rcases hN with ⟨p, _, e⟩ | ⟨i, _, e⟩ <;> omega
      rw [Nat.add_zero, kd_L hj, kd_L hj, h (37 + 2 * j + 1) hh]
    · have : t = 1 := by omega
      subst this
      rw [kd_La hj, kd_La hj]
theorem adx_lt {N : Nat} {ad a : Nat → Nat} {z c : Nat} (h : c < N) : adx N ad z a c = ad c := if_pos h
theorem adx_eq {N : Nat} {ad a : Nat → Nat} {z : Nat} : adx N ad z a N = z := by unfold adx; rw [if_neg (by omega), if_pos rfl]
theorem adx_gt {N : Nat} {ad a : Nat → Nat} {z j : Nat} (h : 0 < j) : adx N ad z a (N + j) = a j := by unfold adx; rw [if_neg (by omega), if_neg (by omega), Nat.add_sub_cancel_left]
theorem PSB_at {ct : Nat → ClassId} {z : Nat} {a ad : Nat → Nat} {p : Nat} (hp : p < 4) : ∀ j, j < 8 → (PSB ct z a)[j]? = some (adx (5 + 8 * p) ad z a (5 + 8 * p + j), kd (adx (5 + 8 * p) ad z a) ct (5 + 8 * p + j) (fun _ => 0)) := by
  intro j hj
  by_cases h0 : j = 0
  · subst h0
    rw [Nat.add_zero, adx_eq, kd_P hp, adx_gt (by decide), adx_gt (by decide), adx_gt (by decide), adx_gt (by decide), adx_gt (by decide), adx_gt (by decide), adx_gt (by decide)]
    rfl
  · rw [adx_gt (by omega), kd_Pa hp (by omega) hj]
    match j, hj, h0 with
    | 1, _, _ => rfl
    | 2, _, _ => rfl
    | 3, _, _ => rfl
    | 4, _, _ => rfl
    | 5, _, _ => rfl
    | 6, _, _ => rfl
    | 7, _, _ => rfl
theorem LNB_at {ct : Nat → ClassId} {z : Nat} {a ad : Nat → Nat} {i : Nat} (hi : i < 16) : ∀ j, j < 2 → (LNB ct z a)[j]? = some (adx (37 + 2 * i) ad z a (37 + 2 * i + j), kd (adx (37 + 2 * i) ad z a) ct (37 + 2 * i + j) (fun _ => 0)) := by
  intro j hj
  by_cases h0 : j = 0
  · subst h0
    rw [Nat.add_zero, adx_eq, kd_L hi, adx_gt (by decide)]
    rfl
  · have h1 : j = 1 := by omega
    subst h1
    rw [adx_gt (by decide), kd_La hi]
    rfl
theorem kn_ne {np nl c : Nat} {ad : Nat → Nat} {ct : Nat → ClassId} (h1 : c ≠ 1) (h2 : c ≠ 2) : kn np nl ad ct c = kd ad ct c (fun _ => 0) := by unfold kn; rw [if_neg h1, if_neg h2]
theorem extP {ct : Nat → ClassId} {z p : Nat} {a ad : Nat → Nat} (hp : p < 4) : (gwn (5 + 8 * p) p 0 ad ct ++ PSB ct z a).set 1 (ad 1, .inl (ct 2, 4, .inr (.inr (.inr (.inr (va_up (fun i => if i < p then some (ad (5 + 8 * i)) else none) p (some z))))))) = gwn (5 + 8 * (p + 1)) (p + 1) 0 (adx (5 + 8 * p) ad z a) ct := by
  have hl : (gwn (5 + 8 * p) p 0 ad ct ++ PSB ct z a).length = 5 + 8 * (p + 1) := by rw [List.length_append, gwn_len]; show 5 + 8 * p + 8 = _; omega
  apply List.ext_getElem?
  intro i
  by_cases hi : i < 5 + 8 * (p + 1)
  · rw [gwn_at hi]
    by_cases h1 : i = 1
    · subst h1
      rw [List.getElem?_set_self (by omega), adx_lt (by omega)]
      unfold kn
      rw [if_pos rfl]
      congr 9
      funext j
      by_cases hj : j = p
      · subst hj
        rw [va_up_self, if_pos (by omega), adx_eq]
      · rw [va_up_ne _ _ hj]
        by_cases hj2 : j < p
        · rw [if_pos hj2, if_pos (by omega), adx_lt (by omega)]
        · rw [if_neg hj2, if_neg (by omega)]
    · rw [List.getElem?_set_ne (fun e => h1 e.symm)]
      by_cases hn : i < 5 + 8 * p
      · rw [List.getElem?_append_left (by rw [gwn_len]; exact hn), gwn_at hn, adx_lt hn]
        by_cases h2 : i = 2
        · subst h2; rfl
        · rw [kn_ne h1 h2, kn_ne h1 h2, kd_congr (N := 5 + 8 * p) (ad' := adx (5 + 8 * p) ad z a) (fun j hj => (adx_lt hj).symm) (Or.inl ⟨p, by omega, rfl⟩) hn h1 h2]
      · obtain ⟨j, hj⟩ : ∃ j, i = 5 + 8 * p + j := ⟨i - (5 + 8 * p), by omega⟩
        subst hj
        rw [List.getElem?_append_right (by rw [gwn_len]; omega), gwn_len, Nat.add_sub_cancel_left, PSB_at (ad := ad) hp j (by omega), kn_ne (by omega) (by omega)]
  · rw [List.getElem?_eq_none (by rw [List.length_set, hl]; omega), List.getElem?_eq_none (by rw [gwn_len]; omega)]
theorem extL {ct : Nat → ClassId} {z p : Nat} {a ad : Nat → Nat} (hp : p < 16) : (gwn (37 + 2 * p) 4 p ad ct ++ LNB ct z a).set 2 (ad 2, .inl (ct 3, 16, .inr (.inr (.inr (.inr (va_up (fun i => if i < p then some (ad (37 + 2 * i)) else none) p (some z))))))) = gwn (37 + 2 * (p + 1)) 4 (p + 1) (adx (37 + 2 * p) ad z a) ct := by
  have hl : (gwn (37 + 2 * p) 4 p ad ct ++ LNB ct z a).length = 37 + 2 * (p + 1) := by rw [List.length_append, gwn_len]; show 37 + 2 * p + 2 = _; omega
  apply List.ext_getElem?
  intro i
  by_cases hi : i < 37 + 2 * (p + 1)
  · rw [gwn_at hi]
    by_cases h2 : i = 2
    · subst h2
      rw [List.getElem?_set_self (by omega), adx_lt (by omega)]
      unfold kn
      rw [if_neg (by decide), if_pos rfl]
      congr 9
      funext j
      by_cases hj : j = p
      · subst hj
        rw [va_up_self, if_pos (by omega), adx_eq]
      · rw [va_up_ne _ _ hj]
        by_cases hj2 : j < p
        · rw [if_pos hj2, if_pos (by omega), adx_lt (by omega)]
        · rw [if_neg hj2, if_neg (by omega)]
    · rw [List.getElem?_set_ne (fun e => h2 e.symm)]
      by_cases hn : i < 37 + 2 * p
      · rw [List.getElem?_append_left (by rw [gwn_len]; exact hn), gwn_at hn, adx_lt hn]
        by_cases h1 : i = 1
        · subst h1
          unfold kn
          rw [if_pos rfl, if_pos rfl]
          congr 9
          funext j
          by_cases hj : j < 4
          · rw [if_pos hj, if_pos hj, adx_lt (by omega)]
          · rw [if_neg hj, if_neg hj]
        · rw [kn_ne h1 h2, kn_ne h1 h2, kd_congr (N := 37 + 2 * p) (ad' := adx (37 + 2 * p) ad z a) (fun j hj => (adx_lt hj).symm) (Or.inr ⟨p, by omega, rfl⟩) hn h1 h2]
      · obtain ⟨j, hj⟩ : ∃ j, i = 37 + 2 * p + j := ⟨i - (37 + 2 * p), by omega⟩
        subst hj
        rw [List.getElem?_append_right (by rw [gwn_len]; omega), gwn_len, Nat.add_sub_cancel_left, LNB_at (ad := ad) hp j (by omega), kn_ne (by omega) (by omega)]
  · rw [List.getElem?_eq_none (by rw [List.length_set, hl]; omega), List.getElem?_eq_none (by rw [gwn_len]; omega)]
/-- what GroupViews() needs of the tables beside gK -/
def gK2 (D : va_G) (ct : Nat → ClassId) (U : State) : Prop := gK D ct U ∧ va_AO "GroupViews$ProcessState" U ∧ va_AO "GroupViews$Line" U
theorem gK2_ok (D : va_G) (ct : Nat → ClassId) : K_ok (gK2 D ct) :=
  ⟨fun a U g mk h => ⟨(gK_ok D ct).1 a U g mk h.1, va_AO.moved (Vm.Alike.refl U.vm) h.2.1, va_AO.moved (Vm.Alike.refl U.vm) h.2.2⟩, fun s U hW h => ⟨(gK_ok D ct).2 s U hW h.1, h.2.1.moved hW.alike, h.2.2.moved hW.alike⟩⟩
theorem mk_I {s : State} {args : Array Value} {R rm : Room} {own : String} {idx maxL mc ms : Nat} {y : MethodName} {bytes : ByteArray} {cx : Cond} (hts : ∀ w ∈ cx :: tblG, w.before args s = true) (m1 : Cond.methodLink own idx y ∈ tblG) (m2 : Cond.instanceMethod y ∈ tblG) (m3 : Cond.initialized y.cls ∈ tblG) (m4 : Cond.code y bytes maxL none ∈ tblG) (hrc : rm.cells = mc) (hrs : rm.slots = ms) (hy1 : y.name = "<init>")
    (hd : y.cls ≠ "java/lang/invoke/MethodHandle" ∧ y.cls ≠ "java/lang/invoke/VarHandle" ∧ (parseMethodDescriptor y.desc).map (fun d => d.parameters.length) = some 0) (hR : rm.frames + 1 ≤ R.frames ∧ 8 + (maxL + 11) + rm.locals ≤ R.locals) :
    CallB R s args own idx y bytes maxL none (mw y bytes maxL none) rm mc ms 0 ∧ y.name = "<init>" ∧ (Cond.instanceMethod y).before args s = true :=
  ⟨callB_of 0 hts (good_mw m4) rfl hrc hrs (hts _ (List.mem_cons_of_mem _ m3)) (hts _ (List.mem_cons_of_mem _ m1)) hd hR, hy1, hts _ (List.mem_cons_of_mem _ m2)⟩
theorem mk_IN {s : State} {args : Array Value} {R rm : Room} {own host : String} {idx maxL mc ms : Nat} {y : MethodName} {bytes : ByteArray} {cx : Cond} {D : va_G} {ct : Nat → ClassId} (hK : gK D ct s) (hts : ∀ w ∈ cx :: tblG, w.before args s = true) (m1 : Cond.methodLinkNest own idx y host ∈ tblN) (m2 : Cond.instanceMethod y ∈ tblG) (m3 : Cond.initialized y.cls ∈ tblG) (m4 : Cond.code y bytes maxL none ∈ tblG) (hrc : rm.cells = mc) (hrs : rm.slots = ms) (hy1 : y.name = "<init>")
    (hd : y.cls ≠ "java/lang/invoke/MethodHandle" ∧ y.cls ≠ "java/lang/invoke/VarHandle" ∧ (parseMethodDescriptor y.desc).map (fun d => d.parameters.length) = some 0) (hR : rm.frames + 1 ≤ R.frames ∧ 8 + (maxL + 11) + rm.locals ≤ R.locals) :
    va_CN R s args own idx y host bytes maxL none (mw y bytes maxL none) rm mc ms 0 ∧ y.name = "<init>" ∧ (Cond.instanceMethod y).before args s = true :=
  ⟨va_cnB 0 hts (good_mw m4) rfl hrc hrs (hK.2 _ m1) (hts _ (List.mem_cons_of_mem _ m3)) hd hR, hy1, hts _ (List.mem_cons_of_mem _ m2)⟩
theorem ha_i (N' : Nat) : ∀ cB : ClassId, vp_cell cB (N', .inl (fun _ => nI 0)) = arrV cB N' (fun _ => defaultValue .int) := fun cB => by
  rw [vp_cell_i, show nI 0 = 0 by decide +kernel]
  rfl
theorem ha_z (N' : Nat) : ∀ cB : ClassId, vp_cell cB (N', .inl (fun _ => nI 0)) = arrV cB N' (fun _ => defaultValue .boolean) := fun cB => by
  rw [vp_cell_i, show nI 0 = 0 by decide +kernel]
  rfl
theorem hby_i {N' : Nat} (h : N' ≤ 100000) : N' * componentBytes .int ≤ 536870912 := by
  have e : componentBytes .int = 4 := rfl
  rw [e]
  omega
theorem hby_z {N' : Nat} (h : N' ≤ 100000) : N' * componentBytes .boolean ≤ 536870912 := by
  have e : componentBytes .boolean = 1 := rfl
  rw [e]
  omega
