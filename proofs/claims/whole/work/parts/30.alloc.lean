theorem ra_uniq {U : State} {a b : ClassId} {ty : FieldType} (h1 : va_RA U a ty) (h2 : va_RA U b ty) : a = b := by
  cases ty with
  | object C =>
    obtain ⟨_, _, _, _, _, e1⟩ := h1
    obtain ⟨_, _, _, _, _, e2⟩ := h2
    exact Option.some.inj (e1.symm.trans e2)
  | _ => exact Option.some.inj (Eq.trans (Eq.symm h1) h2)
/-- a call's cell among the caller's: what came back beside the rest -/
theorem join1 {A0 : Nat → Prop} {D : va_G} {cl : List vw_C} {wr b : va_W} {q : Nat} {x0 : va_E} {H H1 : Heap} (hP : va_P D cl (wr ++ [(q, x0)]) H) (hD : va_D A0 (wr ++ [(q, x0)])) (hF : ∀ y, va_A [(q, x0)] H.size y → A0 y)
    (hk : ∀ y : Nat, y < H.size → ¬ va_A [(q, x0)] H.size y → H1[y]? = H[y]?) (hP1 : va_P D cl b H1) (hD1 : va_D (va_A [(q, x0)] H.size) b) : va_P D cl (wr ++ b) H1 ∧ va_D A0 (wr ++ b) := by
  have up : ∀ (i : Nat) (x : Nat × va_E), wr[i]? = some x → (wr ++ [(q, x0)])[i]? = some x := fun i x hx => by
    rw [List.getElem?_append_left (List.getElem?_eq_some_iff.mp hx).1]; exact hx
  have hlast : (wr ++ [(q, x0)])[wr.length]? = some (q, x0) := by simp
  have off : ∀ (i : Nat) (x : Nat × va_E), wr[i]? = some x → x.1 < H.size ∧ ¬ va_A [(q, x0)] H.size x.1 := by
    intro i x hx
    have hlt := (hP i x (up i x hx)).lt
    refine ⟨hlt, fun h => ?_⟩
    rcases h with ⟨j, e, h⟩ | h
    · have hj : j = 0 := by
        have := (List.getElem?_eq_some_iff.mp h).1
        simp at this
        exact this
      subst hj
      simp at h
      have hi := hD.1 i wr.length x (q, x0) (up i x hx) hlast (by rw [← h.1])
      have := (List.getElem?_eq_some_iff.mp hx).1
      omega
    · omega
  refine ⟨va_P.app (fun i x hx => (hP i x (up i x hx)).kept (hk x.1 (off i x hx).1 (off i x hx).2)) hP1, va_D.app ⟨fun i j x y hi hj => hD.1 i j x y (up i x hi) (up j y hj), fun i x hx => hD.2 i x (up i x hx)⟩ (hD1.weaken (fun _ y _ h => hF y.1 h)) (fun i j x y hx hy hxy => ?_)⟩
  exact (off i x hx).2 (by rw [hxy]; exact hD1.2 j y hy)
section AL
variable {p : Program} {l : Launch} {e : Env} {R : Room} {s : State} {m : MethodId} {args : Array Value} {below : List Frame} {meth : Method} {c : Code} {D : va_G} {cl : List vw_C} {A : Nat → Prop} {k n : Nat} {Q : State → Prop} {w : va_W} {L : List (Option Value)} {pc : Nat} {st rest : List Value} {cc : ByteArray} {tys : List (ClassId × FieldType)}
theorem g_newa (hx : p.tables.exec = Jvm.exec) (hb : c.code = cc) {atype : ArrayType} {ty : FieldType} {cA : ClassId} {N' : Nat} {a0 : vp_A} (harr : (Cond.arrayClass (newarray.typeOf atype)).before args s = true) (hty : newarray.typeOf atype = ty) (hK : va_K D cl tys s) (t0 : Nat) (ht : tys[t0]? = some (cA, ty)) (hD : va_D A w) (hA : ∀ q, s.heap.size ≤ q → A q) (ha : ∀ cB : ClassId, vp_cell cB a0 = arrV cB N' (fun _ => defaultValue ty)) (hN : N' < 2 ^ 31) (hby : N' * componentBytes ty ≤ 536870912) (hc : k + 1 ≤ R.cells) (hs : n + N' ≤ R.slots) (hd : decode cc pc = .ok (.newarray atype, 2))
    (kk : ∀ q : Nat, va_D A (w ++ [(q, .inl (cA, a0))]) → G p l e R s m args below meth c D cl A (k + 1) (n + N') Q (w ++ [(q, .inl (cA, a0))]) L (pc + 2) (.ref q :: st)) : G p l e R s m args below meth c D cl A k n Q w L pc (.int (nI N') :: st) := by
  intro H locs ls hP hS hl
  refine va_newa hx hb harr hty hK hP hD hS hA ha (nI_pos hN) (nI_clamp hN) hby hc hs hd (fun q cB H1 hK1 hP1 hD1 hS1 => ?_)
  have h1 := (hK1.2 tys.length (cB, ty) (by simp)).2
  have h2 := (hK.2 t0 _ ht).2
  have e : cB = cA := ra_uniq h1 h2
  subst e
  exact kk q hD1 H1 locs ls hP1 hS1 hl
theorem g_newq (hx : p.tables.exec = Jvm.exec) (hb : c.code = cc) {own C : String} {index : Nat} {cA : ClassId} {N' : Nat} (hown : s.vm.findClass own = some m.cls) (hcl : (Cond.classLink own index C).before args s = true) (hov : va_AO C s) (hK : va_K D cl tys s) (t0 : Nat) (ht : tys[t0]? = some (cA, .object C)) (hD : va_D A w) (hA : ∀ q, s.heap.size ≤ q → A q) (hN : N' < 2 ^ 31) (hby : N' * 4 ≤ 536870912) (hc : k + 1 ≤ R.cells) (hs : n + N' ≤ R.slots) (hd : decode cc pc = .ok (.anewarray index, 3))
    (kk : ∀ q : Nat, va_D A (w ++ [(q, .inl (cA, N', .inr (.inr (.inr (.inr (fun _ => none))))))]) → G p l e R s m args below meth c D cl A (k + 1) (n + N') Q (w ++ [(q, .inl (cA, N', .inr (.inr (.inr (.inr (fun _ => none))))))]) L (pc + 3) (.ref q :: st)) : G p l e R s m args below meth c D cl A k n Q w L pc (.int (nI N') :: st) := by
  intro H locs ls hP hS hl
  refine va_newq hx hb hown hcl hov hK hP hD hS hA (nI_pos hN) (nI_clamp hN) hby hc hs hd (fun q cB H1 hK1 hP1 hD1 hS1 => ?_)
  have h1 := (hK1.2 tys.length (cB, .object C) (by simp)).2
  have h2 := (hK.2 t0 _ ht).2
  have e : cB = cA := ra_uniq h1 h2
  subst e
  exact kk q hD1 H1 locs ls hP1 hS1 hl
theorem g_new (hx : p.tables.exec = Jvm.exec) (hb : c.code = cc) {own C : String} {T : u_T} {N ci index : Nat} {Ts : List Cond} {fs : List Value} (hts : ∀ w ∈ Ts, w.before args s = true) (hin : ∀ w ∈ u_ws C T N, w ∈ Ts) (ty : Nat → FieldType) (hty : ∀ k, k < N → parseFieldDescriptor (T k).2.2.1 = some (ty k)) (hown : s.vm.findClass own = some m.cls) (hcl : (Cond.classLink own index C).before args s = true) (hins : (Cond.instantiable C N).before args s = true) (hini : (Cond.initialized C).before args s = true) (hK : va_K D cl tys s) (hD : va_D A w) (hA : ∀ q, s.heap.size ≤ q → A q) (hc : cl[ci]? = some (C, T, N)) (hfs : ∀ j, j < N → defaultValue (ty j) = vp_V fs j) (hce : k + 1 ≤ R.cells) (hsl : n + N ≤ R.slots) (hd : decode cc pc = .ok (.new index, 3))
    (kk : ∀ q : Nat, va_D A (w ++ [(q, .inr (ci, fs))]) → G p l e R s m args below meth c D cl A (k + 1) (n + N) Q (w ++ [(q, .inr (ci, fs))]) L (pc + 3) (.ref q :: st)) : G p l e R s m args below meth c D cl A k n Q w L pc st :=
  fun H locs ls hP hS hl => va_new hx hb hts hin ty hty hown hcl hins hini hK hP hD hS hA hc hfs hce hsl hd (fun q H1 hP1 hD1 hS1 => kk q hD1 H1 locs ls hP1 hS1 hl)
theorem g_putF (hx : p.tables.exec = Jvm.exec) (hb : c.code = cc) {own C : String} {T : u_T} {N ci index : Nat} {Ts : List Cond} {a q0 : Nat} {fs : List Value} {v : Value} {ty : FieldType} {w' : va_W} (hts : ∀ w ∈ Ts, w.before args s = true) (hin : ∀ w ∈ u_ws C T N, w ∈ Ts) (ty0 : Nat → FieldType) (hty : ∀ k, k < N → parseFieldDescriptor (T k).2.2.1 = some (ty0 k)) (hnm : ∀ a, a < N → ∀ b, b < N → a ≠ b → (T a).2.1 ≠ (T b).2.1) (hown : s.vm.findClass own = some m.cls) (hK : va_K D cl tys s) (hD : va_D A w) (he : w[q0]? = some (a, .inr (ci, fs))) (hc : cl[ci]? = some (C, T, N)) (f : Nat) (hf : f < N) (hlink : (Cond.fieldLink own index (T f).1 (T f).2.1 (T f).2.2.1).before args s = true) (hfin : (T f).2.2.2 = true) (hin2 : meth.name = "<init>") (hdecl : (T f).1 = own) (hpd : parseFieldDescriptor (T f).2.2.1 = some ty) (hn : narrow ty v = v) (hfit : fits ty v = true) (hl2 : f < fs.length) (hd : decode cc pc = .ok (.putfield index, 3)) (hw : w.set q0 (a, .inr (ci, fs.set f v)) = w')
    (kk : va_D A w' → G p l e R s m args below meth c D cl A k n Q w' L (pc + 3) st) : G p l e R s m args below meth c D cl A k n Q w L pc (v :: .ref a :: st) :=
  fun H locs ls hP hS hl => va_putF hx hb hts hin ty0 hty hnm hown hK hP hD hS q0 he hc f hf hlink (fun _ h => h) hfin hin2 hdecl hpd hn hfit hl2 hd (fun H1 locs1 hP1 hD1 hS1 => kk (hw ▸ hD1) H1 locs1 ls (hw ▸ hP1) hS1 hl)
theorem g_obj (hx : p.tables.exec = Jvm.exec) (hb : c.code = cc) {own : String} {idx a : Nat} (hown : s.vm.findClass own = some m.cls) (hlink : (Cond.methodLink own idx objectInit).before args s = true) (hinst : (Cond.instanceMethod objectInit).before args s = true) (hcode : (Cond.code objectInit ⟨#[0xb1]⟩ 1 none).before args s = true) (hml : c.maxLocals = L.length) (hd : decode cc pc = .ok (.invokespecial idx, 3)) (hfr : 1 ≤ R.frames) (hlo : (st.map fun v => v.category).sum + 12 ≤ R.locals)
    (kk : G p l e R s m args below meth c D cl A k n Q w L (pc + 3) st) : G p l e R s m args below meth c D cl A k n Q w L pc (.ref a :: st) :=
  fun H locs ls hP hS hl => W.objInit hx hb hown hlink hinst hcode (g := F0 m pc ls (.ref a :: st)) rfl (by rw [hml]; exact hl.1) rfl hd hfr (by show 2 * 0 + _ + 12 ≤ _; omega) (W.eq (g2 := F0 m (pc + 3) ls st) rfl (kk H locs ls hP hS hl))
theorem g_aast (hx : p.tables.exec = Jvm.exec) (hb : c.code = cc) {a q0 qk ci j len v : Nat} {cA : ClassId} {r : vw_C} {vs : List Value} {f : Nat → Option Nat} {w' : va_W} (hK : va_K D cl tys s) (hD : va_D A w) (t0 : Nat) (he : w[q0]? = some (a, .inl (cA, len, .inr (.inr (.inr (.inr f)))))) (ht : tys[t0]? = some (cA, .object r.1)) (hv : w[qk]? = some (v, .inr (ci, vs))) (hc : cl[ci]? = some r) (hj : j < len) (hlen : len < 2 ^ 31) (hd : decode cc pc = .ok (.aastore, 1)) (hw : w.set q0 (a, .inl (cA, len, .inr (.inr (.inr (.inr (va_up f j (some v))))))) = w')
    (kk : va_D A w' → G p l e R s m args below meth c D cl A k n Q w' L (pc + 1) st) : G p l e R s m args below meth c D cl A k n Q w L pc (.ref v :: .int (nI j) :: .ref a :: st) :=
  fun H locs ls hP hS hl => va_astq hx hb hK hP hD hS q0 t0 qk ci he ht hv hc (q_in hj hlen) hd (fun H1 locs1 hP1 hD1 hS1 => by
    rw [nI_clamp (Nat.lt_trans hj hlen), hw] at hP1 hD1
    exact kk hD1 H1 locs1 ls hP1 hS1 hl)
theorem g_wd {w' : va_W} (h : w = w') (hD : va_D A w) (kk : va_D A w' → G p l e R s m args below meth c D cl A k n Q w' L pc st) : G p l e R s m args below meth c D cl A k n Q w L pc st := by
  subst h
  exact kk hD
theorem g_widen {k' n' : Nat} (h1 : k ≤ k') (h2 : n ≤ n') (kk : G p l e R s m args below meth c D cl A k' n' Q w L pc st) : G p l e R s m args below meth c D cl A k n Q w L pc st :=
  fun H locs ls hP hS hl => W.widen h1 h2 (kk H locs ls hP hS hl)
/-- a constructor's contract -/
def CTn (l : Launch) (y : MethodName) (ws : List Cond) (rm : Room) (K : State → Prop) (D : va_G) (cl : List vw_C) (q : Nat) (x0 : va_E) (blk : (Nat → Nat) → va_W) (mc ms : Nat) : Prop := ∀ sz : Nat,
  Met l y ws rm (va_Pc [.ref q] (fun U => U.heap.size = sz ∧ va_P D cl [(q, x0)] U.heap ∧ K U)) (va_Qv (fun _ : Nat → Nat => True) (fun a t => va_P D cl (blk a) t.heap ∧ va_D (va_A [(q, x0)] sz) (blk a)) (va_A [(q, x0)] sz)) mc ms (va_A [(q, x0)] sz)
theorem ct_n {y : MethodName} {ws ws' : List Cond} {rm : Room} {K : State → Prop} {q : Nat} {x0 : va_E} {blk : (Nat → Nat) → va_W} {mc ms maxL : Nat} (hy : plainName y.cls = true) (hw : ws = Cond.code y cc maxL none :: ws') (hlen : 1 ≤ maxL)
    (body : ∀ (p : Program) (e : Env) (s : State) (m : MethodId) (below : List Frame) (meth : Method) (c : Code), p.tables.exec = Jvm.exec → c.code = cc → meth.sig.returnType = none → (∀ w ∈ ws, w.before #[Value.ref q] s = true) → s.vm.findClass y.cls = some m.cls → meth.locks = false → c.maxLocals = maxL → K s → meth.name = y.name → (∀ z, s.heap.size ≤ z → va_A [(q, x0)] s.heap.size z) → va_D (va_A [(q, x0)] s.heap.size) [(q, x0)] →
      G p l e rm s m #[Value.ref q] below meth c D cl (va_A [(q, x0)] s.heap.size) 0 0 (MQ below (va_Qv (fun _ : Nat → Nat => True) (fun a t => va_P D cl (blk a) t.heap ∧ va_D (va_A [(q, x0)] s.heap.size) (blk a)) (va_A [(q, x0)] s.heap.size)) #[Value.ref q] s mc ms (va_A [(q, x0)] s.heap.size)) [(q, x0)] (some (.ref q) :: List.replicate (maxL - 1) none) 0 []) : CTn l y ws rm K D cl q x0 blk mc ms := by
  intro sz
  refine Met.ofW (cc := cc) (maxL := maxL) (ret := none) hy hw ?_
  intro p e s m args below meth c s₁ B hml hv
  obtain ⟨rfl, hsz, hP, hK⟩ := hv
  subst hsz
  rw [lg_entry_eq]
  have hD : va_D (va_A [(q, x0)] s.heap.size) [(q, x0)] := by
    refine ⟨fun i j x y hi hj _ => ?_, fun i x hi => va_A.in hi⟩
    have h1 := (List.getElem?_eq_some_iff.mp hi).1
    have h2 := (List.getElem?_eq_some_iff.mp hj).1
    simp at h1 h2
    omega
  exact body p e s m below meth c B.exec B.bytes B.returns (atoms_spec (ws := ws) B.pre) (findClass_of_methodNamed B.named) B.notSynchronized hml hK (name_of_methodNamed B.named B.method).1 (fun z h => Or.inr h) hD s.heap [] _ hP va_S.rf (lq_entry [.ref q] (fun v hv => by simp at hv; rw [hv]; rfl) maxL hlen)
theorem g_nret {blk : (Nat → Nat) → va_W} {A1 : Nat → Prop} (hx : p.tables.exec = Jvm.exec) (hb : c.code = cc) (hr : meth.sig.returnType = none) (hlk : meth.locks = false) (hd : decode cc pc = .ok (.return_, 1)) (a : Nat → Nat) (hw : w = blk a) (hD : va_D A w) : G p l e R s m args below meth c D cl A k n (MQ below (va_Qv (fun _ : Nat → Nat => True) (fun a t => va_P D cl (blk a) t.heap ∧ va_D A (blk a)) A) args s k n A) w L pc [] := by
  subst hw
  exact fun H locs ls hP hS hl => W.vret hx hb hr (fun t ht hW => ⟨⟨a, rfl, trivial, (show va_P D cl (blk a) t.heap by rw [ht]; exact hP), hD⟩, hS.F ht⟩) hS.2.2 hd hlk
theorem g_callI {y : MethodName} {bytes : ByteArray} {ws Ts : List Cond} {rm : Room} {K : State → Prop} {own host : String} {q idx maxL mc ms : Nat} {x0 : va_E} {wr : va_W} {blk : (Nat → Nat) → va_W} (S : CallFix p m c cc L.length s args Ts own) (hM : CTn l y ws rm K D cl q x0 blk mc ms)
    (cw : (CallB R s args own idx y bytes maxL none ws rm mc ms 0 ∧ y.name = "<init>" ∧ (Cond.instanceMethod y).before args s = true) ∨ (va_CN R s args own idx y host bytes maxL none ws rm mc ms 0 ∧ y.name = "<init>" ∧ (Cond.instanceMethod y).before args s = true)) (hKo : K_ok K) (hK : K s) (hD : va_D A (wr ++ [(q, x0)])) (hA : ∀ z, s.heap.size ≤ z → A z) (hroom : (st.map fun v => v.category).sum ≤ 8) (hf : k + mc ≤ R.cells ∧ n + ms ≤ R.slots) (hd : decode cc pc = .ok (.invokespecial idx, 3))
    (kk : ∀ a : Nat → Nat, va_D A (wr ++ blk a) → G p l e R s m args below meth c D cl A (k + mc) (n + ms) Q (wr ++ blk a) L (pc + 3) st) : G p l e R s m args below meth c D cl A k n Q (wr ++ [(q, x0)]) L pc (.ref q :: st) := by
  intro H locs ls hP hS hl
  have hlast : (wr ++ [(q, x0)])[wr.length]? = some (q, x0) := by simp
  have hFc : ∀ z, va_A [(q, x0)] H.size z → A z := va_free (wc := [(q, x0)]) hD hS hA [wr.length] (by simp)
  have hPc : va_P D cl [(q, x0)] H := hP.sub [wr.length] (by simp)
  have pre : PreS s H (va_Pc [.ref q] (fun U => U.heap.size = H.size ∧ va_P D cl [(q, x0)] U.heap ∧ K U)) [.ref q] := ⟨fun a U g mk z => ⟨z.1, z.2.1, z.2.2.1, hKo.1 a U g mk z.2.2.2⟩, fun U hU hW => ⟨rfl, by rw [hU], by rw [hU]; exact hPc, hKo.2 s U hW hK⟩⟩
  have hrun : va_Run p l e R s m args below meth c H locs k n mc ms (F0 m pc ls (.ref q :: st)) st (va_Qv (fun _ : Nat → Nat => True) (fun a t => va_P D cl (blk a) t.heap ∧ va_D (va_A [(q, x0)] H.size) (blk a)) (va_A [(q, x0)] H.size) #[.ref q]) (va_A [(q, x0)] H.size) := by
    rcases cw with cw | cw
    · exact va_runI (As := []) (rest := st) S (hM H.size) cw pre rfl rfl hl.1 rfl (lv_room hroom) hd hf
    · exact va_runIN (As := []) (rest := st) S (hM H.size) cw pre rfl rfl hl.1 rfl (lv_room hroom) hd hf
  refine va_callv hrun hS (fun z _ h => hFc z h) hFc (fun u t H1 locs1 ht hvm _ hB hz hk1 hS1 => ?_)
  obtain ⟨hP1, hD1⟩ := hB
  rw [ht] at hP1
  obtain ⟨hP2, hD2⟩ := join1 hP hD hFc hk1 hP1 hD1
  exact kk u hD2 H1 locs1 ls hP2 hS1 hl
end AL
