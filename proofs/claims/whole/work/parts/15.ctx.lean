section G2
variable {p : Program} {l : Launch} {e : Env} {R : Room} {s : State} {m : MethodId} {args : Array Value} {below : List Frame} {meth : Method} {c : Code} {D : va_G} {cl : List vw_C} {A : Nat → Prop} {k n : Nat} {Q : State → Prop} {w : va_W} {L : List (Option Value)} {pc : Nat} {st : List Value} {cc : ByteArray}
theorem g_L {L' : List (Option Value)} (h : L = L') (kk : G p l e R s m args below meth c D cl A k n Q w L' pc st) : G p l e R s m args below meth c D cl A k n Q w L pc st := h ▸ kk
/-- a loop: a number that grows up to E -/
theorem g_loop (E : Nat) (Vf : Nat → va_W) (Lf : Nat → List (Option Value)) (I : Nat → Prop) (q0 : Nat) (h0 : q0 ≤ E) (hI : I q0) (hw : w = Vf q0) (hL : L = Lf q0)
    (step : ∀ q, q0 ≤ q → q ≤ E → I q → (q < E → I (q + 1) → G p l e R s m args below meth c D cl A k n Q (Vf (q + 1)) (Lf (q + 1)) pc st) → G p l e R s m args below meth c D cl A k n Q (Vf q) (Lf q) pc st) : G p l e R s m args below meth c D cl A k n Q w L pc st := by
  have key : ∀ d q, q0 ≤ q → q ≤ E → E - q ≤ d → I q → G p l e R s m args below meth c D cl A k n Q (Vf q) (Lf q) pc st := by
    intro d
    induction d with
    | zero => exact fun q h1 h2 h3 hq => step q h1 h2 hq (fun h _ => by omega)
    | succ d ih => exact fun q h1 h2 h3 hq => step q h1 h2 hq (fun h hq2 => ih (q + 1) (by omega) (by omega) (by omega) hq2)
  rw [hw, hL]
  exact key (E - q0) q0 (Nat.le_refl _) h0 (Nat.le_refl _) hI
theorem g_mmax (hx : p.tables.exec = Jvm.exec) (hb : c.code = cc) (hml : c.maxLocals = L.length) {own : String} {index : Nat} (hown : s.vm.findClass own = some m.cls) (hlink : (Cond.methodLink own index Lib.Math.max.name).before args s = true) (hstat : (Cond.static Lib.Math.max.name).before args s = true) (hini : (Cond.initialized "java/lang/Math").before args s = true) (hcode : (Cond.code Lib.Math.max.name Lib.Math.max.code 2 (some .int)).before args s = true)
    (hframes : 1 ≤ R.frames) (hlocals : (st.map fun v => v.category).sum + 13 ≤ R.locals) (hc : k ≤ R.cells ∧ n ≤ R.slots) {x y : Int32} (hd : decode cc pc = .ok (.invokestatic index, 3))
    (kk : G p l e R s m args below meth c D cl A k n Q w L (pc + 3) (.int (if x < y then y else x) :: st)) : G p l e R s m args below meth c D cl A k n Q w L pc (.int y :: .int x :: st) :=
  fun H locs ls hP hS hl => va_mmax hx hb (by rw [hml, hl.1]) hown hlink hstat hini hcode hframes hlocals hc.1 hc.2 hd (kk H locs ls hP hS hl)
theorem g_ldcw (hx : p.tables.exec = Jvm.exec) (hb : c.code = cc) {own : String} {index : Nat} {v : Int32} (hd : decode cc pc = .ok (.ldc_w index, 3)) (hown : s.vm.findClass own = some m.cls) (hc : (Jvm.Cond.constant own index v).before args s = true) (kk : G p l e R s m args below meth c D cl A k n Q w L (pc + 3) (.int v :: st)) : G p l e R s m args below meth c D cl A k n Q w L pc st :=
  fun H locs ls hP hS hl => lv_ldcw hx hb hown hc hd (kk H locs ls hP hS hl)
end G2
abbrev gty (ct : Nat → ClassId) : List (ClassId × FieldType) := [(ct 0, .int), (ct 1, .boolean), (ct 2, .object "GroupViews$ProcessState"), (ct 3, .object "GroupViews$Line")]
def gK (D : va_G) (ct : Nat → ClassId) (U : State) : Prop := va_K D vcl (gty ct) U ∧ ∀ w ∈ tblN, va_Nw w U
def isNst : Cond → Bool
  | .fieldLinkNest .. => true
  | .methodLinkNest .. => true
  | _ => false
theorem tblN_nst : ∀ w ∈ tblN, isNst w = true := by decide +kernel
theorem nst_same {w : Cond} (h : isNst w = true) {u U : State} (e : u.vm = U.vm) (hz : va_Nw w u) : va_Nw w U := by
  cases w <;> first | exact va_Nw.same rfl e hz | (simp [isNst] at h; done)
theorem nst_warm {w : Cond} (h : isNst w = true) {s U : State} (hW : s.WarmedH U.vm) (hz : va_Nw w s) : va_Nw w U := by
  cases w <;> first | exact va_Nw.warmF hW hz | exact va_Nw.warmM hW hz | (simp [isNst] at h; done)
theorem gK_ok (D : va_G) (ct : Nat → ClassId) : K_ok (gK D ct) :=
  ⟨fun _ U _ _ h => ⟨va_K.moved (Vm.Alike.refl U.vm) h.1, fun w hw => nst_same (u := U) (tblN_nst w hw) rfl (h.2 w hw)⟩, fun _ _ hW h => ⟨va_K.moved hW.alike h.1, fun w hw => nst_warm (tblN_nst w hw) hW (h.2 w hw)⟩⟩
abbrev mw (y : MethodName) (bytes : ByteArray) (maxL : Nat) (ret : Option FieldType) : List Cond := Cond.code y bytes maxL ret :: tblG
theorem good_in {cx : Cond} {ws : List Cond} (h : ∀ w ∈ ws, w ∈ tblG) : GoodIn (cx :: tblG) ws := fun w hw => ⟨List.mem_cons_of_mem _ (h w hw), tblG_good w (h w hw)⟩
theorem good_mw {cx : Cond} {y : MethodName} {bytes : ByteArray} {maxL : Nat} {ret : Option FieldType} (m4 : Cond.code y bytes maxL ret ∈ tblG) : GoodIn (cx :: tblG) (mw y bytes maxL ret) := good_in (fun w hw => by
  rcases List.mem_cons.mp hw with h | h
  · rw [h]; exact m4
  · exact h)
section MK
variable {s : State} {args : Array Value} {R rm : Room} {own C host : String} {idx maxL nn : Nat} {y : MethodName} {bytes : ByteArray} {ret : Option FieldType} {cx : Cond}
theorem mk_S (hts : ∀ w ∈ cx :: tblG, w.before args s = true) (m1 : Cond.methodLink own idx y ∈ tblG) (m2 : Cond.static y ∈ tblG) (m3 : Cond.initialized y.cls ∈ tblG) (m4 : Cond.code y bytes maxL ret ∈ tblG) (hrc : rm.cells = 0) (hrs : rm.slots = 0)
    (hd : y.cls ≠ "java/lang/invoke/MethodHandle" ∧ y.cls ≠ "java/lang/invoke/VarHandle" ∧ (parseMethodDescriptor y.desc).map (fun d => d.parameters.length) = some nn) (hR : rm.frames + 1 ≤ R.frames ∧ 8 + (maxL + 11) + rm.locals ≤ R.locals) :
    CallB R s args own idx y bytes maxL ret (mw y bytes maxL ret) rm 0 0 nn ∧ (Cond.static y).before args s = true :=
  ⟨callB_of nn hts (good_mw m4) rfl hrc hrs (hts _ (List.mem_cons_of_mem _ m3)) (hts _ (List.mem_cons_of_mem _ m1)) hd hR, hts _ (List.mem_cons_of_mem _ m2)⟩
theorem mk_V (hts : ∀ w ∈ cx :: tblG, w.before args s = true) (m1 : Cond.methodLink own idx y ∈ tblG) (m2 : Cond.instanceMethod y ∈ tblG) (m5 : Cond.selects C y y ∈ tblG) (m3 : Cond.initialized y.cls ∈ tblG) (m4 : Cond.code y bytes maxL ret ∈ tblG) (hrc : rm.cells = 0) (hrs : rm.slots = 0)
    (hd : y.cls ≠ "java/lang/invoke/MethodHandle" ∧ y.cls ≠ "java/lang/invoke/VarHandle" ∧ (parseMethodDescriptor y.desc).map (fun d => d.parameters.length) = some nn) (hR : rm.frames + 1 ≤ R.frames ∧ 8 + (maxL + 11) + rm.locals ≤ R.locals) :
    CallW R s args own C idx y bytes maxL ret (mw y bytes maxL ret) rm 0 0 nn :=
  ⟨callB_of nn hts (good_mw m4) rfl hrc hrs (hts _ (List.mem_cons_of_mem _ m3)) (hts _ (List.mem_cons_of_mem _ m1)) hd hR, hts _ (List.mem_cons_of_mem _ m2), hts _ (List.mem_cons_of_mem _ m5)⟩
theorem mk_VN {D : va_G} {ct : Nat → ClassId} (hK : gK D ct s) (hts : ∀ w ∈ cx :: tblG, w.before args s = true) (m1 : Cond.methodLinkNest own idx y host ∈ tblN) (m2 : Cond.instanceMethod y ∈ tblG) (m5 : Cond.selects C y y ∈ tblG) (m3 : Cond.initialized y.cls ∈ tblG) (m4 : Cond.code y bytes maxL ret ∈ tblG) (hrc : rm.cells = 0) (hrs : rm.slots = 0)
    (hd : y.cls ≠ "java/lang/invoke/MethodHandle" ∧ y.cls ≠ "java/lang/invoke/VarHandle" ∧ (parseMethodDescriptor y.desc).map (fun d => d.parameters.length) = some nn) (hR : rm.frames + 1 ≤ R.frames ∧ 8 + (maxL + 11) + rm.locals ≤ R.locals) :
    va_CN R s args own idx y host bytes maxL ret (mw y bytes maxL ret) rm 0 0 nn ∧ (Cond.instanceMethod y).before args s = true ∧ (Cond.selects C y y).before args s = true :=
  ⟨va_cnB nn hts (good_mw m4) rfl hrc hrs (hK.2 _ m1) (hts _ (List.mem_cons_of_mem _ m3)) hd hR, hts _ (List.mem_cons_of_mem _ m2), hts _ (List.mem_cons_of_mem _ m5)⟩
theorem in_mw {ws : List Cond} (h : ∀ w ∈ ws, w ∈ tblG) : ∀ w ∈ ws, w ∈ cx :: tblG := fun w hw => List.mem_cons_of_mem _ (h w hw)
end MK
theorem nst_use {D : va_G} {ct : Nat → ClassId} {s : State} {w : Cond} (hK : gK D ct s) (hw : w ∈ tblN) (args : Array Value) : w.before args s = true := by
  have h := tblN_nst w hw
  have hz := hK.2 w hw
  cases w <;> first | exact va_Nw.use rfl hz | (simp [isNst] at h; done)
theorem fP {ad : Nat → Nat} {j : Nat} (h : j < 4) : (fun i => if i < 4 then some (ad (5 + 8 * i)) else none) j = some (ad (5 + 8 * j)) := if_pos h
theorem fL {ad : Nat → Nat} {j : Nat} (h : j < 16) : (fun i => if i < 16 then some (ad (37 + 2 * i)) else none) j = some (ad (37 + 2 * j)) := if_pos h
theorem k_iconst_0 : Int32.ofInt 0 = nI 0 := by decide +kernel
theorem k_iconst_1 : Int32.ofInt 1 = nI 1 := by decide +kernel
theorem k_iconst_2 : Int32.ofInt 2 = nI 2 := by decide +kernel
theorem k_iconst_3 : Int32.ofInt 3 = nI 3 := by decide +kernel
theorem k_iconst_4 : Int32.ofInt 4 = nI 4 := by decide +kernel
theorem k_iconst_5 : Int32.ofInt 5 = nI 5 := by decide +kernel
theorem k_bipush_8 : (Int8.ofInt 8).toInt32 = nI 8 := by decide +kernel
theorem k_bipush_15 : (Int8.ofInt 15).toInt32 = nI 15 := by decide +kernel
theorem k_bipush_16 : (Int8.ofInt 16).toInt32 = nI 16 := by decide +kernel
theorem k_bipush_64 : (Int8.ofInt 64).toInt32 = nI 64 := by decide +kernel
theorem k_bipush_75 : (Int8.ofInt 75).toInt32 = nI 75 := by decide +kernel
theorem k_bipush_80 : (Int8.ofInt 80).toInt32 = nI 80 := by decide +kernel
theorem k_bipush_63 : (Int8.ofInt 63).toInt32 = nI 63 := by decide +kernel
theorem k_sipush_255 : (Int16.ofInt 255).toInt32 = nI 255 := by decide +kernel
theorem k_sipush_256 : (Int16.ofInt 256).toInt32 = nI 256 := by decide +kernel
theorem k_sipush_1024 : (Int16.ofInt 1024).toInt32 = nI 1024 := by decide +kernel
theorem k_sipush_1280 : (Int16.ofInt 1280).toInt32 = nI 1280 := by decide +kernel
theorem k_iconst_m1 : Int32.ofInt (-1) = (-1) := by decide +kernel
theorem k_bipush_m2 : (Int8.ofInt (-2)).toInt32 = (-2) := by decide +kernel
theorem k_bipush_m3 : (Int8.ofInt (-3)).toInt32 = (-3) := by decide +kernel
theorem k_bipush_m4 : (Int8.ofInt (-4)).toInt32 = (-4) := by decide +kernel
