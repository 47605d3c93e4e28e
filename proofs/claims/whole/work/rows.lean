section
/-- the locals, by place: what stands at a place that is some .. -/
def lq (ls : Array Slot) (L : List (Option Value)) : Prop := ls.size = L.length ∧ lv_wf ls ∧ ∀ (i : Nat) (v : Value), L[i]? = some (some v) → v.category = 1 ∧ ls[i]? = some (.val v)
def lq_en : Nat → List (Option Value) → List (Nat × Value)
  | _, [] => []
  | k, none :: t => lq_en (k + 1) t
  | k, some v :: t => (k, v) :: lq_en (k + 1) t
theorem lq_en_mem : ∀ (L : List (Option Value)) (k i : Nat) (v : Value), (i, v) ∈ lq_en k L ↔ ∃ j, i = k + j ∧ L[j]? = some (some v)
  | [], k, i, v => by simp [lq_en]
  | none :: t, k, i, v => by
    rw [lq_en, lq_en_mem t (k + 1) i v]
    constructor
    · rintro ⟨j, h1, h2⟩
      exact ⟨j + 1, by omega, by simpa using h2⟩
    · rintro ⟨j, h1, h2⟩
      cases j with
      | zero => simp at h2
      | succ j => exact ⟨j, by omega, by simpa using h2⟩
  | some w :: t, k, i, v => by
    rw [lq_en, List.mem_cons, lq_en_mem t (k + 1) i v]
    constructor
    · rintro (h | ⟨j, h1, h2⟩)
      · cases h
        exact ⟨0, by omega, by simp⟩
      · exact ⟨j + 1, by omega, by simpa using h2⟩
    · rintro ⟨j, h1, h2⟩
      cases j with
      | zero =>
        left
        simp at h2
        subst h2
        simp at h1
        rw [h1]
      | succ j => exact Or.inr ⟨j, by omega, by simpa using h2⟩
theorem lq.has {ls : Array Slot} {L : List (Option Value)} (h : lq ls L) : lv_has ls L.length (lq_en 0 L) := by
  refine ⟨h.1, h.2.1, fun q hq => ?_⟩
  obtain ⟨i, v⟩ := q
  obtain ⟨j, h1, h2⟩ := (lq_en_mem L 0 i v).mp hq
  have h3 : i = j := by omega
  subst h3
  exact (h.2.2 i v h2).2
theorem lq.at {ls : Array Slot} {L : List (Option Value)} (h : lq ls L) {i : Nat} {v : Value} (hi : L[i]? = some (some v)) : ls[i]? = some (.val v) := (h.2.2 i v hi).2
theorem lq.set {ls ls' : Array Slot} {L : List (Option Value)} {i : Nat} {v : Value} (h : lq ls L) (hi : i < L.length) (hc : v.category = 1) (h' : lv_has ls' L.length ((i, v) :: (lq_en 0 L).filter (fun q => !(q.1 == i) && !(q.1 + 1 == i && q.2.category == 2)))) : lq ls' (L.set i (some v)) := by
  refine ⟨by rw [List.length_set]; exact h'.1, h'.2.1, fun j w hj => ?_⟩
  by_cases hij : i = j
  · subst hij
    rw [List.getElem?_set_self hi] at hj
    cases hj
    exact ⟨hc, h'.2.2 (i, v) List.mem_cons_self⟩
  · rw [List.getElem?_set_ne hij] at hj
    have hw := (h.2.2 j w hj).1
    refine ⟨hw, h'.2.2 (j, w) (List.mem_cons_of_mem _ (List.mem_filter.mpr ⟨(lq_en_mem L 0 j w).mpr ⟨j, by omega, hj⟩, ?_⟩))⟩
    have hji : ¬ j = i := fun e => hij e.symm
    simp [hji, hw]
theorem lq_entry (vs : List Value) (hvs : ∀ v ∈ vs, v.category = 1) (n : Nat) (h : vs.length ≤ n) : lq ((lg_sl vs ++ List.replicate (n - (lg_sl vs).length) Slot.unset).toArray) (vs.map some ++ List.replicate (n - vs.length) none) := by
  have e : lg_sl vs = vs.map Slot.val := by
    unfold lg_sl
    induction vs with
    | nil => rfl
    | cons v t ih =>
      have h1 := hvs v List.mem_cons_self
      rw [List.flatMap_cons, ih (fun w hw => hvs w (List.mem_cons_of_mem _ hw)) (by simp at h; omega)]
      simp [h1]
  have hl := lv_entry vs (n := n) (by rw [e, List.length_map]; exact h)
  refine ⟨by rw [hl.1]; simp; omega, hl.2.1, fun i v hi => ?_⟩
  by_cases hiv : i < vs.length
  · rw [List.getElem?_append_left (by simpa using hiv), List.getElem?_map, Option.map_eq_some_iff] at hi
    obtain ⟨w, h1, h2⟩ := hi
    cases h2
    refine ⟨hvs _ (List.mem_of_getElem? h1), ?_⟩
    rw [e, List.getElem?_toArray, List.getElem?_append_left (by simpa using hiv), List.getElem?_map, h1]
    rfl
  · rw [List.getElem?_append_right (by simpa using Nat.not_lt.mp hiv)] at hi
    have := List.mem_of_getElem? hi
    simp at this
/-- the judgement: from every heap that holds the world w, with the locals L: the machine at pc with the stack st comes to Q -/
def G (p : Program) (l : Launch) (e : Env) (R : Room) (s : State) (m : MethodId) (args : Array Value) (below : List Frame) (meth : Method) (c : Code) (D : va_G) (cl : List vw_C) (A : Nat → Prop) (k n : Nat) (Q : State → Prop) (w : va_W) (L : List (Option Value)) (pc : Nat) (st : List Value) : Prop :=
  ∀ (H : Heap) (locs : List Loc) (ls : Array Slot), va_P D cl w H → va_S A s.heap H locs → lq ls L → W p l e R s m args below meth c H locs k n Q (F0 m pc ls st)
section GR
variable {p : Program} {l : Launch} {e : Env} {R : Room} {s : State} {m : MethodId} {args : Array Value} {below : List Frame} {meth : Method} {c : Code} {D : va_G} {cl : List vw_C} {A : Nat → Prop} {k n : Nat} {Q : State → Prop} {w : va_W} {L : List (Option Value)} {pc : Nat} {st : List Value} {cc : ByteArray}
theorem g_iconst (hx : p.tables.exec = Jvm.exec) (hb : c.code = cc) {i : Int} {v : Int32} (hd : decode cc pc = .ok (.iconst i, 1)) (hv : Int32.ofInt i = v) (kk : G p l e R s m args below meth c D cl A k n Q w L (pc + 1) (.int v :: st)) : G p l e R s m args below meth c D cl A k n Q w L pc (st) :=
  fun H locs ls hP hS hl => lv_iconst hx hb hd hv (kk H locs ls hP hS hl)
theorem g_bipush (hx : p.tables.exec = Jvm.exec) (hb : c.code = cc) {i : Int} {v : Int32} (hd : decode cc pc = .ok (.bipush i, 2)) (hv : (Int8.ofInt i).toInt32 = v) (kk : G p l e R s m args below meth c D cl A k n Q w L (pc + 2) (.int v :: st)) : G p l e R s m args below meth c D cl A k n Q w L pc (st) :=
  fun H locs ls hP hS hl => lv_bipush hx hb hd hv (kk H locs ls hP hS hl)
theorem g_sipush (hx : p.tables.exec = Jvm.exec) (hb : c.code = cc) {i : Int} {v : Int32} (hd : decode cc pc = .ok (.sipush i, 3)) (hv : (Int16.ofInt i).toInt32 = v) (kk : G p l e R s m args below meth c D cl A k n Q w L (pc + 3) (.int v :: st)) : G p l e R s m args below meth c D cl A k n Q w L pc (st) :=
  fun H locs ls hP hS hl => lv_sipush hx hb hd hv (kk H locs ls hP hS hl)
theorem g_ldc (hx : p.tables.exec = Jvm.exec) (hb : c.code = cc) {own : String} {index : Nat} {v : Int32} (hd : decode cc pc = .ok (.ldc index, 2)) (hown : s.vm.findClass own = some m.cls) (hc : (Jvm.Cond.constant own index v).before args s = true) (kk : G p l e R s m args below meth c D cl A k n Q w L (pc + 2) (.int v :: st)) : G p l e R s m args below meth c D cl A k n Q w L pc (st) :=
  fun H locs ls hP hS hl => lv_ldc hx hb hown hc hd (kk H locs ls hP hS hl)
theorem g_iload_n (hx : p.tables.exec = Jvm.exec) (hb : c.code = cc) {j : Fin 4} {i : Nat} {x : Int32} (hd : decode cc pc = .ok (.iload_n j, 1)) (hi : (j : Nat) = i) (hL : L[i]? = some (some (.int x))) (kk : G p l e R s m args below meth c D cl A k n Q w L (pc + 1) (.int x :: st)) : G p l e R s m args below meth c D cl A k n Q w L pc (st) :=
  fun H locs ls hP hS hl => lv_iload_n hx hb hd hi (hl.at hL) (kk H locs ls hP hS hl)
theorem g_iload (hx : p.tables.exec = Jvm.exec) (hb : c.code = cc) {i : Nat} {x : Int32} (hd : decode cc pc = .ok (.iload i, 2)) (hL : L[i]? = some (some (.int x))) (kk : G p l e R s m args below meth c D cl A k n Q w L (pc + 2) (.int x :: st)) : G p l e R s m args below meth c D cl A k n Q w L pc (st) :=
  fun H locs ls hP hS hl => lv_iload hx hb hd (hl.at hL) (kk H locs ls hP hS hl)
theorem g_aload_n (hx : p.tables.exec = Jvm.exec) (hb : c.code = cc) {j : Fin 4} {i : Nat} {x : Nat} (hd : decode cc pc = .ok (.aload_n j, 1)) (hi : (j : Nat) = i) (hL : L[i]? = some (some (.ref x))) (kk : G p l e R s m args below meth c D cl A k n Q w L (pc + 1) (.ref x :: st)) : G p l e R s m args below meth c D cl A k n Q w L pc (st) :=
  fun H locs ls hP hS hl => lv_aload_n hx hb hd hi (hl.at hL) (kk H locs ls hP hS hl)
theorem g_aload (hx : p.tables.exec = Jvm.exec) (hb : c.code = cc) {i : Nat} {x : Nat} (hd : decode cc pc = .ok (.aload i, 2)) (hL : L[i]? = some (some (.ref x))) (kk : G p l e R s m args below meth c D cl A k n Q w L (pc + 2) (.ref x :: st)) : G p l e R s m args below meth c D cl A k n Q w L pc (st) :=
  fun H locs ls hP hS hl => lv_aload hx hb hd (hl.at hL) (kk H locs ls hP hS hl)
theorem g_istore_n (hx : p.tables.exec = Jvm.exec) (hb : c.code = cc) {j : Fin 4} {i : Nat} {x : Int32} {L' : List (Option Value)} (hd : decode cc pc = .ok (.istore_n j, 1)) (hi : (j : Nat) = i) (hn : i < L.length) (hL : L.set i (some (.int x)) = L') (kk : G p l e R s m args below meth c D cl A k n Q w L' (pc + 1) (st)) : G p l e R s m args below meth c D cl A k n Q w L pc (.int x :: st) :=
  fun H locs ls hP hS hl => lv_istore_n hx hb hd hi hl.has hn rfl (fun ls' h' => kk H locs ls' hP hS (hL ▸ hl.set hn rfl h'))
theorem g_istore (hx : p.tables.exec = Jvm.exec) (hb : c.code = cc) {i : Nat} {x : Int32} {L' : List (Option Value)} (hd : decode cc pc = .ok (.istore i, 2)) (hn : i < L.length) (hL : L.set i (some (.int x)) = L') (kk : G p l e R s m args below meth c D cl A k n Q w L' (pc + 2) (st)) : G p l e R s m args below meth c D cl A k n Q w L pc (.int x :: st) :=
  fun H locs ls hP hS hl => lv_istore hx hb hd hl.has hn rfl (fun ls' h' => kk H locs ls' hP hS (hL ▸ hl.set hn rfl h'))
theorem g_astore_n (hx : p.tables.exec = Jvm.exec) (hb : c.code = cc) {j : Fin 4} {i : Nat} {x : Nat} {L' : List (Option Value)} (hd : decode cc pc = .ok (.astore_n j, 1)) (hi : (j : Nat) = i) (hn : i < L.length) (hL : L.set i (some (.ref x)) = L') (kk : G p l e R s m args below meth c D cl A k n Q w L' (pc + 1) (st)) : G p l e R s m args below meth c D cl A k n Q w L pc (.ref x :: st) :=
  fun H locs ls hP hS hl => lv_astore_n hx hb hd hi hl.has hn rfl (fun ls' h' => kk H locs ls' hP hS (hL ▸ hl.set hn rfl h'))
theorem g_astore (hx : p.tables.exec = Jvm.exec) (hb : c.code = cc) {i : Nat} {x : Nat} {L' : List (Option Value)} (hd : decode cc pc = .ok (.astore i, 2)) (hn : i < L.length) (hL : L.set i (some (.ref x)) = L') (kk : G p l e R s m args below meth c D cl A k n Q w L' (pc + 2) (st)) : G p l e R s m args below meth c D cl A k n Q w L pc (.ref x :: st) :=
  fun H locs ls hP hS hl => lv_astore hx hb hd hl.has hn rfl (fun ls' h' => kk H locs ls' hP hS (hL ▸ hl.set hn rfl h'))
theorem g_iinc (hx : p.tables.exec = Jvm.exec) (hb : c.code = cc) {i : Nat} {d : Int} {x v : Int32} {L' : List (Option Value)} (hd : decode cc pc = .ok (.iinc i d, 3)) (hi : L[i]? = some (some (.int x))) (hv : x + Int32.ofInt d = v) (hL : L.set i (some (.int v)) = L') (kk : G p l e R s m args below meth c D cl A k n Q w L' (pc + 3) st) : G p l e R s m args below meth c D cl A k n Q w L pc st := by
  intro H locs ls hP hS hl
  have hn : i < L.length := (List.getElem?_eq_some_iff.mp hi).1
  obtain ⟨q, hq⟩ := List.getElem?_of_mem ((lq_en_mem L 0 i (.int x)).mpr ⟨i, by omega, hi⟩)
  exact lv_iinc hx hb hd hl.has hq hv hn rfl (fun ls' h' => kk H locs ls' hP hS (hL ▸ hl.set hn rfl h'))
theorem g_iadd (hx : p.tables.exec = Jvm.exec) (hb : c.code = cc) {x y : Int32} (hd : decode cc pc = .ok (.iadd, 1))  (kk : G p l e R s m args below meth c D cl A k n Q w L (pc + 1) (.int (x + y) :: st)) : G p l e R s m args below meth c D cl A k n Q w L pc (.int y :: .int x :: st) :=
  fun H locs ls hP hS hl => lv_iadd hx hb hd (kk H locs ls hP hS hl)
theorem g_isub (hx : p.tables.exec = Jvm.exec) (hb : c.code = cc) {x y : Int32} (hd : decode cc pc = .ok (.isub, 1))  (kk : G p l e R s m args below meth c D cl A k n Q w L (pc + 1) (.int (x - y) :: st)) : G p l e R s m args below meth c D cl A k n Q w L pc (.int y :: .int x :: st) :=
  fun H locs ls hP hS hl => lv_isub hx hb hd (kk H locs ls hP hS hl)
theorem g_imul (hx : p.tables.exec = Jvm.exec) (hb : c.code = cc) {x y : Int32} (hd : decode cc pc = .ok (.imul, 1))  (kk : G p l e R s m args below meth c D cl A k n Q w L (pc + 1) (.int (x * y) :: st)) : G p l e R s m args below meth c D cl A k n Q w L pc (.int y :: .int x :: st) :=
  fun H locs ls hP hS hl => lv_imul hx hb hd (kk H locs ls hP hS hl)
theorem g_iand (hx : p.tables.exec = Jvm.exec) (hb : c.code = cc) {x y : Int32} (hd : decode cc pc = .ok (.iand, 1))  (kk : G p l e R s m args below meth c D cl A k n Q w L (pc + 1) (.int (x &&& y) :: st)) : G p l e R s m args below meth c D cl A k n Q w L pc (.int y :: .int x :: st) :=
  fun H locs ls hP hS hl => lv_iand hx hb hd (kk H locs ls hP hS hl)
theorem g_ior (hx : p.tables.exec = Jvm.exec) (hb : c.code = cc) {x y : Int32} (hd : decode cc pc = .ok (.ior, 1))  (kk : G p l e R s m args below meth c D cl A k n Q w L (pc + 1) (.int (x ||| y) :: st)) : G p l e R s m args below meth c D cl A k n Q w L pc (.int y :: .int x :: st) :=
  fun H locs ls hP hS hl => lv_ior hx hb hd (kk H locs ls hP hS hl)
theorem g_ixor (hx : p.tables.exec = Jvm.exec) (hb : c.code = cc) {x y : Int32} (hd : decode cc pc = .ok (.ixor, 1))  (kk : G p l e R s m args below meth c D cl A k n Q w L (pc + 1) (.int (x ^^^ y) :: st)) : G p l e R s m args below meth c D cl A k n Q w L pc (.int y :: .int x :: st) :=
  fun H locs ls hP hS hl => lv_ixor hx hb hd (kk H locs ls hP hS hl)
theorem g_ishl (hx : p.tables.exec = Jvm.exec) (hb : c.code = cc) {x y : Int32} (hd : decode cc pc = .ok (.ishl, 1))  (kk : G p l e R s m args below meth c D cl A k n Q w L (pc + 1) (.int (x <<< (y &&& 31)) :: st)) : G p l e R s m args below meth c D cl A k n Q w L pc (.int y :: .int x :: st) :=
  fun H locs ls hP hS hl => lv_ishl hx hb hd (kk H locs ls hP hS hl)
theorem g_ishr (hx : p.tables.exec = Jvm.exec) (hb : c.code = cc) {x y : Int32} (hd : decode cc pc = .ok (.ishr, 1))  (kk : G p l e R s m args below meth c D cl A k n Q w L (pc + 1) (.int (x >>> (y &&& 31)) :: st)) : G p l e R s m args below meth c D cl A k n Q w L pc (.int y :: .int x :: st) :=
  fun H locs ls hP hS hl => lv_ishr hx hb hd (kk H locs ls hP hS hl)
theorem g_idiv (hx : p.tables.exec = Jvm.exec) (hb : c.code = cc) {x y : Int32} (hd : decode cc pc = .ok (.idiv, 1)) (hne : ¬ y = 0) (kk : G p l e R s m args below meth c D cl A k n Q w L (pc + 1) (.int (x / y) :: st)) : G p l e R s m args below meth c D cl A k n Q w L pc (.int y :: .int x :: st) :=
  fun H locs ls hP hS hl => lv_idiv hx hb hd hne (kk H locs ls hP hS hl)
theorem g_irem (hx : p.tables.exec = Jvm.exec) (hb : c.code = cc) {x y : Int32} (hd : decode cc pc = .ok (.irem, 1)) (hne : ¬ y = 0) (kk : G p l e R s m args below meth c D cl A k n Q w L (pc + 1) (.int (x - x / y * y) :: st)) : G p l e R s m args below meth c D cl A k n Q w L pc (.int y :: .int x :: st) :=
  fun H locs ls hP hS hl => lv_irem hx hb hd hne (kk H locs ls hP hS hl)
theorem g_iushr (hx : p.tables.exec = Jvm.exec) (hb : c.code = cc) {x y v : Int32} (hd : decode cc pc = .ok (.iushr, 1)) (hv : (x.toUInt32 >>> (y.toUInt32 &&& Int32.toUInt32 31)).toInt32 = v) (kk : G p l e R s m args below meth c D cl A k n Q w L (pc + 1) (.int v :: st)) : G p l e R s m args below meth c D cl A k n Q w L pc (.int y :: .int x :: st) :=
  fun H locs ls hP hS hl => lv_iushr hx hb hd hv (kk H locs ls hP hS hl)
theorem g_dup (hx : p.tables.exec = Jvm.exec) (hb : c.code = cc) {va : Value} (hd : decode cc pc = .ok (.dup, 1)) (hva : va.category = 1) (kk : G p l e R s m args below meth c D cl A k n Q w L (pc + 1) (va :: va :: st)) : G p l e R s m args below meth c D cl A k n Q w L pc (va :: st) :=
  fun H locs ls hP hS hl => lv_dup hx hb hd hva (kk H locs ls hP hS hl)
theorem g_pop (hx : p.tables.exec = Jvm.exec) (hb : c.code = cc) {va : Value} (hd : decode cc pc = .ok (.pop, 1)) (hva : va.category = 1) (kk : G p l e R s m args below meth c D cl A k n Q w L (pc + 1) (st)) : G p l e R s m args below meth c D cl A k n Q w L pc (va :: st) :=
  fun H locs ls hP hS hl => lv_pop hx hb hd hva (kk H locs ls hP hS hl)
theorem g_dup_x1 (hx : p.tables.exec = Jvm.exec) (hb : c.code = cc) {va vb : Value} (hd : decode cc pc = .ok (.dup_x1, 1)) (hva : va.category = 1) (hvb : vb.category = 1) (kk : G p l e R s m args below meth c D cl A k n Q w L (pc + 1) (va :: vb :: va :: st)) : G p l e R s m args below meth c D cl A k n Q w L pc (va :: vb :: st) :=
  fun H locs ls hP hS hl => lv_dup_x1 hx hb hd hva hvb (kk H locs ls hP hS hl)
theorem g_dup2 (hx : p.tables.exec = Jvm.exec) (hb : c.code = cc) {va vb : Value} (hd : decode cc pc = .ok (.dup2, 1)) (hva : va.category = 1) (hvb : vb.category = 1) (kk : G p l e R s m args below meth c D cl A k n Q w L (pc + 1) (va :: vb :: va :: vb :: st)) : G p l e R s m args below meth c D cl A k n Q w L pc (va :: vb :: st) :=
  fun H locs ls hP hS hl => lv_dup2_11 hx hb hd hva hvb (kk H locs ls hP hS hl)
theorem g_dup_x2 (hx : p.tables.exec = Jvm.exec) (hb : c.code = cc) {va vb vd : Value} (hd : decode cc pc = .ok (.dup_x2, 1)) (hva : va.category = 1) (hvb : vb.category = 1) (hvd : vd.category = 1) (kk : G p l e R s m args below meth c D cl A k n Q w L (pc + 1) (va :: vb :: vd :: va :: st)) : G p l e R s m args below meth c D cl A k n Q w L pc (va :: vb :: vd :: st) :=
  fun H locs ls hP hS hl => lv_dup_x2 hx hb hd hva hvb hvd (kk H locs ls hP hS hl)
theorem g_icmp_eq (hx : p.tables.exec = Jvm.exec) (hb : c.code = cc) {x y : Int32} {off : Int} {tgt : Nat} (hd : decode cc pc = .ok (.if_icmp .eq off, 3)) (ht : (pc : Int) + off = (tgt : Int)) (kt : x = y → G p l e R s m args below meth c D cl A k n Q w L tgt st) (kf : ¬ x = y → G p l e R s m args below meth c D cl A k n Q w L (pc + 3) st) : G p l e R s m args below meth c D cl A k n Q w L pc (.int y :: .int x :: st) :=
  fun H locs ls hP hS hl => lv_icmp_eq hx hb hd ht (fun h => kt h H locs ls hP hS hl) (fun h => kf h H locs ls hP hS hl)
theorem g_if_eq (hx : p.tables.exec = Jvm.exec) (hb : c.code = cc) {x : Int32} {off : Int} {tgt : Nat} (hd : decode cc pc = .ok (.ifCond .eq off, 3)) (ht : (pc : Int) + off = (tgt : Int)) (kt : x = 0 → G p l e R s m args below meth c D cl A k n Q w L tgt st) (kf : ¬ x = 0 → G p l e R s m args below meth c D cl A k n Q w L (pc + 3) st) : G p l e R s m args below meth c D cl A k n Q w L pc (.int x :: st) :=
  fun H locs ls hP hS hl => lv_if_eq hx hb hd ht (fun h => kt h H locs ls hP hS hl) (fun h => kf h H locs ls hP hS hl)
theorem g_icmp_ne (hx : p.tables.exec = Jvm.exec) (hb : c.code = cc) {x y : Int32} {off : Int} {tgt : Nat} (hd : decode cc pc = .ok (.if_icmp .ne off, 3)) (ht : (pc : Int) + off = (tgt : Int)) (kt : ¬ x = y → G p l e R s m args below meth c D cl A k n Q w L tgt st) (kf : x = y → G p l e R s m args below meth c D cl A k n Q w L (pc + 3) st) : G p l e R s m args below meth c D cl A k n Q w L pc (.int y :: .int x :: st) :=
  fun H locs ls hP hS hl => lv_icmp_ne hx hb hd ht (fun h => kt h H locs ls hP hS hl) (fun h => kf h H locs ls hP hS hl)
theorem g_if_ne (hx : p.tables.exec = Jvm.exec) (hb : c.code = cc) {x : Int32} {off : Int} {tgt : Nat} (hd : decode cc pc = .ok (.ifCond .ne off, 3)) (ht : (pc : Int) + off = (tgt : Int)) (kt : ¬ x = 0 → G p l e R s m args below meth c D cl A k n Q w L tgt st) (kf : x = 0 → G p l e R s m args below meth c D cl A k n Q w L (pc + 3) st) : G p l e R s m args below meth c D cl A k n Q w L pc (.int x :: st) :=
  fun H locs ls hP hS hl => lv_if_ne hx hb hd ht (fun h => kt h H locs ls hP hS hl) (fun h => kf h H locs ls hP hS hl)
theorem g_icmp_lt (hx : p.tables.exec = Jvm.exec) (hb : c.code = cc) {x y : Int32} {off : Int} {tgt : Nat} (hd : decode cc pc = .ok (.if_icmp .lt off, 3)) (ht : (pc : Int) + off = (tgt : Int)) (kt : x < y → G p l e R s m args below meth c D cl A k n Q w L tgt st) (kf : ¬ x < y → G p l e R s m args below meth c D cl A k n Q w L (pc + 3) st) : G p l e R s m args below meth c D cl A k n Q w L pc (.int y :: .int x :: st) :=
  fun H locs ls hP hS hl => lv_icmp_lt hx hb hd ht (fun h => kt h H locs ls hP hS hl) (fun h => kf h H locs ls hP hS hl)
theorem g_if_lt (hx : p.tables.exec = Jvm.exec) (hb : c.code = cc) {x : Int32} {off : Int} {tgt : Nat} (hd : decode cc pc = .ok (.ifCond .lt off, 3)) (ht : (pc : Int) + off = (tgt : Int)) (kt : x < 0 → G p l e R s m args below meth c D cl A k n Q w L tgt st) (kf : ¬ x < 0 → G p l e R s m args below meth c D cl A k n Q w L (pc + 3) st) : G p l e R s m args below meth c D cl A k n Q w L pc (.int x :: st) :=
  fun H locs ls hP hS hl => lv_if_lt hx hb hd ht (fun h => kt h H locs ls hP hS hl) (fun h => kf h H locs ls hP hS hl)
theorem g_icmp_ge (hx : p.tables.exec = Jvm.exec) (hb : c.code = cc) {x y : Int32} {off : Int} {tgt : Nat} (hd : decode cc pc = .ok (.if_icmp .ge off, 3)) (ht : (pc : Int) + off = (tgt : Int)) (kt : y ≤ x → G p l e R s m args below meth c D cl A k n Q w L tgt st) (kf : ¬ y ≤ x → G p l e R s m args below meth c D cl A k n Q w L (pc + 3) st) : G p l e R s m args below meth c D cl A k n Q w L pc (.int y :: .int x :: st) :=
  fun H locs ls hP hS hl => lv_icmp_ge hx hb hd ht (fun h => kt h H locs ls hP hS hl) (fun h => kf h H locs ls hP hS hl)
theorem g_if_ge (hx : p.tables.exec = Jvm.exec) (hb : c.code = cc) {x : Int32} {off : Int} {tgt : Nat} (hd : decode cc pc = .ok (.ifCond .ge off, 3)) (ht : (pc : Int) + off = (tgt : Int)) (kt : 0 ≤ x → G p l e R s m args below meth c D cl A k n Q w L tgt st) (kf : ¬ 0 ≤ x → G p l e R s m args below meth c D cl A k n Q w L (pc + 3) st) : G p l e R s m args below meth c D cl A k n Q w L pc (.int x :: st) :=
  fun H locs ls hP hS hl => lv_if_ge hx hb hd ht (fun h => kt h H locs ls hP hS hl) (fun h => kf h H locs ls hP hS hl)
theorem g_icmp_gt (hx : p.tables.exec = Jvm.exec) (hb : c.code = cc) {x y : Int32} {off : Int} {tgt : Nat} (hd : decode cc pc = .ok (.if_icmp .gt off, 3)) (ht : (pc : Int) + off = (tgt : Int)) (kt : y < x → G p l e R s m args below meth c D cl A k n Q w L tgt st) (kf : ¬ y < x → G p l e R s m args below meth c D cl A k n Q w L (pc + 3) st) : G p l e R s m args below meth c D cl A k n Q w L pc (.int y :: .int x :: st) :=
  fun H locs ls hP hS hl => lv_icmp_gt hx hb hd ht (fun h => kt h H locs ls hP hS hl) (fun h => kf h H locs ls hP hS hl)
theorem g_if_gt (hx : p.tables.exec = Jvm.exec) (hb : c.code = cc) {x : Int32} {off : Int} {tgt : Nat} (hd : decode cc pc = .ok (.ifCond .gt off, 3)) (ht : (pc : Int) + off = (tgt : Int)) (kt : 0 < x → G p l e R s m args below meth c D cl A k n Q w L tgt st) (kf : ¬ 0 < x → G p l e R s m args below meth c D cl A k n Q w L (pc + 3) st) : G p l e R s m args below meth c D cl A k n Q w L pc (.int x :: st) :=
  fun H locs ls hP hS hl => lv_if_gt hx hb hd ht (fun h => kt h H locs ls hP hS hl) (fun h => kf h H locs ls hP hS hl)
theorem g_icmp_le (hx : p.tables.exec = Jvm.exec) (hb : c.code = cc) {x y : Int32} {off : Int} {tgt : Nat} (hd : decode cc pc = .ok (.if_icmp .le off, 3)) (ht : (pc : Int) + off = (tgt : Int)) (kt : x ≤ y → G p l e R s m args below meth c D cl A k n Q w L tgt st) (kf : ¬ x ≤ y → G p l e R s m args below meth c D cl A k n Q w L (pc + 3) st) : G p l e R s m args below meth c D cl A k n Q w L pc (.int y :: .int x :: st) :=
  fun H locs ls hP hS hl => lv_icmp_le hx hb hd ht (fun h => kt h H locs ls hP hS hl) (fun h => kf h H locs ls hP hS hl)
theorem g_if_le (hx : p.tables.exec = Jvm.exec) (hb : c.code = cc) {x : Int32} {off : Int} {tgt : Nat} (hd : decode cc pc = .ok (.ifCond .le off, 3)) (ht : (pc : Int) + off = (tgt : Int)) (kt : x ≤ 0 → G p l e R s m args below meth c D cl A k n Q w L tgt st) (kf : ¬ x ≤ 0 → G p l e R s m args below meth c D cl A k n Q w L (pc + 3) st) : G p l e R s m args below meth c D cl A k n Q w L pc (.int x :: st) :=
  fun H locs ls hP hS hl => lv_if_le hx hb hd ht (fun h => kt h H locs ls hP hS hl) (fun h => kf h H locs ls hP hS hl)
theorem g_goto (hx : p.tables.exec = Jvm.exec) (hb : c.code = cc) {off : Int} {tgt : Nat} (hd : decode cc pc = .ok (.goto off, 3)) (ht : (pc : Int) + off = (tgt : Int)) (kk : G p l e R s m args below meth c D cl A k n Q w L tgt st) : G p l e R s m args below meth c D cl A k n Q w L pc st :=
  fun H locs ls hP hS hl => lv_goto hx hb hd ht (kk H locs ls hP hS hl)
theorem g_tableIn (hx : p.tables.exec = Jvm.exec) (hb : c.code = cc) {dflt lo hi : Int} {offs : Array Int} {len : Nat} {x : Int32} {off : Int} {tgt : Nat} (hd : decode cc pc = .ok (.tableswitch dflt lo hi offs, len)) (h1 : ¬ x.toInt < lo) (h2 : ¬ hi < x.toInt) (ho : offs[(x.toInt - lo).toNat]? = some off) (ht : (pc : Int) + off = (tgt : Int)) (kk : G p l e R s m args below meth c D cl A k n Q w L tgt st) : G p l e R s m args below meth c D cl A k n Q w L pc (.int x :: st) :=
  fun H locs ls hP hS hl => lv_tableIn hx hb hd h1 h2 ho ht (kk H locs ls hP hS hl)
theorem g_tableOut (hx : p.tables.exec = Jvm.exec) (hb : c.code = cc) {dflt lo hi : Int} {offs : Array Int} {len : Nat} {x : Int32} {tgt : Nat} (hd : decode cc pc = .ok (.tableswitch dflt lo hi offs, len)) (h : x.toInt < lo ∨ hi < x.toInt) (ht : (pc : Int) + dflt = (tgt : Int)) (kk : G p l e R s m args below meth c D cl A k n Q w L tgt st) : G p l e R s m args below meth c D cl A k n Q w L pc (.int x :: st) :=
  fun H locs ls hP hS hl => lv_tableOut hx hb hd h ht (kk H locs ls hP hS hl)
theorem g_val {x y : Int32} (h : x = y) (kk : G p l e R s m args below meth c D cl A k n Q w L pc (.int y :: st)) : G p l e R s m args below meth c D cl A k n Q w L pc (.int x :: st) := h ▸ kk
theorem g_val2 {z : Value} {x y : Int32} (h : x = y) (kk : G p l e R s m args below meth c D cl A k n Q w L pc (z :: .int y :: st)) : G p l e R s m args below meth c D cl A k n Q w L pc (z :: .int x :: st) := h ▸ kk
theorem g_w {w' : va_W} (h : w = w') (kk : G p l e R s m args below meth c D cl A k n Q w' L pc st) : G p l e R s m args below meth c D cl A k n Q w L pc st := h ▸ kk
theorem q_lt0 {a : Nat} (h : a < 2 ^ 32) : nI a < 0 ↔ 2 ^ 31 ≤ a := by
  have e : (nI a).toInt = if a < 2 ^ 31 then (a : Int) else (a : Int) - 2 ^ 32 := by
    unfold nI
    rw [Int32.toInt_ofNat']
    simp only [Int.bmod, Int32.size]
    split <;> split <;> omega
  rw [Int32.lt_iff_toInt_lt, e, show (0 : Int32).toInt = 0 from rfl]
  split <;> omega
theorem q_and (a b : Nat) : nI a &&& nI b = nI (a &&& b) := by
  apply Int32.toBitVec_inj.mp
  unfold nI
  simp [Int32.toBitVec_ofNat', BitVec.ofNat_and]
theorem q_or (a b : Nat) : nI a ||| nI b = nI (a ||| b) := by
  apply Int32.toBitVec_inj.mp
  unfold nI
  simp [Int32.toBitVec_ofNat', BitVec.ofNat_or]
theorem q_s31 : ∀ n, n < 32 → nI n &&& 31 = nI n := by decide +kernel
theorem q_sm : ∀ n, n < 32 → ((nI n &&& 31).toBitVec.smod 32).toNat = n := by decide +kernel
theorem q_shl {a n : Nat} (hn : n < 32) (h : a * 2 ^ n < 2 ^ 32) : nI a <<< (nI n &&& 31) = nI (a * 2 ^ n) := pk_shlN _ n (q_sm n hn) h
theorem q_shr {a n : Nat} (hn : n < 32) (h : a < 2 ^ 31) : nI a >>> (nI n &&& 31) = nI (a / 2 ^ n) := pk_shrN h _ n (q_sm n hn)
theorem q_of (x : Int32) : ∃ n : Nat, n < 2 ^ 32 ∧ x = nI n := by
  refine ⟨x.toBitVec.toNat, x.toBitVec.isLt, ?_⟩
  apply Int32.toBitVec_inj.mp
  unfold nI
  simp [Int32.toBitVec_ofNat']
theorem n_iadd (hx : p.tables.exec = Jvm.exec) (hb : c.code = cc) {a b : Nat} (hd : decode cc pc = .ok (.iadd, 1))  (kk : G p l e R s m args below meth c D cl A k n Q w L (pc + 1) (.int (nI (a + b)) :: st)) : G p l e R s m args below meth c D cl A k n Q w L pc (.int (nI b) :: .int (nI a) :: st) :=
  g_iadd hx hb hd  (g_val (nI_add a b) kk)
theorem n_isub (hx : p.tables.exec = Jvm.exec) (hb : c.code = cc) {a b : Nat} (hd : decode cc pc = .ok (.isub, 1)) (h : b ≤ a) (kk : G p l e R s m args below meth c D cl A k n Q w L (pc + 1) (.int (nI (a - b)) :: st)) : G p l e R s m args below meth c D cl A k n Q w L pc (.int (nI b) :: .int (nI a) :: st) :=
  g_isub hx hb hd  (g_val (pk_sub h) kk)
theorem n_imul (hx : p.tables.exec = Jvm.exec) (hb : c.code = cc) {a b : Nat} (hd : decode cc pc = .ok (.imul, 1))  (kk : G p l e R s m args below meth c D cl A k n Q w L (pc + 1) (.int (nI (a * b)) :: st)) : G p l e R s m args below meth c D cl A k n Q w L pc (.int (nI b) :: .int (nI a) :: st) :=
  g_imul hx hb hd  (g_val (pk_mul a b) kk)
theorem n_iand (hx : p.tables.exec = Jvm.exec) (hb : c.code = cc) {a b : Nat} (hd : decode cc pc = .ok (.iand, 1))  (kk : G p l e R s m args below meth c D cl A k n Q w L (pc + 1) (.int (nI (a &&& b)) :: st)) : G p l e R s m args below meth c D cl A k n Q w L pc (.int (nI b) :: .int (nI a) :: st) :=
  g_iand hx hb hd  (g_val (q_and a b) kk)
theorem n_ior (hx : p.tables.exec = Jvm.exec) (hb : c.code = cc) {a b : Nat} (hd : decode cc pc = .ok (.ior, 1))  (kk : G p l e R s m args below meth c D cl A k n Q w L (pc + 1) (.int (nI (a ||| b)) :: st)) : G p l e R s m args below meth c D cl A k n Q w L pc (.int (nI b) :: .int (nI a) :: st) :=
  g_ior hx hb hd  (g_val (q_or a b) kk)
theorem n_ishl (hx : p.tables.exec = Jvm.exec) (hb : c.code = cc) {a b : Nat} (hd : decode cc pc = .ok (.ishl, 1)) (h : b < 32) (h2 : a * 2 ^ b < 2 ^ 32) (kk : G p l e R s m args below meth c D cl A k n Q w L (pc + 1) (.int (nI (a * 2 ^ b)) :: st)) : G p l e R s m args below meth c D cl A k n Q w L pc (.int (nI b) :: .int (nI a) :: st) :=
  g_ishl hx hb hd  (g_val (q_shl h h2) kk)
theorem n_ishr (hx : p.tables.exec = Jvm.exec) (hb : c.code = cc) {a b : Nat} (hd : decode cc pc = .ok (.ishr, 1)) (h : b < 32) (h2 : a < 2 ^ 31) (kk : G p l e R s m args below meth c D cl A k n Q w L (pc + 1) (.int (nI (a / 2 ^ b)) :: st)) : G p l e R s m args below meth c D cl A k n Q w L pc (.int (nI b) :: .int (nI a) :: st) :=
  g_ishr hx hb hd  (g_val (q_shr h h2) kk)
theorem n_idiv (hx : p.tables.exec = Jvm.exec) (hb : c.code = cc) {a b : Nat} (hd : decode cc pc = .ok (.idiv, 1)) (ha : a < 2 ^ 31) (h0 : 0 < b) (h1 : b < 2 ^ 31) (kk : G p l e R s m args below meth c D cl A k n Q w L (pc + 1) (.int (nI (a / b)) :: st)) : G p l e R s m args below meth c D cl A k n Q w L pc (.int (nI b) :: .int (nI a) :: st) :=
  g_idiv hx hb hd (nI_ne0 h0 h1) (g_val (pk_div ha h0 h1) kk)
theorem n_irem (hx : p.tables.exec = Jvm.exec) (hb : c.code = cc) {a b : Nat} (hd : decode cc pc = .ok (.irem, 1)) (ha : a < 2 ^ 31) (h0 : 0 < b) (h1 : b < 2 ^ 31) (kk : G p l e R s m args below meth c D cl A k n Q w L (pc + 1) (.int (nI (a % b)) :: st)) : G p l e R s m args below meth c D cl A k n Q w L pc (.int (nI b) :: .int (nI a) :: st) :=
  g_irem hx hb hd (nI_ne0 h0 h1) (g_val (pk_rem ha h0 h1) kk)
theorem n_iinc (hx : p.tables.exec = Jvm.exec) (hb : c.code = cc) {i : Nat} {x : Nat} {L' : List (Option Value)} (hd : decode cc pc = .ok (.iinc i 1, 3)) (hi : L[i]? = some (some (.int (nI x)))) (hL : L.set i (some (.int (nI (x + 1)))) = L') (kk : G p l e R s m args below meth c D cl A k n Q w L' (pc + 3) st) : G p l e R s m args below meth c D cl A k n Q w L pc st :=
  g_iinc hx hb hd hi (nI_1 x) hL kk
theorem n_icmp_eq (hx : p.tables.exec = Jvm.exec) (hb : c.code = cc) {a b : Nat} {off : Int} {tgt : Nat} (hd : decode cc pc = .ok (.if_icmp .eq off, 3)) (ht : (pc : Int) + off = (tgt : Int)) (ha : a < 2 ^ 31) (hb2 : b < 2 ^ 31) (kt : a = b → G p l e R s m args below meth c D cl A k n Q w L tgt st) (kf : ¬ a = b → G p l e R s m args below meth c D cl A k n Q w L (pc + 3) st) : G p l e R s m args below meth c D cl A k n Q w L pc (.int (nI b) :: .int (nI a) :: st) :=
  g_icmp_eq hx hb hd ht (fun h => kt ((nI_eq ha hb2).mp h)) (fun h => kf (fun q => h ((nI_eq ha hb2).mpr q)))
theorem n_icmp_ne (hx : p.tables.exec = Jvm.exec) (hb : c.code = cc) {a b : Nat} {off : Int} {tgt : Nat} (hd : decode cc pc = .ok (.if_icmp .ne off, 3)) (ht : (pc : Int) + off = (tgt : Int)) (ha : a < 2 ^ 31) (hb2 : b < 2 ^ 31) (kt : ¬ a = b → G p l e R s m args below meth c D cl A k n Q w L tgt st) (kf : a = b → G p l e R s m args below meth c D cl A k n Q w L (pc + 3) st) : G p l e R s m args below meth c D cl A k n Q w L pc (.int (nI b) :: .int (nI a) :: st) :=
  g_icmp_ne hx hb hd ht (fun h => kt (fun q => h ((nI_eq ha hb2).mpr q))) (fun h => kf ((nI_eq ha hb2).mp h))
theorem n_icmp_lt (hx : p.tables.exec = Jvm.exec) (hb : c.code = cc) {a b : Nat} {off : Int} {tgt : Nat} (hd : decode cc pc = .ok (.if_icmp .lt off, 3)) (ht : (pc : Int) + off = (tgt : Int)) (ha : a < 2 ^ 31) (hb2 : b < 2 ^ 31) (kt : a < b → G p l e R s m args below meth c D cl A k n Q w L tgt st) (kf : b ≤ a → G p l e R s m args below meth c D cl A k n Q w L (pc + 3) st) : G p l e R s m args below meth c D cl A k n Q w L pc (.int (nI b) :: .int (nI a) :: st) :=
  g_icmp_lt hx hb hd ht (fun h => kt ((nI_ltI ha hb2).mp h)) (fun h => kf (Nat.not_lt.mp (fun q => h ((nI_ltI ha hb2).mpr q))))
theorem n_icmp_ge (hx : p.tables.exec = Jvm.exec) (hb : c.code = cc) {a b : Nat} {off : Int} {tgt : Nat} (hd : decode cc pc = .ok (.if_icmp .ge off, 3)) (ht : (pc : Int) + off = (tgt : Int)) (ha : a < 2 ^ 31) (hb2 : b < 2 ^ 31) (kt : b ≤ a → G p l e R s m args below meth c D cl A k n Q w L tgt st) (kf : a < b → G p l e R s m args below meth c D cl A k n Q w L (pc + 3) st) : G p l e R s m args below meth c D cl A k n Q w L pc (.int (nI b) :: .int (nI a) :: st) :=
  g_icmp_ge hx hb hd ht (fun h => kt ((nI_leI hb2 ha).mp h)) (fun h => kf (Nat.not_le.mp (fun q => h ((nI_leI hb2 ha).mpr q))))
theorem n_icmp_gt (hx : p.tables.exec = Jvm.exec) (hb : c.code = cc) {a b : Nat} {off : Int} {tgt : Nat} (hd : decode cc pc = .ok (.if_icmp .gt off, 3)) (ht : (pc : Int) + off = (tgt : Int)) (ha : a < 2 ^ 31) (hb2 : b < 2 ^ 31) (kt : b < a → G p l e R s m args below meth c D cl A k n Q w L tgt st) (kf : a ≤ b → G p l e R s m args below meth c D cl A k n Q w L (pc + 3) st) : G p l e R s m args below meth c D cl A k n Q w L pc (.int (nI b) :: .int (nI a) :: st) :=
  g_icmp_gt hx hb hd ht (fun h => kt ((nI_ltI hb2 ha).mp h)) (fun h => kf (Nat.not_lt.mp (fun q => h ((nI_ltI hb2 ha).mpr q))))
theorem n_icmp_le (hx : p.tables.exec = Jvm.exec) (hb : c.code = cc) {a b : Nat} {off : Int} {tgt : Nat} (hd : decode cc pc = .ok (.if_icmp .le off, 3)) (ht : (pc : Int) + off = (tgt : Int)) (ha : a < 2 ^ 31) (hb2 : b < 2 ^ 31) (kt : a ≤ b → G p l e R s m args below meth c D cl A k n Q w L tgt st) (kf : b < a → G p l e R s m args below meth c D cl A k n Q w L (pc + 3) st) : G p l e R s m args below meth c D cl A k n Q w L pc (.int (nI b) :: .int (nI a) :: st) :=
  g_icmp_le hx hb hd ht (fun h => kt ((nI_leI ha hb2).mp h)) (fun h => kf (Nat.not_le.mp (fun q => h ((nI_leI ha hb2).mpr q))))
theorem n_if_eq (hx : p.tables.exec = Jvm.exec) (hb : c.code = cc) {a : Nat} {off : Int} {tgt : Nat} (hd : decode cc pc = .ok (.ifCond .eq off, 3)) (ht : (pc : Int) + off = (tgt : Int)) (ha : a < 2 ^ 31) (kt : a = 0 → G p l e R s m args below meth c D cl A k n Q w L tgt st) (kf : ¬ a = 0 → G p l e R s m args below meth c D cl A k n Q w L (pc + 3) st) : G p l e R s m args below meth c D cl A k n Q w L pc (.int (nI a) :: st) :=
  g_if_eq hx hb hd ht (fun h => kt ((nI_eq (b := 0) ha (by decide)).mp h)) (fun h => kf (fun q => h ((nI_eq (b := 0) ha (by decide)).mpr q)))
theorem n_if_ne (hx : p.tables.exec = Jvm.exec) (hb : c.code = cc) {a : Nat} {off : Int} {tgt : Nat} (hd : decode cc pc = .ok (.ifCond .ne off, 3)) (ht : (pc : Int) + off = (tgt : Int)) (ha : a < 2 ^ 31) (kt : ¬ a = 0 → G p l e R s m args below meth c D cl A k n Q w L tgt st) (kf : a = 0 → G p l e R s m args below meth c D cl A k n Q w L (pc + 3) st) : G p l e R s m args below meth c D cl A k n Q w L pc (.int (nI a) :: st) :=
  g_if_ne hx hb hd ht (fun h => kt (fun q => h ((nI_eq (b := 0) ha (by decide)).mpr q))) (fun h => kf ((nI_eq (b := 0) ha (by decide)).mp h))
theorem g_get (hx : p.tables.exec = Jvm.exec) (hb : c.code = cc) {own C : String} {T : u_T} {N ci index : Nat} {Ts : List Cond} {tys : List (ClassId × FieldType)} {a q0 : Nat} {fs : List Value} {v : Value} (hts : ∀ w ∈ Ts, w.before args s = true) (hin : ∀ w ∈ u_ws C T N, w ∈ Ts) (hown : s.vm.findClass own = some m.cls) (hK : va_K D cl tys s) (he : w[q0]? = some (a, .inr (ci, fs))) (hc : cl[ci]? = some (C, T, N)) (f : Nat) (hf : f < N) (hlink : (Cond.fieldLink own index (T f).1 (T f).2.1 (T f).2.2.1).before args s = true) (hv : fs[f]? = some v) (hd : decode cc pc = .ok (.getfield index, 3))
    (kk : G p l e R s m args below meth c D cl A k n Q w L (pc + 3) (v :: st)) : G p l e R s m args below meth c D cl A k n Q w L pc (.ref a :: st) :=
  fun H locs ls hP hS hl => va_get hx hb hts hin hown hK hP q0 he hc f hf hlink (fun _ h => h) hv hd (kk H locs ls hP hS hl)
theorem g_getN (hx : p.tables.exec = Jvm.exec) (hb : c.code = cc) {own C host : String} {T : u_T} {N ci index : Nat} {Ts : List Cond} {tys : List (ClassId × FieldType)} {a q0 : Nat} {fs : List Value} {v : Value} (hts : ∀ w ∈ Ts, w.before args s = true) (hin : ∀ w ∈ u_ws C T N, w ∈ Ts) (hown : s.vm.findClass own = some m.cls) (hK : va_K D cl tys s) (he : w[q0]? = some (a, .inr (ci, fs))) (hc : cl[ci]? = some (C, T, N)) (f : Nat) (hf : f < N) (hlink : (Cond.fieldLinkNest own index (T f).1 (T f).2.1 (T f).2.2.1 host).before args s = true) (hv : fs[f]? = some v) (hd : decode cc pc = .ok (.getfield index, 3))
    (kk : G p l e R s m args below meth c D cl A k n Q w L (pc + 3) (v :: st)) : G p l e R s m args below meth c D cl A k n Q w L pc (.ref a :: st) :=
  fun H locs ls hP hS hl => va_getN hx hb hts hin hown hK hP q0 he hc f hf hlink (fun _ h => h) hv hd (kk H locs ls hP hS hl)
theorem g_put (hx : p.tables.exec = Jvm.exec) (hb : c.code = cc) {own C : String} {T : u_T} {N ci index : Nat} {Ts : List Cond} {tys : List (ClassId × FieldType)} {a q0 : Nat} {fs : List Value} {v : Value} {ty : FieldType} {w' : va_W} (hts : ∀ w ∈ Ts, w.before args s = true) (hin : ∀ w ∈ u_ws C T N, w ∈ Ts) (ty0 : Nat → FieldType) (hty : ∀ k, k < N → parseFieldDescriptor (T k).2.2.1 = some (ty0 k)) (hnm : ∀ a, a < N → ∀ b, b < N → a ≠ b → (T a).2.1 ≠ (T b).2.1) (hown : s.vm.findClass own = some m.cls) (hK : va_K D cl tys s) (hD : va_D A w) (he : w[q0]? = some (a, .inr (ci, fs))) (hc : cl[ci]? = some (C, T, N)) (f : Nat) (hf : f < N) (hlink : (Cond.fieldLink own index (T f).1 (T f).2.1 (T f).2.2.1).before args s = true) (hfin : (T f).2.2.2 = false) (hpd : parseFieldDescriptor (T f).2.2.1 = some ty) (hn : narrow ty v = v) (hfit : fits ty v = true) (hl2 : f < fs.length) (hd : decode cc pc = .ok (.putfield index, 3)) (hw : w.set q0 (a, .inr (ci, fs.set f v)) = w')
    (kk : G p l e R s m args below meth c D cl A k n Q w' L (pc + 3) st) : G p l e R s m args below meth c D cl A k n Q w L pc (v :: .ref a :: st) :=
  fun H locs ls hP hS hl => va_put hx hb hts hin ty0 hty hnm hown hK hP hD hS q0 he hc f hf hlink (fun _ h => h) hfin hpd hn hfit hl2 hd (fun H1 locs1 hP1 _ hS1 => kk H1 locs1 ls (hw ▸ hP1) hS1 hl)
theorem g_putN (hx : p.tables.exec = Jvm.exec) (hb : c.code = cc) {own C host : String} {T : u_T} {N ci index : Nat} {Ts : List Cond} {tys : List (ClassId × FieldType)} {a q0 : Nat} {fs : List Value} {v : Value} {ty : FieldType} {w' : va_W} (hts : ∀ w ∈ Ts, w.before args s = true) (hin : ∀ w ∈ u_ws C T N, w ∈ Ts) (ty0 : Nat → FieldType) (hty : ∀ k, k < N → parseFieldDescriptor (T k).2.2.1 = some (ty0 k)) (hnm : ∀ a, a < N → ∀ b, b < N → a ≠ b → (T a).2.1 ≠ (T b).2.1) (hown : s.vm.findClass own = some m.cls) (hK : va_K D cl tys s) (hD : va_D A w) (he : w[q0]? = some (a, .inr (ci, fs))) (hc : cl[ci]? = some (C, T, N)) (f : Nat) (hf : f < N) (hlink : (Cond.fieldLinkNest own index (T f).1 (T f).2.1 (T f).2.2.1 host).before args s = true) (hfin : (T f).2.2.2 = false) (hpd : parseFieldDescriptor (T f).2.2.1 = some ty) (hn : narrow ty v = v) (hfit : fits ty v = true) (hl2 : f < fs.length) (hd : decode cc pc = .ok (.putfield index, 3)) (hw : w.set q0 (a, .inr (ci, fs.set f v)) = w')
    (kk : G p l e R s m args below meth c D cl A k n Q w' L (pc + 3) st) : G p l e R s m args below meth c D cl A k n Q w L pc (v :: .ref a :: st) :=
  fun H locs ls hP hS hl => va_putN hx hb hts hin ty0 hty hnm hown hK hP hD hS q0 he hc f hf hlink (fun _ h => h) hfin hpd hn hfit hl2 hd (fun H1 locs1 hP1 _ hS1 => kk H1 locs1 ls (hw ▸ hP1) hS1 hl)
theorem q_in {j n : Nat} (h : j < n) (hn : n < 2 ^ 31) : vp_in (nI j) n := vp_in_nI h hn
theorem g_iald (hx : p.tables.exec = Jvm.exec) (hb : c.code = cc) {tys : List (ClassId × FieldType)} {a q0 j len : Nat} {cA : ClassId} {f : Nat → Int32} {x : Int32} (hK : va_K D cl tys s) (he : w[q0]? = some (a, .inl (cA, len, .inl f))) (t0 : Nat) (ht : tys[t0]? = some (cA, .int)) (hj : j < len) (hlen : len < 2 ^ 31) (hv : f j = x) (hd : decode cc pc = .ok (.iaload, 1))
    (kk : G p l e R s m args below meth c D cl A k n Q w L (pc + 1) (.int x :: st)) : G p l e R s m args below meth c D cl A k n Q w L pc (.int (nI j) :: .ref a :: st) :=
  fun H locs ls hP hS hl => va_iald hx hb hK hP q0 t0 he ht (q_in hj hlen) hd (by rw [nI_clamp (Nat.lt_trans hj hlen), hv]; exact kk H locs ls hP hS hl)
theorem g_zald (hx : p.tables.exec = Jvm.exec) (hb : c.code = cc) {tys : List (ClassId × FieldType)} {a q0 j len : Nat} {cA : ClassId} {f : Nat → Int32} {x : Int32} (hK : va_K D cl tys s) (he : w[q0]? = some (a, .inl (cA, len, .inl f))) (t0 : Nat) (ht : tys[t0]? = some (cA, .boolean)) (hj : j < len) (hlen : len < 2 ^ 31) (hv : f j = x) (hd : decode cc pc = .ok (.baload, 1))
    (kk : G p l e R s m args below meth c D cl A k n Q w L (pc + 1) (.int x :: st)) : G p l e R s m args below meth c D cl A k n Q w L pc (.int (nI j) :: .ref a :: st) :=
  fun H locs ls hP hS hl => va_zald hx hb hK hP q0 t0 he ht (q_in hj hlen) hd (by rw [nI_clamp (Nat.lt_trans hj hlen), hv]; exact kk H locs ls hP hS hl)
theorem g_aald (hx : p.tables.exec = Jvm.exec) (hb : c.code = cc) {tys : List (ClassId × FieldType)} {a q0 j len b : Nat} {cA : ClassId} {C : String} {f : Nat → Option Nat} (hK : va_K D cl tys s) (he : w[q0]? = some (a, .inl (cA, len, .inr (.inr (.inr (.inr f)))))) (t0 : Nat) (ht : tys[t0]? = some (cA, .object C)) (hj : j < len) (hlen : len < 2 ^ 31) (hv : f j = some b) (hd : decode cc pc = .ok (.aaload, 1))
    (kk : G p l e R s m args below meth c D cl A k n Q w L (pc + 1) (.ref b :: st)) : G p l e R s m args below meth c D cl A k n Q w L pc (.int (nI j) :: .ref a :: st) :=
  fun H locs ls hP hS hl => va_aldq hx hb hK hP q0 t0 he ht (q_in hj hlen) hd (by rw [nI_clamp (Nat.lt_trans hj hlen), hv]; exact kk H locs ls hP hS hl)
theorem g_iast (hx : p.tables.exec = Jvm.exec) (hb : c.code = cc) {tys : List (ClassId × FieldType)} {a q0 j len : Nat} {cA : ClassId} {f : Nat → Int32} {x : Int32} {w' : va_W} (hK : va_K D cl tys s) (hD : va_D A w) (he : w[q0]? = some (a, .inl (cA, len, .inl f))) (t0 : Nat) (ht : tys[t0]? = some (cA, .int)) (hj : j < len) (hlen : len < 2 ^ 31) (hd : decode cc pc = .ok (.iastore, 1)) (hw : w.set q0 (a, .inl (cA, len, .inl (upd f j x))) = w')
    (kk : G p l e R s m args below meth c D cl A k n Q w' L (pc + 1) st) : G p l e R s m args below meth c D cl A k n Q w L pc (.int x :: .int (nI j) :: .ref a :: st) :=
  fun H locs ls hP hS hl => va_iast hx hb hK hP hD hS q0 t0 he ht (q_in hj hlen) hd (fun H1 locs1 hP1 _ hS1 => kk H1 locs1 ls (by rw [nI_clamp (Nat.lt_trans hj hlen), hw] at hP1; exact hP1) hS1 hl)
theorem g_zast (hx : p.tables.exec = Jvm.exec) (hb : c.code = cc) {tys : List (ClassId × FieldType)} {a q0 j len : Nat} {cA : ClassId} {f : Nat → Int32} {x : Int32} {w' : va_W} (hK : va_K D cl tys s) (hD : va_D A w) (he : w[q0]? = some (a, .inl (cA, len, .inl f))) (t0 : Nat) (ht : tys[t0]? = some (cA, .boolean)) (hj : j < len) (hlen : len < 2 ^ 31) (hd : decode cc pc = .ok (.bastore, 1)) (hx1 : vp_nar .boolean x = x) (hw : w.set q0 (a, .inl (cA, len, .inl (upd f j x))) = w')
    (kk : G p l e R s m args below meth c D cl A k n Q w' L (pc + 1) st) : G p l e R s m args below meth c D cl A k n Q w L pc (.int x :: .int (nI j) :: .ref a :: st) :=
  fun H locs ls hP hS hl => va_zast hx hb hK hP hD hS q0 t0 he ht (q_in hj hlen) hd (fun H1 locs1 hP1 _ hS1 => kk H1 locs1 ls (by rw [nI_clamp (Nat.lt_trans hj hlen), hx1, hw] at hP1; exact hP1) hS1 hl)
theorem g_alen (hx : p.tables.exec = Jvm.exec) (hb : c.code = cc) {tys : List (ClassId × FieldType)} {a q0 : Nat} {cA : ClassId} {y : vp_A} {ty : FieldType} {len : Nat} (hK : va_K D cl tys s) (he : w[q0]? = some (a, .inl (cA, y))) (t0 : Nat) (ht : tys[t0]? = some (cA, ty)) (hv : y.1 = len) (hd : decode cc pc = .ok (.arraylength, 1))
    (kk : G p l e R s m args below meth c D cl A k n Q w L (pc + 1) (.int (nI len) :: st)) : G p l e R s m args below meth c D cl A k n Q w L pc (.ref a :: st) :=
  fun H locs ls hP hS hl => va_alen hx hb hK hP q0 t0 he ht (v := nI len) (by rw [hv]; rfl) hd (kk H locs ls hP hS hl)
end GR
/-- a contract over a world: i an int (or boolean) answer, v none -/
def CTi (l : Launch) (y : MethodName) (ws : List Cond) (rm : Room) (K : State → Prop) (D : va_G) (cl : List vw_C) (A : Nat → Prop) (av : List Value) (w : va_W) (post : Int32 → va_W → Prop) : Prop :=
  Met l y ws rm (va_Pc av (fun U => va_P D cl w U.heap ∧ K U)) (va_Qi post (fun w' t => va_P D cl w' t.heap) A) 0 0 A
def CTv (l : Launch) (y : MethodName) (ws : List Cond) (rm : Room) (K : State → Prop) (D : va_G) (cl : List vw_C) (A : Nat → Prop) (av : List Value) (w : va_W) (post : va_W → Prop) : Prop :=
  Met l y ws rm (va_Pc av (fun U => va_P D cl w U.heap ∧ K U)) (va_Qv post (fun w' t => va_P D cl w' t.heap) A) 0 0 A
def K_ok (K : State → Prop) : Prop := (∀ (a : Array Value) (U : State) (g : JFrame) (mk : MethodId), K U → K (U.calling g mk a)) ∧ ∀ s U : State, s.WarmedH U.vm → K s → K U
section GC
variable {p : Program} {l : Launch} {e : Env} {R : Room} {s : State} {m : MethodId} {args : Array Value} {below : List Frame} {meth : Method} {c : Code} {D : va_G} {cl : List vw_C} {A A0 : Nat → Prop} {k n : Nat} {Q : State → Prop} {w : va_W} {L : List (Option Value)} {pc : Nat} {st rest : List Value} {cc : ByteArray}
variable {y : MethodName} {bytes : ByteArray} {maxL nn index : Nat} {ret : Option FieldType} {ws ws' Ts : List Cond} {rm : Room} {K : State → Prop} {own C host : String} {b : Nat} {As : List Value}
theorem ct_i {av : List Value} {post : Int32 → va_W → Prop} (hy : plainName y.cls = true) (hw : ws = Cond.code y cc maxL ret :: ws') (hcat : ∀ v ∈ av, v.category = 1) (hlen : av.length ≤ maxL)
    (body : ∀ (p : Program) (e : Env) (s : State) (m : MethodId) (below : List Frame) (meth : Method) (c : Code), p.tables.exec = Jvm.exec → c.code = cc → meth.sig.returnType = ret → (∀ w ∈ ws, w.before av.toArray s = true) → s.vm.findClass y.cls = some m.cls → meth.locks = false → c.maxLocals = maxL → K s →
      G p l e rm s m av.toArray below meth c D cl A 0 0 (MQ below (va_Qi post (fun w' t => va_P D cl w' t.heap) A) av.toArray s 0 0 A) w (av.map some ++ List.replicate (maxL - av.length) none) 0 []) : CTi l y ws rm K D cl A av w post := by
  refine Met.ofW (cc := cc) (maxL := maxL) (ret := ret) hy hw ?_
  intro p e s m args below meth c s₁ B hml hv
  obtain ⟨rfl, hP, hK⟩ := hv
  rw [lg_entry_eq]
  exact body p e s m below meth c B.exec B.bytes B.returns (atoms_spec (ws := ws) B.pre) (findClass_of_methodNamed B.named) B.notSynchronized hml hK s.heap [] _ hP va_S.rf (lq_entry av hcat maxL hlen)
theorem ct_v {av : List Value} {post : va_W → Prop} (hy : plainName y.cls = true) (hw : ws = Cond.code y cc maxL ret :: ws') (hcat : ∀ v ∈ av, v.category = 1) (hlen : av.length ≤ maxL)
    (body : ∀ (p : Program) (e : Env) (s : State) (m : MethodId) (below : List Frame) (meth : Method) (c : Code), p.tables.exec = Jvm.exec → c.code = cc → meth.sig.returnType = ret → (∀ w ∈ ws, w.before av.toArray s = true) → s.vm.findClass y.cls = some m.cls → meth.locks = false → c.maxLocals = maxL → K s →
      G p l e rm s m av.toArray below meth c D cl A 0 0 (MQ below (va_Qv post (fun w' t => va_P D cl w' t.heap) A) av.toArray s 0 0 A) w (av.map some ++ List.replicate (maxL - av.length) none) 0 []) : CTv l y ws rm K D cl A av w post := by
  refine Met.ofW (cc := cc) (maxL := maxL) (ret := ret) hy hw ?_
  intro p e s m args below meth c s₁ B hml hv
  obtain ⟨rfl, hP, hK⟩ := hv
  rw [lg_entry_eq]
  exact body p e s m below meth c B.exec B.bytes B.returns (atoms_spec (ws := ws) B.pre) (findClass_of_methodNamed B.named) B.notSynchronized hml hK s.heap [] _ hP va_S.rf (lq_entry av hcat maxL hlen)
theorem g_iret (hx : p.tables.exec = Jvm.exec) (hb : c.code = cc) (hr : meth.sig.returnType = some .int) (hlk : meth.locks = false) {post : Int32 → va_W → Prop} {x : Int32} (hd : decode cc pc = .ok (.ireturn, 1)) (hp : post x w) : G p l e R s m args below meth c D cl A 0 0 (MQ below (va_Qi post (fun w' t => va_P D cl w' t.heap) A) args s 0 0 A) w L pc [.int x] :=
  fun H locs ls hP hS hl => W.iret hx hb hr (fun t ht hW => ⟨⟨x, w, rfl, hp, (show va_P D cl w t.heap by rw [ht]; exact hP)⟩, hS.F ht⟩) hS.2.2 hd hlk
theorem g_zret (hx : p.tables.exec = Jvm.exec) (hb : c.code = cc) (hr : meth.sig.returnType = some .boolean) (hlk : meth.locks = false) {post : Int32 → va_W → Prop} {x : Int32} (hn : narrow .boolean (.int x) = .int x) (hd : decode cc pc = .ok (.ireturn, 1)) (hp : post x w) : G p l e R s m args below meth c D cl A 0 0 (MQ below (va_Qi post (fun w' t => va_P D cl w' t.heap) A) args s 0 0 A) w L pc [.int x] :=
  fun H locs ls hP hS hl => W.zret hx hb hr hn (fun t ht hW => ⟨⟨x, w, rfl, hp, (show va_P D cl w t.heap by rw [ht]; exact hP)⟩, hS.F ht⟩) hS.2.2 hd hlk
theorem g_vret (hx : p.tables.exec = Jvm.exec) (hb : c.code = cc) (hr : meth.sig.returnType = none) (hlk : meth.locks = false) {post : va_W → Prop} (hd : decode cc pc = .ok (.return_, 1)) (hp : post w) : G p l e R s m args below meth c D cl A 0 0 (MQ below (va_Qv post (fun w' t => va_P D cl w' t.heap) A) args s 0 0 A) w L pc [] :=
  fun H locs ls hP hS hl => W.vret hx hb hr (fun t ht hW => ⟨⟨w, rfl, hp, (show va_P D cl w t.heap by rw [ht]; exact hP)⟩, hS.F ht⟩) hS.2.2 hd hlk
theorem g_callSi {post : Int32 → va_W → Prop} (S : CallFix p m c cc L.length s args Ts own) (hM : CTi l y ws rm K D cl A As w post) (cw : CallB R s args own index y bytes maxL ret ws rm 0 0 nn ∧ (Cond.static y).before args s = true) (hA : ∀ q, A q → A0 q) (hKo : K_ok K) (hK : K s) (hroom : (rest.map fun v => v.category).sum ≤ 8) (hf : k ≤ R.cells ∧ n ≤ R.slots) (hn : As.length = nn) (hst : st = As.reverse ++ rest) (hd : decode cc pc = .ok (.invokestatic index, 3))
    (kk : ∀ (r : Int32) (w' : va_W), post r w' → G p l e R s m args below meth c D cl A0 k n Q w' L (pc + 3) (.int r :: rest)) : G p l e R s m args below meth c D cl A0 k n Q w L pc st :=
  fun H locs ls hP hS hl => va_calli (va_runS (As := As) (rest := rest) S hM cw ⟨(fun a U g mk q => ⟨q.1, q.2.1, hKo.1 a U g mk q.2.2⟩), fun U hU hW => ⟨rfl, by rw [hU]; exact hP, hKo.2 s U hW hK⟩⟩ rfl hn hl.1 hst (lv_room hroom) hd hf) hS (fun q _ h => hA q h) hA (fun r u t H1 locs1 ht hvm hp hB _ _ hS1 => kk r u hp H1 locs1 ls (ht ▸ hB) hS1 hl)
theorem g_callSNi {post : Int32 → va_W → Prop} (S : CallFix p m c cc L.length s args Ts own) (hM : CTi l y ws rm K D cl A As w post) (cw : va_CN R s args own index y host bytes maxL ret ws rm 0 0 nn ∧ (Cond.static y).before args s = true ∧ True) (hA : ∀ q, A q → A0 q) (hKo : K_ok K) (hK : K s) (hroom : (rest.map fun v => v.category).sum ≤ 8) (hf : k ≤ R.cells ∧ n ≤ R.slots) (hn : As.length = nn) (hst : st = As.reverse ++ rest) (hd : decode cc pc = .ok (.invokestatic index, 3))
    (kk : ∀ (r : Int32) (w' : va_W), post r w' → G p l e R s m args below meth c D cl A0 k n Q w' L (pc + 3) (.int r :: rest)) : G p l e R s m args below meth c D cl A0 k n Q w L pc st :=
  fun H locs ls hP hS hl => va_calli (va_runSN (As := As) (rest := rest) S hM cw ⟨(fun a U g mk q => ⟨q.1, q.2.1, hKo.1 a U g mk q.2.2⟩), fun U hU hW => ⟨rfl, by rw [hU]; exact hP, hKo.2 s U hW hK⟩⟩ rfl hn hl.1 hst (lv_room hroom) hd hf) hS (fun q _ h => hA q h) hA (fun r u t H1 locs1 ht hvm hp hB _ _ hS1 => kk r u hp H1 locs1 ls (ht ▸ hB) hS1 hl)
theorem g_callVi {post : Int32 → va_W → Prop} (S : CallFix p m c cc L.length s args Ts own) (hM : CTi l y ws rm K D cl A (.ref b :: As) w post) (cw : CallW R s args own C index y bytes maxL ret ws rm 0 0 nn) {tys : List (ClassId × FieldType)} {q0 ci : Nat} {r0 : vw_C} {fs : List Value} (hKv : va_K D cl tys s) (hc : cl[ci]? = some r0) (he : w[q0]? = some (b, .inr (ci, fs))) (hr0 : r0.1 = C) (hA : ∀ q, A q → A0 q) (hKo : K_ok K) (hK : K s) (hroom : (rest.map fun v => v.category).sum ≤ 8) (hf : k ≤ R.cells ∧ n ≤ R.slots) (hn : As.length = nn) (hst : st = As.reverse ++ .ref b :: rest) (hd : decode cc pc = .ok (.invokevirtual index, 3))
    (kk : ∀ (r : Int32) (w' : va_W), post r w' → G p l e R s m args below meth c D cl A0 k n Q w' L (pc + 3) (.int r :: rest)) : G p l e R s m args below meth c D cl A0 k n Q w L pc st :=
  fun H locs ls hP hS hl => va_calli (va_runV (As := As) (rest := rest) S hM cw ⟨(fun a U g mk q => ⟨q.1, q.2.1, hKo.1 a U g mk q.2.2⟩), hr0 ▸ va_recv hKv hP hc he, fun U hU hW => ⟨rfl, by rw [hU]; exact hP, hKo.2 s U hW hK⟩⟩ rfl hn hl.1 hst (lv_room hroom) hd hf) hS (fun q _ h => hA q h) hA (fun r u t H1 locs1 ht hvm hp hB _ _ hS1 => kk r u hp H1 locs1 ls (ht ▸ hB) hS1 hl)
theorem g_callVNi {post : Int32 → va_W → Prop} (S : CallFix p m c cc L.length s args Ts own) (hM : CTi l y ws rm K D cl A (.ref b :: As) w post) (cw : va_CN R s args own index y host bytes maxL ret ws rm 0 0 nn ∧ (Cond.instanceMethod y).before args s = true ∧ (Cond.selects C y y).before args s = true) {tys : List (ClassId × FieldType)} {q0 ci : Nat} {r0 : vw_C} {fs : List Value} (hKv : va_K D cl tys s) (hc : cl[ci]? = some r0) (he : w[q0]? = some (b, .inr (ci, fs))) (hr0 : r0.1 = C) (hA : ∀ q, A q → A0 q) (hKo : K_ok K) (hK : K s) (hroom : (rest.map fun v => v.category).sum ≤ 8) (hf : k ≤ R.cells ∧ n ≤ R.slots) (hn : As.length = nn) (hst : st = As.reverse ++ .ref b :: rest) (hd : decode cc pc = .ok (.invokevirtual index, 3))
    (kk : ∀ (r : Int32) (w' : va_W), post r w' → G p l e R s m args below meth c D cl A0 k n Q w' L (pc + 3) (.int r :: rest)) : G p l e R s m args below meth c D cl A0 k n Q w L pc st :=
  fun H locs ls hP hS hl => va_calli (va_runVN (As := As) (rest := rest) S hM cw ⟨(fun a U g mk q => ⟨q.1, q.2.1, hKo.1 a U g mk q.2.2⟩), hr0 ▸ va_recv hKv hP hc he, fun U hU hW => ⟨rfl, by rw [hU]; exact hP, hKo.2 s U hW hK⟩⟩ rfl hn hl.1 hst (lv_room hroom) hd hf) hS (fun q _ h => hA q h) hA (fun r u t H1 locs1 ht hvm hp hB _ _ hS1 => kk r u hp H1 locs1 ls (ht ▸ hB) hS1 hl)
theorem g_callSv {post : va_W → Prop} (S : CallFix p m c cc L.length s args Ts own) (hM : CTv l y ws rm K D cl A As w post) (cw : CallB R s args own index y bytes maxL ret ws rm 0 0 nn ∧ (Cond.static y).before args s = true) (hA : ∀ q, A q → A0 q) (hKo : K_ok K) (hK : K s) (hroom : (rest.map fun v => v.category).sum ≤ 8) (hf : k ≤ R.cells ∧ n ≤ R.slots) (hn : As.length = nn) (hst : st = As.reverse ++ rest) (hd : decode cc pc = .ok (.invokestatic index, 3))
    (kk : ∀ (w' : va_W), post w' → G p l e R s m args below meth c D cl A0 k n Q w' L (pc + 3) rest) : G p l e R s m args below meth c D cl A0 k n Q w L pc st :=
  fun H locs ls hP hS hl => va_callv (va_runS (As := As) (rest := rest) S hM cw ⟨(fun a U g mk q => ⟨q.1, q.2.1, hKo.1 a U g mk q.2.2⟩), fun U hU hW => ⟨rfl, by rw [hU]; exact hP, hKo.2 s U hW hK⟩⟩ rfl hn hl.1 hst (lv_room hroom) hd hf) hS (fun q _ h => hA q h) hA (fun u t H1 locs1 ht hvm hp hB _ _ hS1 => kk u hp H1 locs1 ls (ht ▸ hB) hS1 hl)
theorem g_callSNv {post : va_W → Prop} (S : CallFix p m c cc L.length s args Ts own) (hM : CTv l y ws rm K D cl A As w post) (cw : va_CN R s args own index y host bytes maxL ret ws rm 0 0 nn ∧ (Cond.static y).before args s = true ∧ True) (hA : ∀ q, A q → A0 q) (hKo : K_ok K) (hK : K s) (hroom : (rest.map fun v => v.category).sum ≤ 8) (hf : k ≤ R.cells ∧ n ≤ R.slots) (hn : As.length = nn) (hst : st = As.reverse ++ rest) (hd : decode cc pc = .ok (.invokestatic index, 3))
    (kk : ∀ (w' : va_W), post w' → G p l e R s m args below meth c D cl A0 k n Q w' L (pc + 3) rest) : G p l e R s m args below meth c D cl A0 k n Q w L pc st :=
  fun H locs ls hP hS hl => va_callv (va_runSN (As := As) (rest := rest) S hM cw ⟨(fun a U g mk q => ⟨q.1, q.2.1, hKo.1 a U g mk q.2.2⟩), fun U hU hW => ⟨rfl, by rw [hU]; exact hP, hKo.2 s U hW hK⟩⟩ rfl hn hl.1 hst (lv_room hroom) hd hf) hS (fun q _ h => hA q h) hA (fun u t H1 locs1 ht hvm hp hB _ _ hS1 => kk u hp H1 locs1 ls (ht ▸ hB) hS1 hl)
theorem g_callVv {post : va_W → Prop} (S : CallFix p m c cc L.length s args Ts own) (hM : CTv l y ws rm K D cl A (.ref b :: As) w post) (cw : CallW R s args own C index y bytes maxL ret ws rm 0 0 nn) {tys : List (ClassId × FieldType)} {q0 ci : Nat} {r0 : vw_C} {fs : List Value} (hKv : va_K D cl tys s) (hc : cl[ci]? = some r0) (he : w[q0]? = some (b, .inr (ci, fs))) (hr0 : r0.1 = C) (hA : ∀ q, A q → A0 q) (hKo : K_ok K) (hK : K s) (hroom : (rest.map fun v => v.category).sum ≤ 8) (hf : k ≤ R.cells ∧ n ≤ R.slots) (hn : As.length = nn) (hst : st = As.reverse ++ .ref b :: rest) (hd : decode cc pc = .ok (.invokevirtual index, 3))
    (kk : ∀ (w' : va_W), post w' → G p l e R s m args below meth c D cl A0 k n Q w' L (pc + 3) rest) : G p l e R s m args below meth c D cl A0 k n Q w L pc st :=
  fun H locs ls hP hS hl => va_callv (va_runV (As := As) (rest := rest) S hM cw ⟨(fun a U g mk q => ⟨q.1, q.2.1, hKo.1 a U g mk q.2.2⟩), hr0 ▸ va_recv hKv hP hc he, fun U hU hW => ⟨rfl, by rw [hU]; exact hP, hKo.2 s U hW hK⟩⟩ rfl hn hl.1 hst (lv_room hroom) hd hf) hS (fun q _ h => hA q h) hA (fun u t H1 locs1 ht hvm hp hB _ _ hS1 => kk u hp H1 locs1 ls (ht ▸ hB) hS1 hl)
theorem g_callVNv {post : va_W → Prop} (S : CallFix p m c cc L.length s args Ts own) (hM : CTv l y ws rm K D cl A (.ref b :: As) w post) (cw : va_CN R s args own index y host bytes maxL ret ws rm 0 0 nn ∧ (Cond.instanceMethod y).before args s = true ∧ (Cond.selects C y y).before args s = true) {tys : List (ClassId × FieldType)} {q0 ci : Nat} {r0 : vw_C} {fs : List Value} (hKv : va_K D cl tys s) (hc : cl[ci]? = some r0) (he : w[q0]? = some (b, .inr (ci, fs))) (hr0 : r0.1 = C) (hA : ∀ q, A q → A0 q) (hKo : K_ok K) (hK : K s) (hroom : (rest.map fun v => v.category).sum ≤ 8) (hf : k ≤ R.cells ∧ n ≤ R.slots) (hn : As.length = nn) (hst : st = As.reverse ++ .ref b :: rest) (hd : decode cc pc = .ok (.invokevirtual index, 3))
    (kk : ∀ (w' : va_W), post w' → G p l e R s m args below meth c D cl A0 k n Q w' L (pc + 3) rest) : G p l e R s m args below meth c D cl A0 k n Q w L pc st :=
  fun H locs ls hP hS hl => va_callv (va_runVN (As := As) (rest := rest) S hM cw ⟨(fun a U g mk q => ⟨q.1, q.2.1, hKo.1 a U g mk q.2.2⟩), hr0 ▸ va_recv hKv hP hc he, fun U hU hW => ⟨rfl, by rw [hU]; exact hP, hKo.2 s U hW hK⟩⟩ rfl hn hl.1 hst (lv_room hroom) hd hf) hS (fun q _ h => hA q h) hA (fun u t H1 locs1 ht hvm hp hB _ _ hS1 => kk u hp H1 locs1 ls (ht ▸ hB) hS1 hl)
end GC
end
section
/-- the state: cell, place -> number (an int by its 32 bits) -/
abbrev VV : Type := Nat → Nat → Nat
def pt (V : VV) (c k n : Nat) : VV := fun c' k' => if c' = c ∧ k' = k then n else V c' k'
theorem pt_eq {V : VV} {c k n c' k' : Nat} (h : c' = c) (h2 : k' = k) : pt V c k n c' k' = n := by simp [pt, h, h2]
theorem pt_ne {V : VV} {c k n c' k' : Nat} (h : c' ≠ c) : pt V c k n c' k' = V c' k' := by simp [pt, h]
theorem pt_nk {V : VV} {c k n c' k' : Nat} (h : k' ≠ k) : pt V c k n c' k' = V c' k' := by simp [pt, h]
theorem pt_row {V : VV} {c k n : Nat} : pt V c k n c = fun j => if j = k then n else V c j := by funext j; simp [pt]
theorem pt_rne {V : VV} {c k n c' : Nat} (h : c' ≠ c) : pt V c k n c' = V c' := by funext j; simp [pt, h]
/-- the length of a process's array: knownNumbers, knownChanges, payloads, vectors, cutViews, cuts, event -/
def plen (k : Nat) : Nat := match k with
  | 1 => 64
  | 2 => 4
  | 3 => 64
  | 4 => 64
  | 5 => 16
  | 6 => 16
  | _ => 4
/-- the reference's arrays, in the order of its fields -/
def mlen (c : Nat) : Nat := match c with
  | 78 => 16
  | 79 => 16
  | 80 => 16
  | 81 => 64
  | 82 => 256
  | 83 => 1024
  | 84 => 1024
  | 85 => 64
  | 86 => 256
  | 87 => 256
  | 88 => 1280
  | 89 => 16
  | _ => 4
/-- which array class: 1 boolean, 0 int -/
def mty (c : Nat) : Nat := match c with
  | 73 => 1
  | 74 => 1
  | 84 => 1
  | 87 => 1
  | _ => 0
/-- what a cell is: cell 0 the GroupViews, 1 its processes, 2 its lines, 3 sets, 4 starts; 5 + 8 p a process and its seven arrays; 37 + 2 i a line and its packets; 69 the reference, 70 .. 90 its arrays -/
def kd (ad : Nat → Nat) (ct : Nat → ClassId) (c : Nat) (g : Nat → Nat) : va_E :=
  if c = 0 then .inr (0, [.ref (ad 1), .ref (ad 2), .ref (ad 3), .ref (ad 4), .int (nI (g 4))])
  else if c = 1 then .inl (ct 2, 4, .inr (.inr (.inr (.inr (fun i => if i < 4 then some (ad (5 + 8 * i)) else none)))))
  else if c = 2 then .inl (ct 3, 16, .inr (.inr (.inr (.inr (fun i => if i < 16 then some (ad (37 + 2 * i)) else none)))))
  else if c = 3 then .inl (ct 0, 16, .inl (fun i => nI (g i)))
  else if c = 4 then .inl (ct 0, 64, .inl (fun i => nI (g i)))
  else if c < 37 then (if (c - 5) % 8 = 0 then .inr (1, [.int (nI (g 0)), .int (nI (g 1)), .int (nI (g 2)), .int (nI (g 3)), .int (nI (g 4)), .int (nI (g 5)), .int (nI (g 6)), .int (nI (g 7)), .int (nI (g 8)), .ref (ad (c + 1)), .ref (ad (c + 2)), .ref (ad (c + 3)), .ref (ad (c + 4)), .ref (ad (c + 5)), .ref (ad (c + 6)), .ref (ad (c + 7))])
    else .inl (ct 0, plen ((c - 5) % 8), .inl (fun i => nI (g i))))
  else if c < 69 then (if (c - 37) % 2 = 0 then .inr (2, [.ref (ad (c + 1)), .int (nI (g 1)), .int (nI (g 2))]) else .inl (ct 0, 75, .inl (fun i => nI (g i))))
  else if c = 69 then .inr (3, [.ref (ad 70), .ref (ad 71), .ref (ad 72), .ref (ad 73), .ref (ad 74), .ref (ad 75), .ref (ad 76), .ref (ad 77), .ref (ad 78), .ref (ad 79), .int (nI (g 10)), .ref (ad 80), .ref (ad 81), .ref (ad 82), .ref (ad 83), .ref (ad 84), .ref (ad 85), .ref (ad 86), .ref (ad 87), .ref (ad 88), .ref (ad 89), .ref (ad 90), .int (nI (g 22))])
  else .inl (ct (mty c), mlen c, .inl (fun i => nI (g i)))
def gw (ad : Nat → Nat) (ct : Nat → ClassId) (V : VV) : va_W := (List.range 91).map (fun c => (ad c, kd ad ct c (V c)))
section GW
variable {ad : Nat → Nat} {ct : Nat → ClassId} {V : VV}
theorem gw_len : (gw ad ct V).length = 91 := by simp [gw]
theorem gw_at {c : Nat} (h : c < 91) : (gw ad ct V)[c]? = some (ad c, kd ad ct c (V c)) := by simp [gw, h]
theorem gw_put {c k n : Nat} {x : va_E} (h : c < 91) (hx : kd ad ct c (fun j => if j = k then n else V c j) = x) : (gw ad ct V).set c (ad c, x) = gw ad ct (pt V c k n) := by
  apply List.ext_getElem?
  intro i
  by_cases hi : i < 91
  · rw [gw_at hi]
    by_cases hc : c = i
    · subst hc
      rw [List.getElem?_set_self (by rw [gw_len]; exact h), pt_row, hx]
    · rw [List.getElem?_set_ne hc, gw_at hi, pt_rne (fun q => hc q.symm)]
  · rw [List.getElem?_eq_none (by rw [List.length_set, gw_len]; omega), List.getElem?_eq_none (by rw [gw_len]; omega)]
/-- the addresses are apart -/
def adOk (ad : Nat → Nat) : Prop := ∀ i j, i < 91 → j < 91 → ad i = ad j → i = j
/-- the cells' addresses -/
def gA (ad : Nat → Nat) : Nat → Prop := fun q => ∃ c, c < 91 ∧ q = ad c
theorem gw_D (h : adOk ad) : va_D (gA ad) (gw ad ct V) := by
  have key : ∀ (i : Nat) (q : Nat × va_E), (gw ad ct V)[i]? = some q → i < 91 ∧ q.1 = ad i := by
    intro i q hq
    have hi : i < 91 := by have := (List.getElem?_eq_some_iff.mp hq).1; rw [gw_len] at this; exact this
    rw [gw_at hi] at hq
    cases hq
    exact ⟨hi, rfl⟩
  refine ⟨fun i j x y hi hj hxy => ?_, fun i q hq => ?_⟩
  · obtain ⟨a1, a2⟩ := key i x hi
    obtain ⟨b1, b2⟩ := key j y hj
    exact h i j a1 b1 (by rw [← a2, ← b2]; exact hxy)
  · obtain ⟨a1, a2⟩ := key i q hq
    exact ⟨i, a1, a2⟩
theorem gw_P {D : va_G} {cl : List vw_C} {H : Heap} : va_P D cl (gw ad ct V) H ↔ ∀ c, c < 91 → va_at D cl (ad c, kd ad ct c (V c)) H := by
  constructor
  · intro h c hc
    exact h c _ (gw_at hc)
  · intro h i q hq
    have hi : i < 91 := by have := (List.getElem?_eq_some_iff.mp hq).1; rw [gw_len] at this; exact this
    rw [gw_at hi] at hq
    cases hq
    exact h i hi
-- reading a cell
theorem w_0 : (gw ad ct V)[0]? = some (ad 0, .inr (0, [.ref (ad 1), .ref (ad 2), .ref (ad 3), .ref (ad 4), .int (nI (V 0 4))])) := gw_at (by decide)
theorem w_1 : (gw ad ct V)[1]? = some (ad 1, .inl (ct 2, 4, .inr (.inr (.inr (.inr (fun i => if i < 4 then some (ad (5 + 8 * i)) else none)))))) := gw_at (by decide)
theorem w_2 : (gw ad ct V)[2]? = some (ad 2, .inl (ct 3, 16, .inr (.inr (.inr (.inr (fun i => if i < 16 then some (ad (37 + 2 * i)) else none)))))) := gw_at (by decide)
theorem w_3 : (gw ad ct V)[3]? = some (ad 3, .inl (ct 0, 16, .inl (fun i => nI (V 3 i)))) := gw_at (by decide)
theorem w_4 : (gw ad ct V)[4]? = some (ad 4, .inl (ct 0, 64, .inl (fun i => nI (V 4 i)))) := gw_at (by decide)
theorem kd_P {p : Nat} (hp : p < 4) (g : Nat → Nat) : kd ad ct (5 + 8 * p) g = .inr (1, [.int (nI (g 0)), .int (nI (g 1)), .int (nI (g 2)), .int (nI (g 3)), .int (nI (g 4)), .int (nI (g 5)), .int (nI (g 6)), .int (nI (g 7)), .int (nI (g 8)), .ref (ad (5 + 8 * p + 1)), .ref (ad (5 + 8 * p + 2)), .ref (ad (5 + 8 * p + 3)), .ref (ad (5 + 8 * p + 4)), .ref (ad (5 + 8 * p + 5)), .ref (ad (5 + 8 * p + 6)), .ref (ad (5 + 8 * p + 7))]) := by
  match p, hp with
  | 0, _ => rfl
  | 1, _ => rfl
  | 2, _ => rfl
  | 3, _ => rfl
theorem kd_Pa {p : Nat} (hp : p < 4) {k : Nat} (h0 : 0 < k) (hk : k < 8) (g : Nat → Nat) : kd ad ct (5 + 8 * p + k) g = .inl (ct 0, plen k, .inl (fun i => nI (g i))) := by
  unfold kd
  rw [if_neg (by omega), if_neg (by omega), if_neg (by omega), if_neg (by omega), if_neg (by omega), if_pos (by omega), if_neg (by omega), show (5 + 8 * p + k - 5) % 8 = k by omega]
theorem kd_L {i : Nat} (hi : i < 16) (g : Nat → Nat) : kd ad ct (37 + 2 * i) g = .inr (2, [.ref (ad (37 + 2 * i + 1)), .int (nI (g 1)), .int (nI (g 2))]) := by
  unfold kd
  rw [if_neg (by omega), if_neg (by omega), if_neg (by omega), if_neg (by omega), if_neg (by omega), if_neg (by omega), if_pos (by omega), if_pos (by omega)]
theorem kd_La {i : Nat} (hi : i < 16) (g : Nat → Nat) : kd ad ct (37 + 2 * i + 1) g = .inl (ct 0, 75, .inl (fun i => nI (g i))) := by
  unfold kd
  rw [if_neg (by omega), if_neg (by omega), if_neg (by omega), if_neg (by omega), if_neg (by omega), if_neg (by omega), if_pos (by omega), if_neg (by omega)]
theorem w_P {p : Nat} (hp : p < 4) : (gw ad ct V)[5 + 8 * p]? = some (ad (5 + 8 * p), .inr (1, [.int (nI (V (5 + 8 * p) 0)), .int (nI (V (5 + 8 * p) 1)), .int (nI (V (5 + 8 * p) 2)), .int (nI (V (5 + 8 * p) 3)), .int (nI (V (5 + 8 * p) 4)), .int (nI (V (5 + 8 * p) 5)), .int (nI (V (5 + 8 * p) 6)), .int (nI (V (5 + 8 * p) 7)), .int (nI (V (5 + 8 * p) 8)), .ref (ad (5 + 8 * p + 1)), .ref (ad (5 + 8 * p + 2)), .ref (ad (5 + 8 * p + 3)), .ref (ad (5 + 8 * p + 4)), .ref (ad (5 + 8 * p + 5)), .ref (ad (5 + 8 * p + 6)), .ref (ad (5 + 8 * p + 7))])) := by
  rw [gw_at (by omega), kd_P hp]
theorem w_Pa {p : Nat} (hp : p < 4) {k : Nat} (h0 : 0 < k) (hk : k < 8) : (gw ad ct V)[5 + 8 * p + k]? = some (ad (5 + 8 * p + k), .inl (ct 0, plen k, .inl (fun i => nI (V (5 + 8 * p + k) i)))) := by
  rw [gw_at (by omega), kd_Pa hp h0 hk]
theorem w_L {i : Nat} (hi : i < 16) : (gw ad ct V)[37 + 2 * i]? = some (ad (37 + 2 * i), .inr (2, [.ref (ad (37 + 2 * i + 1)), .int (nI (V (37 + 2 * i) 1)), .int (nI (V (37 + 2 * i) 2))])) := by
  rw [gw_at (by omega), kd_L hi]
theorem w_La {i : Nat} (hi : i < 16) : (gw ad ct V)[37 + 2 * i + 1]? = some (ad (37 + 2 * i + 1), .inl (ct 0, 75, .inl (fun j => nI (V (37 + 2 * i + 1) j)))) := by
  rw [gw_at (by omega), kd_La hi]
theorem w_M : (gw ad ct V)[69]? = some (ad 69, .inr (3, [.ref (ad 70), .ref (ad 71), .ref (ad 72), .ref (ad 73), .ref (ad 74), .ref (ad 75), .ref (ad 76), .ref (ad 77), .ref (ad 78), .ref (ad 79), .int (nI (V 69 10)), .ref (ad 80), .ref (ad 81), .ref (ad 82), .ref (ad 83), .ref (ad 84), .ref (ad 85), .ref (ad 86), .ref (ad 87), .ref (ad 88), .ref (ad 89), .ref (ad 90), .int (nI (V 69 22))])) := gw_at (by decide)
theorem kd_Ma {c : Nat} (h0 : 70 ≤ c) (g : Nat → Nat) : kd ad ct c g = .inl (ct (mty c), mlen c, .inl (fun i => nI (g i))) := by
  unfold kd
  rw [if_neg (by omega), if_neg (by omega), if_neg (by omega), if_neg (by omega), if_neg (by omega), if_neg (by omega), if_neg (by omega), if_neg (by omega)]
theorem w_Ma {c : Nat} (h0 : 70 ≤ c) (h1 : c < 91) : (gw ad ct V)[c]? = some (ad c, .inl (ct (mty c), mlen c, .inl (fun i => nI (V c i)))) := by
  rw [gw_at h1, kd_Ma h0]
-- writing a cell
theorem upd_nI (f : Nat → Nat) (j n : Nat) : upd (fun i => nI (f i)) j (nI n) = fun i => nI (if i = j then n else f i) := by
  funext i
  by_cases h : i = j <;> simp [upd, h]
theorem s_0 (n : Nat) : (gw ad ct V).set 0 (ad 0, .inr (0, ([.ref (ad 1), .ref (ad 2), .ref (ad 3), .ref (ad 4), .int (nI (V 0 4))] : List Value).set 4 (.int (nI n)))) = gw ad ct (pt V 0 4 n) := gw_put (by decide) rfl
theorem s_3 (j n : Nat) : (gw ad ct V).set 3 (ad 3, .inl (ct 0, 16, .inl (upd (fun i => nI (V 3 i)) j (nI n)))) = gw ad ct (pt V 3 j n) := gw_put (by decide) (by rw [upd_nI]; rfl)
theorem s_4 (j n : Nat) : (gw ad ct V).set 4 (ad 4, .inl (ct 0, 64, .inl (upd (fun i => nI (V 4 i)) j (nI n)))) = gw ad ct (pt V 4 j n) := gw_put (by decide) (by rw [upd_nI]; rfl)
theorem s_Pa {p : Nat} (hp : p < 4) {k : Nat} (h0 : 0 < k) (hk : k < 8) (j n : Nat) : (gw ad ct V).set (5 + 8 * p + k) (ad (5 + 8 * p + k), .inl (ct 0, plen k, .inl (upd (fun i => nI (V (5 + 8 * p + k) i)) j (nI n)))) = gw ad ct (pt V (5 + 8 * p + k) j n) := gw_put (by omega) (by rw [upd_nI, kd_Pa hp h0 hk])
theorem s_La {i : Nat} (hi : i < 16) (j n : Nat) : (gw ad ct V).set (37 + 2 * i + 1) (ad (37 + 2 * i + 1), .inl (ct 0, 75, .inl (upd (fun j => nI (V (37 + 2 * i + 1) j)) j (nI n)))) = gw ad ct (pt V (37 + 2 * i + 1) j n) := gw_put (by omega) (by rw [upd_nI, kd_La hi])
theorem s_Ma {c : Nat} (h0 : 70 ≤ c) (h1 : c < 91) (j n : Nat) : (gw ad ct V).set c (ad c, .inl (ct (mty c), mlen c, .inl (upd (fun i => nI (V c i)) j (nI n)))) = gw ad ct (pt V c j n) := gw_put h1 (by rw [upd_nI, kd_Ma h0])
theorem s_P {p : Nat} (hp : p < 4) (k n : Nat) (hk : k < 9) : (gw ad ct V).set (5 + 8 * p) (ad (5 + 8 * p), .inr (1, ([.int (nI (V (5 + 8 * p) 0)), .int (nI (V (5 + 8 * p) 1)), .int (nI (V (5 + 8 * p) 2)), .int (nI (V (5 + 8 * p) 3)), .int (nI (V (5 + 8 * p) 4)), .int (nI (V (5 + 8 * p) 5)), .int (nI (V (5 + 8 * p) 6)), .int (nI (V (5 + 8 * p) 7)), .int (nI (V (5 + 8 * p) 8)), .ref (ad (5 + 8 * p + 1)), .ref (ad (5 + 8 * p + 2)), .ref (ad (5 + 8 * p + 3)), .ref (ad (5 + 8 * p + 4)), .ref (ad (5 + 8 * p + 5)), .ref (ad (5 + 8 * p + 6)), .ref (ad (5 + 8 * p + 7))] : List Value).set k (.int (nI n)))) = gw ad ct (pt V (5 + 8 * p) k n) := by
  refine gw_put (by omega) ?_
  rw [kd_P hp]
  match k, hk with
  | 0, _ => rfl
  | 1, _ => rfl
  | 2, _ => rfl
  | 3, _ => rfl
  | 4, _ => rfl
  | 5, _ => rfl
  | 6, _ => rfl
  | 7, _ => rfl
  | 8, _ => rfl
theorem s_L {i : Nat} (hi : i < 16) (k n : Nat) (h0 : 0 < k) (hk : k < 3) : (gw ad ct V).set (37 + 2 * i) (ad (37 + 2 * i), .inr (2, ([.ref (ad (37 + 2 * i + 1)), .int (nI (V (37 + 2 * i) 1)), .int (nI (V (37 + 2 * i) 2))] : List Value).set k (.int (nI n)))) = gw ad ct (pt V (37 + 2 * i) k n) := by
  refine gw_put (by omega) ?_
  rw [kd_L hi]
  match k, h0, hk with
  | 1, _, _ => rfl
  | 2, _, _ => rfl
theorem s_M10 (n : Nat) : (gw ad ct V).set 69 (ad 69, .inr (3, ([.ref (ad 70), .ref (ad 71), .ref (ad 72), .ref (ad 73), .ref (ad 74), .ref (ad 75), .ref (ad 76), .ref (ad 77), .ref (ad 78), .ref (ad 79), .int (nI (V 69 10)), .ref (ad 80), .ref (ad 81), .ref (ad 82), .ref (ad 83), .ref (ad 84), .ref (ad 85), .ref (ad 86), .ref (ad 87), .ref (ad 88), .ref (ad 89), .ref (ad 90), .int (nI (V 69 22))] : List Value).set 10 (.int (nI n)))) = gw ad ct (pt V 69 10 n) := gw_put (by decide) rfl
theorem s_M22 (n : Nat) : (gw ad ct V).set 69 (ad 69, .inr (3, ([.ref (ad 70), .ref (ad 71), .ref (ad 72), .ref (ad 73), .ref (ad 74), .ref (ad 75), .ref (ad 76), .ref (ad 77), .ref (ad 78), .ref (ad 79), .int (nI (V 69 10)), .ref (ad 80), .ref (ad 81), .ref (ad 82), .ref (ad 83), .ref (ad 84), .ref (ad 85), .ref (ad 86), .ref (ad 87), .ref (ad 88), .ref (ad 89), .ref (ad 90), .int (nI (V 69 22))] : List Value).set 22 (.int (nI n)))) = gw ad ct (pt V 69 22 n) := gw_put (by decide) rfl
end GW
end
section
/-- a truth as a number -/
def bN (P : Prop) [Decidable P] : Nat := if P then 1 else 0
theorem bN_t {P : Prop} [Decidable P] (h : P) : bN P = 1 := if_pos h
theorem bN_f {P : Prop} [Decidable P] (h : ¬ P) : bN P = 0 := if_neg h
theorem bN_0 {P : Prop} [Decidable P] : bN P = 0 ↔ ¬ P := by unfold bN; split <;> simp [*]
theorem bN_n0 {P : Prop} [Decidable P] : ¬ bN P = 0 ↔ P := by unfold bN; split <;> simp [*]
theorem bN_1 {P : Prop} [Decidable P] : bN P = 1 ↔ P := by unfold bN; split <;> simp [*]
theorem bN_lt {P : Prop} [Decidable P] : bN P < 2 ^ 31 := by unfold bN; split <;> decide
-- counts: four numbers of eight bits
def pk4 (d : Nat → Nat) : Nat := d 0 + 256 * d 1 + 65536 * d 2 + 16777216 * d 3
def cnt (x r : Nat) : Nat := x / 2 ^ (r * 8) % 256
def pkd (x : Nat) : Prop := x = pk4 (cnt x) ∧ ∀ r, r < 4 → cnt x r ≤ 4
theorem c4 {P : Nat → Prop} (h0 : P 0) (h1 : P 1) (h2 : P 2) (h3 : P 3) : ∀ r, r < 4 → P r
  | 0, _ => h0
  | 1, _ => h1
  | 2, _ => h2
  | 3, _ => h3
theorem cnt_pk {d : Nat → Nat} (h : ∀ r, r < 4 → d r ≤ 255) : ∀ r, r < 4 → cnt (pk4 d) r = d r := by
  have h0 := h 0 (by decide)
  have h1 := h 1 (by decide)
  have h2 := h 2 (by decide)
  have h3 := h 3 (by decide)
  refine c4 ?_ ?_ ?_ ?_ <;> (simp only [cnt, pk4]; simp only [Nat.reduceMul, Nat.reducePow]; omega)
theorem pk_congr {d f : Nat → Nat} (h : ∀ r, r < 4 → d r = f r) : pk4 d = pk4 f := by
  unfold pk4
  rw [h 0 (by decide), h 1 (by decide), h 2 (by decide), h 3 (by decide)]
theorem pkd_pk {d : Nat → Nat} (h : ∀ r, r < 4 → d r ≤ 4) : pkd (pk4 d) := by
  have hc := cnt_pk (d := d) (fun r hr => Nat.le_trans (h r hr) (by decide))
  exact ⟨pk_congr (fun r hr => (hc r hr).symm), fun r hr => by rw [hc r hr]; exact h r hr⟩
theorem pkd_lt {x : Nat} (h : pkd x) : x < 2 ^ 27 := by
  have h0 := h.2 0 (by decide)
  have h1 := h.2 1 (by decide)
  have h2 := h.2 2 (by decide)
  have h3 := h.2 3 (by decide)
  rw [h.1]
  unfold pk4
  omega
theorem pkd_ext {x y : Nat} (hx : pkd x) (hy : pkd y) (h : ∀ r, r < 4 → cnt x r = cnt y r) : x = y := by
  rw [hx.1, hy.1]
  exact pk_congr h
theorem pkd_0 : pkd 0 := ⟨by decide, c4 (by decide) (by decide) (by decide) (by decide)⟩
def wc (x p y : Nat) : Nat := pk4 (fun r => if r = p then y else cnt x r)
theorem pkd_wc {x p y : Nat} (hx : pkd x) (hy : y ≤ 4) : pkd (wc x p y) := pkd_pk (fun r hr => by
  by_cases h : r = p
  · rw [if_pos h]; exact hy
  · rw [if_neg h]; exact hx.2 r hr)
theorem cnt_wc {x p y : Nat} (hx : pkd x) (hy : y ≤ 4) {r : Nat} (hr : r < 4) : cnt (wc x p y) r = if r = p then y else cnt x r := cnt_pk (d := fun r => if r = p then y else cnt x r) (fun r hr => by
  show (if r = p then y else cnt x r) ≤ 255
  by_cases h : r = p
  · rw [if_pos h]; omega
  · rw [if_neg h]; have := hx.2 r hr; omega) r hr
set_option maxRecDepth 100000 in
theorem wc_fin : ∀ a, a < 5 → ∀ b, b < 5 → ∀ d, d < 5 → ∀ f, f < 5 → ∀ p, p < 4 → ∀ y, y < 5 → ((nI (a + 256 * b + 65536 * d + 16777216 * f) &&& ((nI 255 <<< (nI (p * 8) &&& 31)) ^^^ (-1))) ||| (nI y <<< (nI (p * 8) &&& 31))) = nI ((if 0 = p then y else a) + 256 * (if 1 = p then y else b) + 65536 * (if 2 = p then y else d) + 16777216 * (if 3 = p then y else f)) := by decide +kernel
theorem wc_int {x p y : Nat} (hx : pkd x) (hp : p < 4) (hy : y ≤ 4) : ((nI x &&& ((nI 255 <<< (nI (p * 8) &&& 31)) ^^^ (-1))) ||| (nI y <<< (nI (p * 8) &&& 31))) = nI (wc x p y) := by
  have h0 := hx.2 0 (by decide)
  have h1 := hx.2 1 (by decide)
  have h2 := hx.2 2 (by decide)
  have h3 := hx.2 3 (by decide)
  have h := wc_fin (cnt x 0) (by omega) (cnt x 1) (by omega) (cnt x 2) (by omega) (cnt x 3) (by omega) p hp y (by omega)
  have e : cnt x 0 + 256 * cnt x 1 + 65536 * cnt x 2 + 16777216 * cnt x 3 = x := hx.1.symm
  rw [e] at h
  exact h
/-- the bits of a set -/
def sub16 (a b : Nat) : Prop := a &&& b = a
end
section
-- the class, as functions of the state
def cput (X : VV) (i x : Nat) : VV := if X (37 + 2 * i) 2 < 75 then pt (pt X (37 + 2 * i + 1) (X (37 + 2 * i) 2) x) (37 + 2 * i) 2 (X (37 + 2 * i) 2 + 1) else X
def cpo (X : VV) (p set x : Nat) : Nat → VV
  | 0 => X
  | q + 1 => if q ≠ p ∧ set / 2 ^ q % 2 = 1 then cput (cpo X p set x q) (p * 4 + q) x else cpo X p set x q
def cln (X : VV) (p v r n : Nat) : VV := pt X (5 + 8 * p + 1) (v * 4 + r) (X (5 + 8 * p + 1) (v * 4 + r) ||| 2 ^ n)
def csy (X : VV) (p r c : Nat) : VV := pt X (5 + 8 * p + 2) r (X (5 + 8 * p + 2) r ||| 2 ^ c)
def cev (X : VV) (p a b c d : Nat) : VV := pt (pt (pt (pt X (5 + 8 * p + 7) 0 a) (5 + 8 * p + 7) 1 b) (5 + 8 * p + 7) 2 c) (5 + 8 * p + 7) 3 d
def cps (X : VV) (p : Nat) : Nat := if X (5 + 8 * p) 0 = 0 then 2 ^ p else X 3 (X (5 + 8 * p) 0)
def cen (X : VV) (p : Nat) : VV := pt (pt (pt (pt (pt X (5 + 8 * p) 0 (X (5 + 8 * p) 5)) (5 + 8 * p) 5 0) (5 + 8 * p) 4 0) (5 + 8 * p) 7 0) (5 + 8 * p) 8 0
def cSend (X : VV) (p x : Nat) : Int32 × VV :=
  if ¬ X (5 + 8 * p) 4 = 0 then (-2, X) else if 4 ≤ X (5 + 8 * p) 7 then (-3, X) else
  (nI (X (5 + 8 * p) 7 + 1), cpo (cln (pt (pt (pt X (5 + 8 * p) 7 (X (5 + 8 * p) 7 + 1)) (5 + 8 * p + 3) (X (5 + 8 * p) 0 * 4 + X (5 + 8 * p) 7) x) (5 + 8 * p + 4) (X (5 + 8 * p) 0 * 4 + X (5 + 8 * p) 7) (wc (X (5 + 8 * p) 8) p 0)) p (X (5 + 8 * p) 0) p (X (5 + 8 * p) 7 + 1)) p (cps X p) (X (5 + 8 * p) 0 * 4 + X (5 + 8 * p) 7) 4)
def cChange (X : VV) (p set : Nat) : Int32 × VV :=
  if ¬ (1 ≤ set ∧ set ≤ 15 ∧ set / 2 ^ p % 2 = 1) then (-2, X) else if 15 ≤ X (5 + 8 * p) 1 then (-3, X) else
  (nI (X (5 + 8 * p) 1 + 1), cpo (csy (pt (pt (pt (pt (pt (pt (pt X (5 + 8 * p) 1 (X (5 + 8 * p) 1 + 1)) (5 + 8 * p) 2 set) (5 + 8 * p) 4 1) (5 + 8 * p) 3 1) (5 + 8 * p) 5 0) (5 + 8 * p + 5) (X (5 + 8 * p) 1 + 1) (X (5 + 8 * p) 0)) (5 + 8 * p + 6) (X (5 + 8 * p) 1 + 1) (wc (X (5 + 8 * p) 8) p (X (5 + 8 * p) 7))) p p (X (5 + 8 * p) 1 + 1)) p set (64 + (X (5 + 8 * p) 1 + 1)) 4)
def cfm (X : VV) (set : Nat) : Prop := ∀ q, q < 4 → set / 2 ^ q % 2 = 1 → ¬ X (5 + 8 * q) 3 = 0 ∧ set &&& X (5 + 8 * q) 2 = set
def cfo (X : VV) (set n : Nat) : Nat → VV
  | 0 => X
  | q + 1 => if set / 2 ^ q % 2 = 1 then pt (pt (cfo X set n q) 4 (n * 4 + q) (cfo X set n q (5 + 8 * q) 1)) (5 + 8 * q) 3 0 else cfo X set n q
def crn (X : VV) (q v r : Nat) : Nat → VV
  | 0 => X
  | n + 1 => cln (crn X q v r n) q v r (n + 1)
def crl (X : VV) (q v cut : Nat) : Nat → VV
  | 0 => X
  | r + 1 => crn (crl X q v cut r) q v r (cnt cut r)
def crs (X : VV) (q p c : Nat) : VV := if X (5 + 8 * p + 5) c = 0 then csy X q p c else crl (csy X q p c) q (X (5 + 8 * p + 5) c) (X (5 + 8 * p + 6) c) 4
def cCarry (X : VV) (p q : Nat) : Int32 × VV :=
  if X (37 + 2 * (p * 4 + q)) 2 ≤ X (37 + 2 * (p * 4 + q)) 1 then (0, X) else
  if X (37 + 2 * (p * 4 + q) + 1) (X (37 + 2 * (p * 4 + q)) 1) < 64 then (1, cln (pt X (37 + 2 * (p * 4 + q)) 1 (X (37 + 2 * (p * 4 + q)) 1 + 1)) q (X (37 + 2 * (p * 4 + q) + 1) (X (37 + 2 * (p * 4 + q)) 1) / 4) p (X (37 + 2 * (p * 4 + q) + 1) (X (37 + 2 * (p * 4 + q)) 1) % 4 + 1))
  else (2, crs (pt X (37 + 2 * (p * 4 + q)) 1 (X (37 + 2 * (p * 4 + q)) 1 + 1)) q p (X (37 + 2 * (p * 4 + q) + 1) (X (37 + 2 * (p * 4 + q)) 1) - 64))
def cTell (X : VV) (p v : Nat) : Int32 × VV :=
  if ¬ (1 ≤ v ∧ v ≤ X 0 4 ∧ X 3 v / 2 ^ p % 2 = 1) then (-2, X) else if v ≤ X (5 + 8 * p) 6 then (-3, X) else if ¬ X 4 (v * 4 + p) = X (5 + 8 * p) 1 then (-4, X) else
  (0, pt (pt X (5 + 8 * p) 6 v) (5 + 8 * p) 5 v)
/-- the message of q that is next at p can be delivered -/
def cdl (X : VV) (p lim q : Nat) : Prop := cnt (X (5 + 8 * p) 8) q < cnt lim q ∧ X (5 + 8 * p + 1) (X (5 + 8 * p) 0 * 4 + q) / 2 ^ (cnt (X (5 + 8 * p) 8) q + 1) % 2 = 1 ∧ ∀ r, r < 4 → cnt (X (5 + 8 * q + 4) (X (5 + 8 * p) 0 * 4 + cnt (X (5 + 8 * p) 8) q)) r ≤ cnt (X (5 + 8 * p) 8) r
def cdv (X : VV) (p q : Nat) : VV := cev (pt X (5 + 8 * p) 8 (wc (X (5 + 8 * p) 8) q (cnt (X (5 + 8 * p) 8) q + 1))) p 1 q (cnt (X (5 + 8 * p) 8) q + 1) (X (5 + 8 * q + 3) (X (5 + 8 * p) 0 * 4 + cnt (X (5 + 8 * p) 8) q))
def cd1 (X : VV) (p lim : Nat) (r : Int32) (X' : VV) : Prop := (r = 1 ∧ ∃ q, q < 4 ∧ cdl X p lim q ∧ (∀ j, j < q → ¬ cdl X p lim j) ∧ X' = cdv X p q) ∨ (r = 0 ∧ (∀ j, j < 4 → ¬ cdl X p lim j) ∧ X' = X)
def crd (X : VV) (p com : Nat) : Prop := ∀ q, q < 4 → com / 2 ^ q % 2 = 1 → X (5 + 8 * p + 2) q / 2 ^ (X 4 (X (5 + 8 * p) 5 * 4 + q)) % 2 = 1
def cco (X : VV) (p com : Nat) : Nat → Nat
  | 0 => 0
  | q + 1 => if com / 2 ^ q % 2 = 1 ∧ X (5 + 8 * q + 5) (X 4 (X (5 + 8 * p) 5 * 4 + q)) = X (5 + 8 * p) 0 then cco X p com q ||| 2 ^ q else cco X p com q
def mx4 (a b : Nat) : Nat := pk4 (fun r => if cnt a r < cnt b r then cnt b r else cnt a r)
def cli (X : VV) (v cs : Nat) : Nat → Nat
  | 0 => 0
  | q + 1 => if cs / 2 ^ q % 2 = 1 then mx4 (cli X v cs q) (X (5 + 8 * q + 6) (X 4 (v * 4 + q))) else cli X v cs q
def cStep (X : VV) (p : Nat) (r : Int32) (X' : VV) : Prop :=
  (X (5 + 8 * p) 4 = 0 ∧ cd1 X p 67372036 r X') ∨
  (¬ X (5 + 8 * p) 4 = 0 ∧ X (5 + 8 * p) 5 = 0 ∧ r = 0 ∧ X' = X) ∨
  (¬ X (5 + 8 * p) 4 = 0 ∧ ¬ X (5 + 8 * p) 5 = 0 ∧ ¬ crd X p (X 3 (X (5 + 8 * p) 5) &&& cps X p) ∧ r = 0 ∧ X' = X) ∨
  (¬ X (5 + 8 * p) 4 = 0 ∧ ¬ X (5 + 8 * p) 5 = 0 ∧ crd X p (X 3 (X (5 + 8 * p) 5) &&& cps X p) ∧
    ((r = 1 ∧ cd1 X p (cli X (X (5 + 8 * p) 5) (cco X p (X 3 (X (5 + 8 * p) 5) &&& cps X p) 4) 4) 1 X') ∨
     (cd1 X p (cli X (X (5 + 8 * p) 5) (cco X p (X 3 (X (5 + 8 * p) 5) &&& cps X p) 4) 4) 0 X ∧
       ((¬ X (5 + 8 * p) 8 = cli X (X (5 + 8 * p) 5) (cco X p (X 3 (X (5 + 8 * p) 5) &&& cps X p) 4) 4 ∧ r = 0 ∧ X' = X) ∨
        (X (5 + 8 * p) 8 = cli X (X (5 + 8 * p) 5) (cco X p (X 3 (X (5 + 8 * p) 5) &&& cps X p) 4) 4 ∧ r = 2 ∧ X' = cen (cev X p 2 (X (5 + 8 * p) 5) (X 3 (X (5 + 8 * p) 5)) (cco X p (X 3 (X (5 + 8 * p) 5) &&& cps X p) 4)) p)))))
-- the reference
def rpo (Y : VV) (p set x : Nat) : Nat → VV
  | 0 => Y
  | q + 1 => if q ≠ p ∧ ¬ set / 2 ^ q % 2 = 0 then pt (pt (rpo Y p set x q) 88 (80 * (4 * p + q) + rpo Y p set x q 89 (4 * p + q)) x) 89 (4 * p + q) (rpo Y p set x q 89 (4 * p + q) + 1) else rpo Y p set x q
def rps (Y : VV) (p : Nat) : Nat := if Y 70 p = 0 then 2 ^ p else Y 80 (Y 70 p)
def rvc (Y : VV) (p m : Nat) : Nat → VV
  | 0 => Y
  | r + 1 => pt (rvc Y p m r) 83 (4 * m + r) (if r = p then 0 else Y 78 (4 * p + r))
def rSend (Y : VV) (p x : Nat) : Int32 × VV :=
  if ¬ Y 74 p = 0 then (-2, Y) else if Y 77 p = 4 then (-3, Y) else
  (nI (Y 77 p + 1), rpo (pt (rvc (pt (pt Y 77 p (Y 77 p + 1)) 82 (16 * Y 70 p + 4 * p + Y 77 p) x) p (16 * Y 70 p + 4 * p + Y 77 p) 4) 84 (256 * p + (16 * Y 70 p + 4 * p + Y 77 p)) 1) p (rps Y p) (16 * Y 70 p + 4 * p + Y 77 p) 4)
def rct (Y : VV) (p s : Nat) : Nat → VV
  | 0 => Y
  | r + 1 => pt (rct Y p s r) 86 (4 * s + r) (if r = p then Y 77 p else Y 78 (4 * p + r))
def rChange (Y : VV) (p set : Nat) : Int32 × VV :=
  if ¬ (1 ≤ set ∧ set ≤ 15 ∧ ¬ set / 2 ^ p % 2 = 0) then (-2, Y) else if Y 71 p = 15 then (-3, Y) else
  (nI (Y 71 p + 1), rpo (pt (rct (pt (pt (pt (pt (pt (pt Y 71 p (Y 71 p + 1)) 72 p set) 74 p 1) 75 p 0) 73 p 1) 85 (16 * p + (Y 71 p + 1)) (Y 70 p)) p (16 * p + (Y 71 p + 1)) 4) 87 (64 * p + (16 * p + (Y 71 p + 1))) 1) p set (256 + (16 * p + (Y 71 p + 1))) 4)
def rfm (Y : VV) (set : Nat) : Prop := ∀ q, q < 4 → set / 2 ^ q % 2 = 1 → ¬ Y 73 q = 0 ∧ set &&& Y 72 q = set
def rfo (Y : VV) (set n : Nat) : Nat → VV
  | 0 => Y
  | q + 1 => if ¬ set / 2 ^ q % 2 = 0 then pt (pt (rfo Y set n q) 81 (4 * n + q) (rfo Y set n q 71 q)) 73 q 0 else rfo Y set n q
def rTell (Y : VV) (p v : Nat) : Int32 × VV :=
  if ¬ (1 ≤ v ∧ v ≤ Y 69 10 ∧ ¬ Y 80 v / 2 ^ p % 2 = 0) then (-2, Y) else if v ≤ Y 76 p then (-3, Y) else if ¬ Y 81 (4 * v + p) = Y 71 p then (-4, Y) else
  (0, pt (pt Y 76 p v) 75 p v)
def rsh (Y : VV) (i : Nat) : Nat → VV
  | 0 => Y
  | k + 1 => pt (rsh Y i k) 88 (80 * i + k) (rsh Y i k 88 (80 * i + k + 1))
def rkn (Y : VV) (b : Nat) : Nat → VV
  | 0 => Y
  | n + 1 => pt (rkn Y b n) 84 (b + n) 1
def rkl (Y : VV) (q s : Nat) : Nat → VV
  | 0 => Y
  | r + 1 => rkn (rkl Y q s r) (256 * q + 16 * Y 85 s + 4 * r) (Y 86 (4 * s + r))
def rCarry (Y : VV) (p q : Nat) : Int32 × VV :=
  if Y 89 (4 * p + q) = 0 then (0, Y) else
  if Y 88 (80 * (4 * p + q)) < 256 then (1, pt (rsh (pt Y 89 (4 * p + q) (Y 89 (4 * p + q) - 1)) (4 * p + q) (Y 89 (4 * p + q) - 1)) 84 (256 * q + Y 88 (80 * (4 * p + q))) 1)
  else if Y 85 (Y 88 (80 * (4 * p + q)) - 256) = 0 then (2, pt (rsh (pt Y 89 (4 * p + q) (Y 89 (4 * p + q) - 1)) (4 * p + q) (Y 89 (4 * p + q) - 1)) 87 (64 * q + (Y 88 (80 * (4 * p + q)) - 256)) 1)
  else (2, rkl (pt (rsh (pt Y 89 (4 * p + q) (Y 89 (4 * p + q) - 1)) (4 * p + q) (Y 89 (4 * p + q) - 1)) 87 (64 * q + (Y 88 (80 * (4 * p + q)) - 256)) 1) q (Y 88 (80 * (4 * p + q)) - 256) 4)
def rl0 (Y : VV) (x : Nat) : Nat → VV
  | 0 => Y
  | r + 1 => pt (rl0 Y x r) 90 r x
def rlr (U : VV) (s : Nat) : Nat → VV
  | 0 => U
  | r + 1 => if rlr U s r 90 r < U 86 (4 * s + r) then pt (rlr U s r) 90 r (U 86 (4 * s + r)) else rlr U s r
def rlq (Y : VV) (p v both : Nat) : Nat → VV
  | 0 => Y
  | q + 1 => if both / 2 ^ q % 2 = 0 ∨ ¬ Y 85 (16 * q + Y 81 (4 * v + q)) = Y 70 p ∨ (Y 70 p = 0 ∧ ¬ q = p) then rlq Y p v both q else rlr (pt (rlq Y p v both q) 69 22 (rlq Y p v both q 69 22 ||| 2 ^ q)) (16 * q + Y 81 (4 * v + q)) 4
def rrd (Y : VV) (p v both : Nat) : Prop := ∀ q, q < 4 → ¬ both / 2 ^ q % 2 = 0 → ¬ Y 87 (64 * p + (16 * q + Y 81 (4 * v + q))) = 0
/-- the same but for what limits() writes -/
def rsm (Y Y' : VV) : Prop := ∀ c k, c ≠ 90 → ¬ (c = 69 ∧ k = 22) → Y' c k = Y c k
def rdl (Y : VV) (p q : Nat) : Prop := Y 78 (4 * p + q) < Y 90 q ∧ ¬ Y 84 (256 * p + (16 * Y 70 p + 4 * q + Y 78 (4 * p + q))) = 0 ∧ ∀ r, r < 4 → ¬ r = q → Y 83 (4 * (16 * Y 70 p + 4 * q + Y 78 (4 * p + q)) + r) ≤ Y 78 (4 * p + r)
def rev (Y : VV) (p a b c d : Nat) : VV := pt (pt (pt (pt Y 79 (4 * p) a) 79 (4 * p + 1) b) 79 (4 * p + 2) c) 79 (4 * p + 3) d
def rdv (Y : VV) (p q : Nat) : VV := rev (pt Y 78 (4 * p + q) (Y 78 (4 * p + q) + 1)) p 1 q (Y 78 (4 * p + q) + 1) (Y 82 (16 * Y 70 p + 4 * q + Y 78 (4 * p + q)))
/-- limits(p): what it answers, what it leaves -/
def rlim (Y : VV) (p : Nat) (h : Nat) (Y' : VV) : Prop :=
  (h = 1 ∧ Y 74 p = 0 ∧ Y' = rl0 (pt Y 69 22 0) 4 4) ∨
  (h = 0 ∧ ¬ Y 74 p = 0 ∧ Y 75 p = 0 ∧ rsm Y Y') ∨
  (h = 0 ∧ ¬ Y 74 p = 0 ∧ ¬ Y 75 p = 0 ∧ ¬ rrd Y p (Y 75 p) (Y 80 (Y 75 p) &&& rps Y p) ∧ rsm Y Y') ∨
  (h = 2 ∧ ¬ Y 74 p = 0 ∧ ¬ Y 75 p = 0 ∧ rrd Y p (Y 75 p) (Y 80 (Y 75 p) &&& rps Y p) ∧ Y' = rlq (rl0 (pt Y 69 22 0) 0 4) p (Y 75 p) (Y 80 (Y 75 p) &&& rps Y p) 4)
def rz4 (Y : VV) (p : Nat) : Nat → VV
  | 0 => Y
  | r + 1 => pt (rz4 Y p r) 78 (4 * p + r) 0
def rStep (Y : VV) (p : Nat) (r : Int32) (Y' : VV) : Prop := ∃ (h : Nat) (Z : VV), rlim Y p h Z ∧
  ((h = 0 ∧ r = 0 ∧ Y' = Z) ∨
   (¬ h = 0 ∧ (∃ q, q < 4 ∧ rdl Z p q ∧ (∀ j, j < q → ¬ rdl Z p j) ∧ r = 1 ∧ Y' = rdv Z p q)) ∨
   (h = 1 ∧ (∀ j, j < 4 → ¬ rdl Z p j) ∧ r = 0 ∧ Y' = Z) ∨
   (h = 2 ∧ (∀ j, j < 4 → ¬ rdl Z p j) ∧ (¬ ∀ j, j < 4 → Z 78 (4 * p + j) = Z 90 j) ∧ r = 0 ∧ Y' = Z) ∨
   (h = 2 ∧ (∀ j, j < 4 → ¬ rdl Z p j) ∧ (∀ j, j < 4 → Z 78 (4 * p + j) = Z 90 j) ∧ r = 2 ∧ Y' = rz4 (pt (pt (pt (rev (pt Z 70 p (Z 75 p)) p 2 (Z 75 p) (Z 80 (Z 75 p)) (Z 69 22)) 75 p 0) 74 p 0) 77 p 0) p 4))
def cForm (X : VV) (set : Nat) (r : Int32) (X' : VV) : Prop :=
  (¬ (1 ≤ set ∧ set ≤ 15) ∧ r = -2 ∧ X' = X) ∨ ((1 ≤ set ∧ set ≤ 15) ∧ 15 ≤ X 0 4 ∧ r = -3 ∧ X' = X) ∨ ((1 ≤ set ∧ set ≤ 15) ∧ X 0 4 < 15 ∧ ¬ cfm X set ∧ r = -4 ∧ X' = X) ∨
  ((1 ≤ set ∧ set ≤ 15) ∧ X 0 4 < 15 ∧ cfm X set ∧ r = nI (X 0 4 + 1) ∧ X' = cfo (pt (pt X 0 4 (X 0 4 + 1)) 3 (X 0 4 + 1) set) set (X 0 4 + 1) 4)
def rForm (Y : VV) (set : Nat) (r : Int32) (Y' : VV) : Prop :=
  (¬ (1 ≤ set ∧ set ≤ 15) ∧ r = -2 ∧ Y' = Y) ∨ ((1 ≤ set ∧ set ≤ 15) ∧ Y 69 10 = 15 ∧ r = -3 ∧ Y' = Y) ∨ ((1 ≤ set ∧ set ≤ 15) ∧ ¬ Y 69 10 = 15 ∧ ¬ rfm Y set ∧ r = -4 ∧ Y' = Y) ∨
  ((1 ≤ set ∧ set ≤ 15) ∧ ¬ Y 69 10 = 15 ∧ rfm Y set ∧ r = nI (Y 69 10 + 1) ∧ Y' = rfo (pt (pt Y 69 10 (Y 69 10 + 1)) 80 (Y 69 10 + 1) set) set (Y 69 10 + 1) 4)
end
section
-- what binds the class's cells (X) to the reference's (Y)
def RS (X Y : VV) : Prop := ∀ p, p < 4 → X (5 + 8 * p) 0 = Y 70 p ∧ X (5 + 8 * p) 1 = Y 71 p ∧ X (5 + 8 * p) 2 = Y 72 p ∧ X (5 + 8 * p) 3 = Y 73 p ∧ X (5 + 8 * p) 4 = Y 74 p ∧ X (5 + 8 * p) 5 = Y 75 p ∧ X (5 + 8 * p) 6 = Y 76 p ∧ X (5 + 8 * p) 7 = Y 77 p ∧ pkd (X (5 + 8 * p) 8) ∧ ∀ r, r < 4 → cnt (X (5 + 8 * p) 8) r = Y 78 (4 * p + r)
def RG (X Y : VV) : Prop := X 0 4 = Y 69 10 ∧ (∀ v, v < 16 → X 3 v = Y 80 v) ∧ ∀ v p, v < 16 → p < 4 → X 4 (v * 4 + p) = Y 81 (4 * v + p)
def RK (X Y : VV) : Prop := ∀ p v r, p < 4 → v < 16 → r < 4 → X (5 + 8 * p + 1) (v * 4 + r) < 32 ∧ X (5 + 8 * p + 1) (v * 4 + r) % 2 = 0 ∧ ∀ n, n < 4 → X (5 + 8 * p + 1) (v * 4 + r) / 2 ^ (n + 1) % 2 = Y 84 (256 * p + 16 * v + 4 * r + n)
def RH (X Y : VV) : Prop := ∀ p r, p < 4 → r < 4 → X (5 + 8 * p + 2) r < 65536 ∧ ∀ c, c < 16 → X (5 + 8 * p + 2) r / 2 ^ c % 2 = Y 87 (64 * p + 16 * r + c)
def RM (X Y : VV) : Prop := ∀ p v n, p < 4 → v < 16 → n < 4 → X (5 + 8 * p + 3) (v * 4 + n) = Y 82 (16 * v + 4 * p + n) ∧ pkd (X (5 + 8 * p + 4) (v * 4 + n)) ∧ ∀ r, r < 4 → cnt (X (5 + 8 * p + 4) (v * 4 + n)) r = Y 83 (4 * (16 * v + 4 * p + n) + r)
def RC (X Y : VV) : Prop := ∀ p c, p < 4 → c < 16 → X (5 + 8 * p + 5) c = Y 85 (16 * p + c) ∧ pkd (X (5 + 8 * p + 6) c) ∧ ∀ r, r < 4 → cnt (X (5 + 8 * p + 6) c) r = Y 86 (4 * (16 * p + c) + r)
def RE (X Y : VV) : Prop := ∀ p i, p < 4 → i < 4 → X (5 + 8 * p + 7) i = Y 79 (4 * p + i)
/-- a packet's number in the class, in the reference -/
def tr (p w : Nat) : Nat := if w < 64 then 16 * (w / 4) + 4 * p + w % 4 else 256 + (16 * p + (w - 64))
def cap (Y : VV) (p : Nat) : Nat := (if Y 70 p = 0 then 0 else 4 * (Y 70 p - 1) + Y 77 p) + Y 71 p
def RL (X Y : VV) : Prop := ∀ p q, p < 4 → q < 4 → X (37 + 2 * (p * 4 + q)) 1 ≤ X (37 + 2 * (p * 4 + q)) 2 ∧ X (37 + 2 * (p * 4 + q)) 2 ≤ cap Y p ∧ Y 89 (4 * p + q) = X (37 + 2 * (p * 4 + q)) 2 - X (37 + 2 * (p * 4 + q)) 1 ∧ ∀ k, X (37 + 2 * (p * 4 + q)) 1 ≤ k → k < X (37 + 2 * (p * 4 + q)) 2 → X (37 + 2 * (p * 4 + q) + 1) k < 80 ∧ tr p (X (37 + 2 * (p * 4 + q) + 1) k) = Y 88 (80 * (4 * p + q) + (k - X (37 + 2 * (p * 4 + q)) 1))
def BD (Y : VV) : Prop := (∀ p, p < 4 → Y 70 p ≤ Y 69 10 ∧ Y 71 p ≤ 15 ∧ Y 72 p < 16 ∧ Y 73 p ≤ 1 ∧ Y 74 p ≤ 1 ∧ Y 75 p ≤ Y 69 10 ∧ Y 76 p ≤ 15 ∧ Y 77 p ≤ 4 ∧ Y 70 p ≤ Y 76 p ∧ (Y 75 p = 0 ∨ (Y 70 p < Y 75 p ∧ Y 75 p ≤ Y 76 p))) ∧ Y 69 10 ≤ 15 ∧ (∀ i, Y 78 i ≤ 4) ∧ (∀ i, Y 80 i < 16) ∧ (∀ i, Y 81 i ≤ 15) ∧ (∀ i, Y 83 i ≤ 4) ∧ (∀ i, Y 84 i ≤ 1) ∧ (∀ i, Y 85 i ≤ 15) ∧ (∀ i, Y 86 i ≤ 4) ∧ (∀ i, Y 87 i ≤ 1) ∧ ∀ v p n, v < 16 → p < 4 → n < 4 → Y 83 (4 * (16 * v + 4 * p + n) + p) = 0
def Rel (X Y : VV) : Prop := RS X Y ∧ RG X Y ∧ RK X Y ∧ RH X Y ∧ RM X Y ∧ RC X Y ∧ RE X Y ∧ RL X Y ∧ BD Y
theorem Rel.congr {X X' Y Y' : VV} (h : Rel X Y) (hX : ∀ c k, c < 69 → X' c k = X c k) (hY : ∀ c k, 69 ≤ c → Y' c k = Y c k) : Rel X' Y' := by
  obtain ⟨h1, h2, h3, h4, h5, h6, h7, h8, h9⟩ := h
  refine ⟨?_, ?_, ?_, ?_, ?_, ?_, ?_, ?_, ?_⟩
  · intro p hp
    simp (disch := omega) only [hX, hY]
    exact h1 p hp
  · refine ⟨?_, ?_, ?_⟩
    · simp (disch := omega) only [hX, hY]
      exact h2.1
    · intro v hv
      simp (disch := omega) only [hX, hY]
      exact h2.2.1 v hv
    · intro v p hv hp
      simp (disch := omega) only [hX, hY]
      exact h2.2.2 v p hv hp
  · intro p v r hp hv hr
    simp (disch := omega) only [hX, hY]
    exact h3 p v r hp hv hr
  · intro p r hp hr
    simp (disch := omega) only [hX, hY]
    exact h4 p r hp hr
  · intro p v n hp hv hn
    simp (disch := omega) only [hX, hY]
    exact h5 p v n hp hv hn
  · intro p c hp hc
    simp (disch := omega) only [hX, hY]
    exact h6 p c hp hc
  · intro p i hp hi
    simp (disch := omega) only [hX, hY]
    exact h7 p i hp hi
  · intro p q hp hq
    simp (disch := omega) only [cap, hX, hY]
    exact h8 p q hp hq
  · unfold BD
    simp (disch := omega) only [hY]
    exact h9
-- what the class's walk needs of bounds
def CB (X : VV) : Prop := X 0 4 ≤ 15 ∧ (∀ v, v < 16 → X 3 v < 16) ∧ (∀ i, i < 64 → X 4 i ≤ 15) ∧ (∀ p, p < 4 → X (5 + 8 * p) 0 ≤ 15 ∧ X (5 + 8 * p) 1 ≤ 15 ∧ X (5 + 8 * p) 2 < 16 ∧ X (5 + 8 * p) 3 ≤ 1 ∧ X (5 + 8 * p) 4 ≤ 1 ∧ X (5 + 8 * p) 5 ≤ 15 ∧ X (5 + 8 * p) 6 ≤ 15 ∧ X (5 + 8 * p) 7 ≤ 4 ∧ pkd (X (5 + 8 * p) 8)) ∧ (∀ p i, p < 4 → i < 64 → X (5 + 8 * p + 1) i < 32) ∧ (∀ p i, p < 4 → i < 4 → X (5 + 8 * p + 2) i < 65536) ∧ (∀ p i, p < 4 → i < 64 → pkd (X (5 + 8 * p + 4) i)) ∧ (∀ p i, p < 4 → i < 16 → X (5 + 8 * p + 5) i ≤ 15) ∧ (∀ p i, p < 4 → i < 16 → pkd (X (5 + 8 * p + 6) i)) ∧ (∀ i, i < 16 → X (37 + 2 * i) 1 ≤ X (37 + 2 * i) 2 ∧ X (37 + 2 * i) 2 ≤ 75 ∧ ∀ k, X (37 + 2 * i) 1 ≤ k → k < X (37 + 2 * i) 2 → X (37 + 2 * i + 1) k < 80)
theorem cap_le {Y : VV} (h : BD Y) {p : Nat} (hp : p < 4) : cap Y p ≤ 75 := by
  have h1 := h.1 p hp
  have h2 := h.2.1
  unfold cap
  split <;> omega
theorem Rel.cb {X Y : VV} (h : Rel X Y) : CB X := by
  obtain ⟨h1, h2, h3, h4, h5, h6, h7, h8, h9⟩ := h
  refine ⟨?_, ?_, ?_, ?_, ?_, ?_, ?_, ?_, ?_, ?_⟩
  · rw [h2.1]; exact h9.2.1
  · intro v hv
    rw [h2.2.1 v hv]
    exact h9.2.2.2.1 v
  · intro i hi
    have := h2.2.2 (i / 4) (i % 4) (by omega) (by omega)
    rw [show i / 4 * 4 + i % 4 = i by omega] at this
    rw [this]
    exact h9.2.2.2.2.1 _
  · intro p hp
    obtain ⟨a0, a1, a2, a3, a4, a5, a6, a7, a8, -⟩ := h1 p hp
    obtain ⟨b0, b1, b2, b3, b4, b5, b6, b7, -⟩ := h9.1 p hp
    have := h9.2.1
    refine ⟨by omega, by omega, by omega, by omega, by omega, by omega, by omega, by omega, a8⟩
  · intro p i hp hi
    have := (h3 p (i / 4) (i % 4) hp (by omega) (by omega)).1
    rw [show i / 4 * 4 + i % 4 = i by omega] at this
    exact this
  · intro p i hp hi
    exact (h4 p i hp hi).1
  · intro p i hp hi
    have := (h5 p (i / 4) (i % 4) hp (by omega) (by omega)).2.1
    rw [show i / 4 * 4 + i % 4 = i by omega] at this
    exact this
  · intro p i hp hi
    rw [(h6 p i hp hi).1]
    exact h9.2.2.2.2.2.2.2.1 _
  · intro p i hp hi
    exact (h6 p i hp hi).2.1
  · intro i hi
    obtain ⟨a1, a2, a3, a4⟩ := h8 (i / 4) (i % 4) (by omega) (by omega)
    have hc := cap_le h9 (p := i / 4) (by omega)
    rw [show i / 4 * 4 + i % 4 = i by omega] at a1 a2 a4
    exact ⟨a1, by omega, fun k k1 k2 => (a4 k k1 k2).1⟩
end
section
-- putting a packet into the lines to the others: what each cell is afterwards
theorem cput_ne {X : VV} {i x c k : Nat} (h : c ≠ 37 + 2 * i) (h2 : c ≠ 37 + 2 * i + 1) : cput X i x c k = X c k := by
  unfold cput
  split
  · rw [pt_ne h, pt_ne h2]
  · rfl
theorem cpo_ne {X : VV} {p set x c k : Nat} (h : c < 37 ∨ 69 ≤ c) (hp : p < 4) : ∀ q, q ≤ 4 → cpo X p set x q c k = X c k
  | 0, _ => rfl
  | q + 1, hq => by
    rw [cpo]
    split
    · rw [cput_ne (by omega) (by omega), cpo_ne h hp q (by omega)]
    · exact cpo_ne h hp q (by omega)
theorem rpo_ne {Y : VV} {p set x c k : Nat} (h : c ≠ 88) (h2 : c ≠ 89) : ∀ q, rpo Y p set x q c k = Y c k
  | 0 => rfl
  | q + 1 => by
    rw [rpo]
    split
    · rw [pt_ne h2, pt_ne h, rpo_ne h h2 q]
    · exact rpo_ne h h2 q
theorem cput_line {X : VV} {i x : Nat} (h : X (37 + 2 * i) 2 < 75) : cput X i x (37 + 2 * i) 1 = X (37 + 2 * i) 1 ∧ cput X i x (37 + 2 * i) 2 = X (37 + 2 * i) 2 + 1 ∧ ∀ k, cput X i x (37 + 2 * i + 1) k = if k = X (37 + 2 * i) 2 then x else X (37 + 2 * i + 1) k := by
  unfold cput
  rw [if_pos h]
  refine ⟨?_, ?_, fun k => ?_⟩
  · rw [pt_nk (by decide), pt_ne (by omega)]
  · rw [pt_eq rfl rfl]
  · rw [pt_ne (by omega)]
    by_cases hk : k = X (37 + 2 * i) 2
    · rw [pt_eq rfl hk, if_pos hk]
    · rw [pt_nk hk, if_neg hk]
/-- the lines, with a bound for each -/
def RLc (X Y : VV) (cp : Nat → Nat → Nat) : Prop := ∀ p q, p < 4 → q < 4 → X (37 + 2 * (p * 4 + q)) 1 ≤ X (37 + 2 * (p * 4 + q)) 2 ∧ X (37 + 2 * (p * 4 + q)) 2 ≤ cp p q ∧ Y 89 (4 * p + q) = X (37 + 2 * (p * 4 + q)) 2 - X (37 + 2 * (p * 4 + q)) 1 ∧ ∀ k, X (37 + 2 * (p * 4 + q)) 1 ≤ k → k < X (37 + 2 * (p * 4 + q)) 2 → X (37 + 2 * (p * 4 + q) + 1) k < 80 ∧ tr p (X (37 + 2 * (p * 4 + q) + 1) k) = Y 88 (80 * (4 * p + q) + (k - X (37 + 2 * (p * 4 + q)) 1))
theorem put_step {X Y : VV} {cp : Nat → Nat → Nat} {p q w : Nat} (h : RLc X Y cp) (hcp : ∀ a b, a < 4 → b < 4 → cp a b ≤ 75) (hp : p < 4) (hq : q < 4) (hc : cp p q < 75) (hw : w < 80) : RLc (cput X (p * 4 + q) w) (pt (pt Y 88 (80 * (4 * p + q) + Y 89 (4 * p + q)) (tr p w)) 89 (4 * p + q) (Y 89 (4 * p + q) + 1)) (fun a b => if a = p ∧ b = q then cp a b + 1 else cp a b) := by
  obtain ⟨e1, e2, e3, e4⟩ := h p q hp hq
  obtain ⟨l1, l2, l3⟩ := cput_line (X := X) (i := p * 4 + q) (x := w) (by omega)
  intro a b ha hb
  by_cases hab : a = p ∧ b = q
  · obtain ⟨rfl, rfl⟩ := hab
    rw [l1, l2]
    refine ⟨by omega, by simp only [and_self, if_true]; omega, ?_, fun k k1 k2 => ?_⟩
    · rw [pt_eq rfl rfl, e3]; omega
    · rw [l3 k]
      by_cases hk : k = X (37 + 2 * (a * 4 + b)) 2
      · rw [if_pos hk]
        refine ⟨hw, ?_⟩
        rw [pt_ne (by decide), pt_eq rfl (by omega)]
      · rw [if_neg hk, pt_ne (by decide), pt_nk (by omega)]
        exact e4 k k1 (by omega)
  · obtain ⟨f1, f2, f3, f4⟩ := h a b ha hb
    have hne : a * 4 + b ≠ p * 4 + q := by omega
    have hb1 := hcp a b ha hb
    have hb2 := hcp p q hp hq
    rw [cput_ne (by omega) (by omega), cput_ne (by omega) (by omega)]
    refine ⟨f1, (by
      show _ ≤ (if a = p ∧ b = q then cp a b + 1 else cp a b)
      rw [if_neg hab]
      exact f2), ?_, fun k k1 k2 => ?_⟩
    · rw [pt_nk (by omega), pt_ne (by decide), f3]
    · rw [cput_ne (by omega) (by omega), pt_ne (by decide), pt_nk (by omega)]
      exact f4 k k1 k2
theorem put_all {X Y : VV} {cp : Nat → Nat → Nat} {p set w : Nat} (h : RLc X Y cp) (hp : p < 4) (hcp : ∀ a b, a < 4 → b < 4 → cp a b ≤ 75) (hc : ∀ q, q < 4 → cp p q < 75) (hw : w < 80) : ∀ q, q ≤ 4 → RLc (cpo X p set w q) (rpo Y p set (tr p w) q) (fun a b => if a = p ∧ b < q then cp a b + 1 else cp a b)
  | 0, _ => by
    simp only [cpo, rpo, Nat.not_lt_zero, and_false, if_false]
    exact h
  | q + 1, hq => by
    have ih := put_all h hp hcp hc hw q (by omega) (set := set)
    rw [cpo, rpo]
    by_cases hg : q ≠ p ∧ set / 2 ^ q % 2 = 1
    · rw [if_pos hg, if_pos ⟨hg.1, by have := hg.2; omega⟩]
      have hs := put_step ih (fun a b ha hb => by
        show (if a = p ∧ b < q then cp a b + 1 else cp a b) ≤ 75
        have h1 := hcp a b ha hb
        split
        · rename_i h2
          have := hc b hb
          rw [h2.1]; omega
        · exact h1) hp (by omega : q < 4) (w := w) (by
        show (if p = p ∧ q < q then cp p q + 1 else cp p q) < 75
        rw [if_neg (by omega)]
        exact hc q (by omega)) hw
      intro a b ha hb
      obtain ⟨s1, s2, s3⟩ := hs a b ha hb
      refine ⟨s1, Nat.le_trans s2 ?_, s3⟩
      simp only []
      split <;> split <;> split <;> omega
    · rw [if_neg hg, if_neg (fun z => hg ⟨z.1, by have := z.2; omega⟩)]
      intro a b ha hb
      obtain ⟨s1, s2, s3⟩ := ih a b ha hb
      refine ⟨s1, Nat.le_trans s2 ?_, s3⟩
      simp only []
      split <;> split <;> omega
theorem two_bit : ∀ p, p < 4 → ∀ q, q < 4 → 2 ^ p / 2 ^ q % 2 = 1 → q = p := by decide +kernel
theorem put_self {X : VV} {p w : Nat} (hp : p < 4) : ∀ q, q ≤ 4 → cpo X p (2 ^ p) w q = X
  | 0, _ => rfl
  | q + 1, hq => by
    rw [cpo, if_neg (fun z => z.1 (two_bit p hp q (by omega) z.2))]
    exact put_self hp q (by omega)
theorem rput_self {Y : VV} {p w : Nat} (hp : p < 4) : ∀ q, q ≤ 4 → rpo Y p (2 ^ p) w q = Y
  | 0, _ => rfl
  | q + 1, hq => by
    rw [rpo, if_neg (fun z => z.1 (two_bit p hp q (by omega) (by have := z.2; omega)))]
    exact rput_self hp q (by omega)
-- bits
theorem b_or {a c n : Nat} : (a ||| 2 ^ c) / 2 ^ n % 2 = if n = c then 1 else a / 2 ^ n % 2 := by
  have h : ∀ x n : Nat, x / 2 ^ n % 2 = (x.testBit n).toNat := by
    intro x n
    rw [Nat.testBit_eq_decide_div_mod_eq]
    by_cases hx : x / 2 ^ n % 2 = 1
    · simp [hx]
    · have : x / 2 ^ n % 2 = 0 := by omega
      simp [this]
  rw [h, h, Nat.testBit_or, Nat.testBit_two_pow]
  by_cases hn : n = c
  · subst hn; simp
  · have : ¬ c = n := fun e => hn e.symm
    simp [hn, this]
end
section
theorem RLc.mono {X Y : VV} {cp cp' : Nat → Nat → Nat} (h : RLc X Y cp) (hc : ∀ a b, a < 4 → b < 4 → cp a b ≤ cp' a b) : RLc X Y cp' := fun a b ha hb => ⟨(h a b ha hb).1, Nat.le_trans (h a b ha hb).2.1 (hc a b ha hb), (h a b ha hb).2.2⟩
theorem Rel.mk2 {A B X' Y' : VV} (h : RS A B ∧ RG A B ∧ RK A B ∧ RH A B ∧ RM A B ∧ RC A B ∧ RE A B ∧ BD B) (hX : ∀ c k, c < 37 → X' c k = A c k) (hY : ∀ c k, 69 ≤ c → c ≠ 88 → c ≠ 89 → Y' c k = B c k) (hL : RLc X' Y' (fun p _ => cap Y' p)) : Rel X' Y' := by
  obtain ⟨h1, h2, h3, h4, h5, h6, h7, h9⟩ := h
  refine ⟨?_, ⟨?_, ?_, ?_⟩, ?_, ?_, ?_, ?_, ?_, hL, ?_⟩
  · intro p hp
    simp (disch := omega) only [hX, hY]
    exact h1 p hp
  · simp (disch := omega) only [hX, hY]
    exact h2.1
  · intro v hv
    simp (disch := omega) only [hX, hY]
    exact h2.2.1 v hv
  · intro v p hv hp
    simp (disch := omega) only [hX, hY]
    exact h2.2.2 v p hv hp
  · intro p v r hp hv hr
    simp (disch := omega) only [hX, hY]
    exact h3 p v r hp hv hr
  · intro p r hp hr
    simp (disch := omega) only [hX, hY]
    exact h4 p r hp hr
  · intro p v n hp hv hn
    simp (disch := omega) only [hX, hY]
    exact h5 p v n hp hv hn
  · intro p c hp hc
    simp (disch := omega) only [hX, hY]
    exact h6 p c hp hc
  · intro p i hp hi
    simp (disch := omega) only [hX, hY]
    exact h7 p i hp hi
  · unfold BD
    simp (disch := omega) only [hY]
    exact h9
theorem or_lt {a c n : Nat} (ha : a < 2 ^ n) (hc : c < n) : a ||| 2 ^ c < 2 ^ n := Nat.or_lt_two_pow ha (Nat.pow_lt_pow_right (by decide) hc)
theorem rk_learn {X Y : VV} (h : RK X Y) {p v r n : Nat} (hp : p < 4) (hv : v < 16) (hr : r < 4) (hn : n < 4) : RK (cln X p v r (n + 1)) (pt Y 84 (256 * p + 16 * v + 4 * r + n) 1) := by
  intro a b d ha hb hd
  obtain ⟨g1, g2, g3⟩ := h a b d ha hb hd
  unfold cln
  by_cases e : a = p ∧ b = v ∧ d = r
  · obtain ⟨rfl, rfl, rfl⟩ := e
    rw [pt_eq rfl rfl]
    refine ⟨or_lt (n := 5) g1 (by omega), ?_, fun j hj => ?_⟩
    · have := b_or (a := X (5 + 8 * a + 1) (b * 4 + d)) (c := n + 1) (n := 0)
      rw [if_neg (by omega)] at this
      simp only [Nat.pow_zero, Nat.div_one] at this
      rw [this]
      exact g2
    · rw [b_or]
      by_cases hjn : j = n
      · subst hjn
        rw [if_pos rfl, pt_eq rfl rfl]
      · rw [if_neg (by omega), pt_nk (by omega)]
        exact g3 j hj
  · have hne : a ≠ p ∨ b * 4 + d ≠ v * 4 + r := by omega
    have hX : pt X (5 + 8 * p + 1) (v * 4 + r) (X (5 + 8 * p + 1) (v * 4 + r) ||| 2 ^ (n + 1)) (5 + 8 * a + 1) (b * 4 + d) = X (5 + 8 * a + 1) (b * 4 + d) := by
      rcases hne with z | z
      · exact pt_ne (by omega)
      · exact pt_nk z
    rw [hX]
    refine ⟨g1, g2, fun j hj => ?_⟩
    rw [pt_nk (by omega)]
    exact g3 j hj
theorem rh_learn {X Y : VV} (h : RH X Y) {p r c : Nat} (hp : p < 4) (hr : r < 4) (hc : c < 16) : RH (csy X p r c) (pt Y 87 (64 * p + 16 * r + c) 1) := by
  intro a d ha hd
  obtain ⟨g1, g3⟩ := h a d ha hd
  unfold csy
  by_cases e : a = p ∧ d = r
  · obtain ⟨rfl, rfl⟩ := e
    rw [pt_eq rfl rfl]
    refine ⟨or_lt (n := 16) g1 (by omega), fun j hj => ?_⟩
    rw [b_or]
    by_cases hjn : j = c
    · subst hjn
      rw [if_pos rfl, pt_eq rfl rfl]
    · rw [if_neg (by omega), pt_nk (by omega)]
      exact g3 j hj
  · have hX : pt X (5 + 8 * p + 2) r (X (5 + 8 * p + 2) r ||| 2 ^ c) (5 + 8 * a + 2) d = X (5 + 8 * a + 2) d := by
      by_cases z : a = p
      · exact pt_nk (fun w => e ⟨z, w⟩)
      · exact pt_ne (by omega)
    rw [hX]
    refine ⟨g1, fun j hj => ?_⟩
    rw [pt_nk (by omega)]
    exact g3 j hj
theorem RK.congr {X Y X' Y' : VV} (h : RK X Y) (hX : ∀ p k, p < 4 → X' (5 + 8 * p + 1) k = X (5 + 8 * p + 1) k) (hY : ∀ k, Y' 84 k = Y 84 k) : RK X' Y' := fun a v r ha hv hr => by
  simp (disch := omega) only [hX, hY]
  exact h a v r ha hv hr
theorem RH.congr {X Y X' Y' : VV} (h : RH X Y) (hX : ∀ p k, p < 4 → X' (5 + 8 * p + 2) k = X (5 + 8 * p + 2) k) (hY : ∀ k, Y' 87 k = Y 87 k) : RH X' Y' := fun a r ha hr => by
  simp (disch := omega) only [hX, hY]
  exact h a r ha hr
theorem cps_eq {X Y : VV} (h : Rel X Y) {p : Nat} (hp : p < 4) : cps X p = rps Y p := by
  unfold cps rps
  rw [(h.1 p hp).1]
  have := (h.2.2.2.2.2.2.2.2.1 p hp).1
  have := h.2.2.2.2.2.2.2.2.2.1
  rw [h.2.1.2.1 (Y 70 p) (by omega)]
theorem sim_tell {X Y : VV} (h : Rel X Y) {p : Nat} (hp : p < 4) (v : Nat) : (cTell X p v).1 = (rTell Y p v).1 ∧ Rel (cTell X p v).2 (rTell Y p v).2 := by
  have hR := h
  obtain ⟨h1, h2, h3, h4, h5, h6, h7, h8, h9⟩ := h
  obtain ⟨s0, s1, s2, s3, s4, s5, s6, s7, s8, s9⟩ := h1 p hp
  obtain ⟨b0, b1, b2, b3, b4, b5, b6, b7, b8, b9⟩ := h9.1 p hp
  have hv15 := h9.2.1
  unfold cTell rTell
  by_cases c1 : 1 ≤ v ∧ v ≤ Y 69 10 ∧ ¬ Y 80 v / 2 ^ p % 2 = 0
  · have e3 : X 3 v = Y 80 v := h2.2.1 v (by omega)
    have e4 : X 4 (v * 4 + p) = Y 81 (4 * v + p) := h2.2.2 v p (by omega) hp
    have c1' : 1 ≤ v ∧ v ≤ X 0 4 ∧ X 3 v / 2 ^ p % 2 = 1 := ⟨c1.1, by rw [h2.1]; exact c1.2.1, by rw [e3]; have := c1.2.2; omega⟩
    rw [if_neg (not_not_intro c1'), if_neg (not_not_intro c1), s6, e4, s1]
    by_cases c2 : v ≤ Y 76 p
    · rw [if_pos c2, if_pos c2]
      exact ⟨rfl, hR⟩
    · rw [if_neg c2, if_neg c2]
      by_cases c3 : Y 81 (4 * v + p) = Y 71 p
      · rw [if_neg (not_not_intro c3), if_neg (not_not_intro c3)]
        refine ⟨rfl, ?_, ⟨by simp (disch := omega) only [pt_eq, pt_ne, pt_nk]; exact h2.1, fun v hv => by simp (disch := omega) only [pt_eq, pt_ne, pt_nk]; exact h2.2.1 v hv, fun v b hv hb => by simp (disch := omega) only [pt_eq, pt_ne, pt_nk]; exact h2.2.2 v b hv hb⟩, fun a v r ha hv hr => by simp (disch := omega) only [pt_eq, pt_ne, pt_nk]; exact h3 a v r ha hv hr, fun a r ha hr => by simp (disch := omega) only [pt_eq, pt_ne, pt_nk]; exact h4 a r ha hr, fun a v n ha hv hn => by simp (disch := omega) only [pt_eq, pt_ne, pt_nk]; exact h5 a v n ha hv hn, fun a c ha hc => by simp (disch := omega) only [pt_eq, pt_ne, pt_nk]; exact h6 a c ha hc, fun a i ha hi => by simp (disch := omega) only [pt_eq, pt_ne, pt_nk]; exact h7 a i ha hi, fun a b ha hb => by simp (disch := omega) only [cap, pt_eq, pt_ne, pt_nk]; exact h8 a b ha hb, ?_⟩
        · intro a ha
          by_cases hap : a = p
          · subst hap
            simp (disch := omega) only [pt_eq, pt_ne, pt_nk]
            exact ⟨s0, s1, s2, s3, s4, trivial, trivial, s7, s8, s9⟩
          · simp (disch := omega) only [pt_eq, pt_ne, pt_nk]
            exact h1 a ha
        · refine ⟨fun a ha => ?_, ?_⟩
          · by_cases hap : a = p
            · subst hap
              simp (disch := omega) only [pt_eq, pt_ne, pt_nk]
              exact ⟨b0, b1, b2, b3, b4, c1.2.1, by omega, b7, by omega, Or.inr ⟨by omega, Nat.le_refl _⟩⟩
            · simp (disch := omega) only [pt_eq, pt_ne, pt_nk]
              exact h9.1 a ha
          · simp (disch := omega) only [pt_eq, pt_ne, pt_nk]
            exact h9.2
      · rw [if_pos c3, if_pos c3]
        exact ⟨rfl, hR⟩
  · have c1' : ¬ (1 ≤ v ∧ v ≤ X 0 4 ∧ X 3 v / 2 ^ p % 2 = 1) := by
      rintro ⟨z1, z2, z3⟩
      rw [h2.1] at z2
      rw [h2.2.1 v (by omega)] at z3
      exact c1 ⟨z1, z2, by omega⟩
    rw [if_pos c1', if_pos c1]
    exact ⟨rfl, hR⟩
theorem rel_start {U W : VV} (h : Rel U W) {q n : Nat} (hq : q < 4) (hn : n < 16) : Rel (pt (pt U 4 (n * 4 + q) (U (5 + 8 * q) 1)) (5 + 8 * q) 3 0) (pt (pt W 81 (4 * n + q) (W 71 q)) 73 q 0) := by
  obtain ⟨h1, h2, h3, h4, h5, h6, h7, h8, h9⟩ := h
  refine ⟨?_, ⟨by simp (disch := omega) only [pt_eq, pt_ne, pt_nk]; exact h2.1, fun v hv => by simp (disch := omega) only [pt_eq, pt_ne, pt_nk]; exact h2.2.1 v hv, fun v b hv hb => ?_⟩, fun a v r ha hv hr => by simp (disch := omega) only [pt_eq, pt_ne, pt_nk]; exact h3 a v r ha hv hr, fun a r ha hr => by simp (disch := omega) only [pt_eq, pt_ne, pt_nk]; exact h4 a r ha hr, fun a v n ha hv hn => by simp (disch := omega) only [pt_eq, pt_ne, pt_nk]; exact h5 a v n ha hv hn, fun a c ha hc => by simp (disch := omega) only [pt_eq, pt_ne, pt_nk]; exact h6 a c ha hc, fun a i ha hi => by simp (disch := omega) only [pt_eq, pt_ne, pt_nk]; exact h7 a i ha hi, fun a b ha hb => by simp (disch := omega) only [cap, pt_eq, pt_ne, pt_nk]; exact h8 a b ha hb, ?_⟩
  · intro a ha
    by_cases hap : a = q
    · subst hap
      obtain ⟨s0, s1, s2, s3, s4, s5, s6, s7, s8, s9⟩ := h1 a ha
      simp (disch := omega) only [pt_eq, pt_ne, pt_nk]
      exact ⟨s0, s1, s2, trivial, s4, s5, s6, s7, s8, s9⟩
    · simp (disch := omega) only [pt_eq, pt_ne, pt_nk]
      exact h1 a ha
  · by_cases e : v = n ∧ b = q
    · obtain ⟨rfl, rfl⟩ := e
      simp (disch := omega) only [pt_eq, pt_ne, pt_nk]
      exact (h1 b hb).2.1
    · simp (disch := omega) only [pt_eq, pt_ne, pt_nk]
      exact h2.2.2 v b hv hb
  · obtain ⟨g0, g1, g2, g3, g4, g5⟩ := h9
    refine ⟨fun a ha => ?_, ?_, ?_, ?_, ?_, ?_⟩
    · by_cases hap : a = q
      · subst hap
        obtain ⟨b0, b1, b2, b3, b4, b5⟩ := g0 a ha
        simp (disch := omega) only [pt_eq, pt_ne, pt_nk]
        exact ⟨b0, b1, b2, Nat.zero_le _, b4, b5⟩
      · simp (disch := omega) only [pt_eq, pt_ne, pt_nk]
        exact g0 a ha
    · simp (disch := omega) only [pt_eq, pt_ne, pt_nk]
      exact g1
    · simp (disch := omega) only [pt_eq, pt_ne, pt_nk]
      exact g2
    · simp (disch := omega) only [pt_eq, pt_ne, pt_nk]
      exact g3
    · intro i
      by_cases e : i = 4 * n + q
      · subst e
        simp (disch := omega) only [pt_eq, pt_ne, pt_nk]
        exact (g0 q hq).2.1
      · simp (disch := omega) only [pt_eq, pt_ne, pt_nk]
        exact g4 i
    · simp (disch := omega) only [pt_eq, pt_ne, pt_nk]
      exact g5
theorem sim_fo {U W : VV} (h : Rel U W) {set n : Nat} (hn : n < 16) : ∀ q, q ≤ 4 → Rel (cfo U set n q) (rfo W set n q)
  | 0, _ => h
  | q + 1, hq => by
    have ih := sim_fo h (set := set) hn q (by omega)
    rw [cfo, rfo]
    by_cases hg : set / 2 ^ q % 2 = 1
    · rw [if_pos hg, if_pos (by omega)]
      exact rel_start ih (by omega) hn
    · rw [if_neg hg, if_neg (by omega)]
      exact ih
theorem sim_form {X Y : VV} (h : Rel X Y) {set : Nat} {r r' : Int32} {X' Y' : VV} (hc : cForm X set r X') (hr : rForm Y set r' Y') : r = r' ∧ Rel X' Y' := by
  have hR := h
  obtain ⟨h1, h2, h3, h4, h5, h6, h7, h8, h9⟩ := h
  have hv15 := h9.2.1
  have e0 := h2.1
  have hfm : cfm X set ↔ rfm Y set := by
    unfold cfm rfm
    constructor
    · intro z q hq hb
      have := z q hq hb
      rw [(h1 q hq).2.2.1, (h1 q hq).2.2.2.1] at this
      exact this
    · intro z q hq hb
      have := z q hq hb
      rw [(h1 q hq).2.2.1, (h1 q hq).2.2.2.1]
      exact this
  unfold cForm at hc
  unfold rForm at hr
  rw [e0, hfm] at hc
  rcases hc with ⟨a1, rfl, rfl⟩ | ⟨a1, a2, rfl, rfl⟩ | ⟨a1, a2, a3, rfl, rfl⟩ | ⟨a1, a2, a3, rfl, rfl⟩ <;> rcases hr with ⟨d1, rfl, rfl⟩ | ⟨d1, d2, rfl, rfl⟩ | ⟨d1, d2, d3, rfl, rfl⟩ | ⟨d1, d2, d3, rfl, rfl⟩
  all_goals first
    | exact ⟨rfl, hR⟩
    | exact absurd d1 a1
    | exact absurd a1 d1
    | (exfalso; omega)
    | exact absurd a3 d3
    | exact absurd d3 a3
    | skip
  refine ⟨rfl, sim_fo ?_ (by omega) 4 (Nat.le_refl _)⟩
  refine ⟨fun a ha => by simp (disch := omega) only [pt_eq, pt_ne, pt_nk]; exact h1 a ha, ⟨by simp (disch := omega) only [pt_eq, pt_ne, pt_nk], fun v hv => ?_, fun v b hv hb => by simp (disch := omega) only [pt_eq, pt_ne, pt_nk]; exact h2.2.2 v b hv hb⟩, fun a v r ha hv hr => by simp (disch := omega) only [pt_eq, pt_ne, pt_nk]; exact h3 a v r ha hv hr, fun a r ha hr => by simp (disch := omega) only [pt_eq, pt_ne, pt_nk]; exact h4 a r ha hr, fun a v n ha hv hn => by simp (disch := omega) only [pt_eq, pt_ne, pt_nk]; exact h5 a v n ha hv hn, fun a c ha hc => by simp (disch := omega) only [pt_eq, pt_ne, pt_nk]; exact h6 a c ha hc, fun a i ha hi => by simp (disch := omega) only [pt_eq, pt_ne, pt_nk]; exact h7 a i ha hi, fun a b ha hb => by simp (disch := omega) only [cap, pt_eq, pt_ne, pt_nk]; exact h8 a b ha hb, ?_⟩
  · by_cases e : v = Y 69 10 + 1
    · subst e
      simp (disch := omega) only [pt_eq, pt_ne, pt_nk]
    · simp (disch := omega) only [pt_eq, pt_ne, pt_nk]
      exact h2.2.1 v hv
  · obtain ⟨g0, g1, g2, g3, g5⟩ := h9
    refine ⟨fun a ha => ?_, ?_, ?_, ?_, ?_⟩
    · obtain ⟨b0, b1, b2, b3, b4, b5, b6⟩ := g0 a ha
      simp (disch := omega) only [pt_eq, pt_ne, pt_nk]
      exact ⟨by omega, b1, b2, b3, b4, by omega, b6⟩
    · simp (disch := omega) only [pt_eq, pt_ne, pt_nk]
      omega
    · simp (disch := omega) only [pt_eq, pt_ne, pt_nk]
      exact g2
    · intro i
      by_cases e : i = Y 69 10 + 1
      · subst e
        simp (disch := omega) only [pt_eq, pt_ne, pt_nk]
        omega
      · simp (disch := omega) only [pt_eq, pt_ne, pt_nk]
        exact g3 i
    · simp (disch := omega) only [pt_eq, pt_ne, pt_nk]
      exact g5
theorem rvc_ne {Y : VV} {p m c k : Nat} (h : c ≠ 83) : ∀ q, rvc Y p m q c k = Y c k
  | 0 => rfl
  | q + 1 => by rw [rvc, pt_ne h, rvc_ne h q]
theorem rvc_at {Y : VV} {p m k : Nat} : ∀ q, rvc Y p m q 83 k = if 4 * m ≤ k ∧ k < 4 * m + q then (if k - 4 * m = p then 0 else Y 78 (4 * p + (k - 4 * m))) else Y 83 k
  | 0 => by rw [if_neg (by omega)]; rfl
  | q + 1 => by
    rw [rvc]
    by_cases e : k = 4 * m + q
    · rw [pt_eq rfl e, if_pos (show 4 * m ≤ k ∧ k < 4 * m + (q + 1) by omega), show k - 4 * m = q by omega]
    · rw [pt_nk e, rvc_at q]
      by_cases z : 4 * m ≤ k ∧ k < 4 * m + q
      · rw [if_pos z, if_pos (show 4 * m ≤ k ∧ k < 4 * m + (q + 1) by omega)]
      · rw [if_neg z, if_neg (show ¬ (4 * m ≤ k ∧ k < 4 * m + (q + 1)) by omega)]
theorem sim_send {X Y : VV} (h : Rel X Y) {p : Nat} (hp : p < 4) (x : Nat) : (cSend X p x).1 = (rSend Y p x).1 ∧ Rel (cSend X p x).2 (rSend Y p x).2 := by
  have hR := h
  have hcp := cps_eq h hp
  have hcap := fun a (ha : a < 4) => cap_le h.2.2.2.2.2.2.2.2 ha
  obtain ⟨h1, h2, h3, h4, h5, h6, h7, h8, h9⟩ := h
  obtain ⟨s0, s1, s2, s3, s4, s5, s6, s7, s8, s9⟩ := h1 p hp
  obtain ⟨b0, b1, b2, b3, b4, b5, b6, b7, b8, b9⟩ := h9.1 p hp
  have hv15 := h9.2.1
  unfold cSend rSend
  rw [s4, s7, s0, hcp]
  by_cases c1 : Y 74 p = 0
  · rw [if_neg (not_not_intro c1), if_neg (not_not_intro c1)]
    by_cases c2 : Y 77 p = 4
    · rw [if_pos (by omega), if_pos c2]
      exact ⟨rfl, hR⟩
    · rw [if_neg (by omega), if_neg c2]
      have hvv : Y 70 p < 16 := by omega
      have hss : Y 77 p < 4 := by omega
      have etr : 16 * Y 70 p + 4 * p + Y 77 p = tr p (Y 70 p * 4 + Y 77 p) := by unfold tr; rw [if_pos (by omega)]; omega
      have hk := rk_learn h3 hp hvv hp hss
      rw [show 256 * p + 16 * Y 70 p + 4 * p + Y 77 p = 256 * p + (16 * Y 70 p + 4 * p + Y 77 p) by omega] at hk
      refine ⟨rfl, Rel.mk2 ⟨?_, ?_, ?_, ?_, ?_, ?_, ?_, ?_⟩ (fun c k hc => cpo_ne (Or.inl hc) hp 4 (Nat.le_refl _)) (fun c k _ z1 z2 => rpo_ne z1 z2 4) ?_⟩
      · intro a ha
        unfold cln
        by_cases hap : a = p
        · subst hap
          simp (disch := omega) only [pt_eq, pt_ne, pt_nk, rvc_ne]
          exact ⟨s0, s1, s2, s3, s4, s5, s6, trivial, s8, s9⟩
        · simp (disch := omega) only [pt_eq, pt_ne, pt_nk, rvc_ne]
          exact h1 a ha
      · unfold cln
        refine ⟨?_, fun v hv => ?_, fun v b hv hb => ?_⟩ <;> simp (disch := omega) only [pt_eq, pt_ne, pt_nk, rvc_ne]
        · exact h2.1
        · exact h2.2.1 v hv
        · exact h2.2.2 v b hv hb
      · refine hk.congr (fun a j ha => ?_) (fun j => ?_)
        · unfold cln
          by_cases e : a = p ∧ j = Y 70 p * 4 + p
          · obtain ⟨rfl, rfl⟩ := e
            simp (disch := omega) only [pt_eq, pt_ne, pt_nk]
          · have hne : 5 + 8 * a + 1 ≠ 5 + 8 * p + 1 ∨ j ≠ Y 70 p * 4 + p := by omega
            rcases hne with z | z <;> simp (disch := omega) only [pt_ne, pt_nk]
        · by_cases e : j = 256 * p + (16 * Y 70 p + 4 * p + Y 77 p)
          · rw [pt_eq rfl e, pt_eq rfl e]
          · rw [pt_nk e, pt_nk e]
            simp (disch := omega) only [pt_ne, rvc_ne]
      · unfold cln
        intro a r ha hr
        simp (disch := omega) only [pt_eq, pt_ne, pt_nk, rvc_ne]
        exact h4 a r ha hr
      · intro a v n ha hv hn
        obtain ⟨g1, g2, g3⟩ := h5 a v n ha hv hn
        unfold cln
        by_cases e : a = p ∧ v = Y 70 p ∧ n = Y 77 p
        · obtain ⟨rfl, rfl, rfl⟩ := e
          simp (disch := omega) only [pt_eq, pt_ne, pt_nk, rvc_ne]
          refine ⟨trivial, pkd_wc s8 (Nat.zero_le _), fun r hr => ?_⟩
          rw [cnt_wc s8 (Nat.zero_le _) hr, rvc_at, if_pos (show 4 * (16 * Y 70 a + 4 * a + Y 77 a) ≤ 4 * (16 * Y 70 a + 4 * a + Y 77 a) + r ∧ 4 * (16 * Y 70 a + 4 * a + Y 77 a) + r < 4 * (16 * Y 70 a + 4 * a + Y 77 a) + 4 by omega), show 4 * (16 * Y 70 a + 4 * a + Y 77 a) + r - 4 * (16 * Y 70 a + 4 * a + Y 77 a) = r by omega, s9 r hr]
          simp (disch := omega) only [pt_ne]
        · have hne : a ≠ p ∨ v * 4 + n ≠ Y 70 p * 4 + Y 77 p := by omega
          have hm : 16 * v + 4 * a + n ≠ 16 * Y 70 p + 4 * p + Y 77 p := by omega
          have e1 : ∀ (Z : VV) (j y : Nat), (j = 3 ∨ j = 4) → pt Z (5 + 8 * p + j) (Y 70 p * 4 + Y 77 p) y (5 + 8 * a + j) (v * 4 + n) = Z (5 + 8 * a + j) (v * 4 + n) := by
            intro Z j y hj
            rcases hne with z | z
            · exact pt_ne (by omega)
            · exact pt_nk z
          have e3 := e1 (pt X (5 + 8 * p) 7 (Y 77 p + 1)) 3 x (Or.inl rfl)
          have e4 := e1 (pt (pt X (5 + 8 * p) 7 (Y 77 p + 1)) (5 + 8 * p + 3) (Y 70 p * 4 + Y 77 p) x) 4 (wc (X (5 + 8 * p) 8) p 0) (Or.inr rfl)
          refine ⟨?_, ?_, fun r hr => ?_⟩
          · rw [pt_ne (by omega), pt_ne (by omega), e3, pt_ne (by omega), pt_ne (by decide), rvc_ne (by decide), pt_nk hm, pt_ne (by decide)]
            exact g1
          · rw [pt_ne (by omega), e4, pt_ne (by omega), pt_ne (by omega)]
            exact g2
          · rw [pt_ne (by omega), e4, pt_ne (by omega), pt_ne (by omega), pt_ne (by decide), rvc_at, if_neg (by omega), pt_ne (by decide), pt_ne (by decide)]
            exact g3 r hr
      · unfold cln
        intro a c ha hc
        simp (disch := omega) only [pt_eq, pt_ne, pt_nk, rvc_ne]
        exact h6 a c ha hc
      · unfold cln
        intro a i ha hi
        simp (disch := omega) only [pt_eq, pt_ne, pt_nk, rvc_ne]
        exact h7 a i ha hi
      · obtain ⟨g0, g1, g2, g3, g4, g5, g6, g7, g8, g9, g10⟩ := h9
        refine ⟨fun a ha => ?_, ?_, ?_, ?_, ?_, fun i => ?_, fun i => ?_, ?_, ?_, ?_, fun v a n hv ha hn => ?_⟩
        · by_cases hap : a = p
          · subst hap
            simp (disch := omega) only [pt_eq, pt_ne, pt_nk, rvc_ne]
            exact ⟨b0, b1, b2, b3, b4, b5, b6, by omega, b8, b9⟩
          · simp (disch := omega) only [pt_eq, pt_ne, pt_nk, rvc_ne]
            exact g0 a ha
        · simp (disch := omega) only [pt_eq, pt_ne, pt_nk, rvc_ne]
          exact g1
        · simp (disch := omega) only [pt_eq, pt_ne, pt_nk, rvc_ne]
          exact g2
        · simp (disch := omega) only [pt_eq, pt_ne, pt_nk, rvc_ne]
          exact g3
        · simp (disch := omega) only [pt_eq, pt_ne, pt_nk, rvc_ne]
          exact g4
        · rw [pt_ne (by decide), rvc_at]
          simp (disch := omega) only [pt_ne]
          split
          · split
            · omega
            · exact g2 _
          · exact g5 i
        · by_cases e : i = 256 * p + (16 * Y 70 p + 4 * p + Y 77 p)
          · rw [pt_eq rfl e]; exact Nat.le_refl _
          · rw [pt_nk e]
            simp (disch := omega) only [pt_ne, rvc_ne]
            exact g6 i
        · simp (disch := omega) only [pt_eq, pt_ne, pt_nk, rvc_ne]
          exact g7
        · simp (disch := omega) only [pt_eq, pt_ne, pt_nk, rvc_ne]
          exact g8
        · simp (disch := omega) only [pt_eq, pt_ne, pt_nk, rvc_ne]
          exact g9
        · rw [pt_ne (by decide), rvc_at]
          simp (disch := omega) only [pt_ne]
          by_cases z : 4 * (16 * Y 70 p + 4 * p + Y 77 p) ≤ 4 * (16 * v + 4 * a + n) + a ∧ 4 * (16 * v + 4 * a + n) + a < 4 * (16 * Y 70 p + 4 * p + Y 77 p) + 4
          · have y1 : 16 * v + 4 * a + n = 16 * Y 70 p + 4 * p + Y 77 p := by omega
            have y2 : a = p := by omega
            rw [if_pos z, if_pos (by omega)]
          · rw [if_neg z]
            exact g10 v a n hv ha hn
      · have hL : RLc (cln (pt (pt (pt X (5 + 8 * p) 7 (Y 77 p + 1)) (5 + 8 * p + 3) (Y 70 p * 4 + Y 77 p) x) (5 + 8 * p + 4) (Y 70 p * 4 + Y 77 p) (wc (X (5 + 8 * p) 8) p 0)) p (Y 70 p) p (Y 77 p + 1)) (pt (rvc (pt (pt Y 77 p (Y 77 p + 1)) 82 (16 * Y 70 p + 4 * p + Y 77 p) x) p (16 * Y 70 p + 4 * p + Y 77 p) 4) 84 (256 * p + (16 * Y 70 p + 4 * p + Y 77 p)) 1) (fun a _ => cap Y a) := by
          unfold cln
          intro a b ha hb
          simp (disch := omega) only [pt_eq, pt_ne, pt_nk, rvc_ne]
          exact h8 a b ha hb
        by_cases hv0 : Y 70 p = 0
        · have hps : rps Y p = 2 ^ p := by unfold rps; rw [if_pos hv0]
          rw [hps, put_self hp 4 (Nat.le_refl _), rput_self hp 4 (Nat.le_refl _)]
          refine hL.mono (fun a b ha hb => ?_)
          by_cases hap : a = p
          · subst hap
            simp (disch := omega) only [cap, pt_eq, pt_ne, pt_nk, rvc_ne]
            rw [if_pos hv0, if_pos hv0]
            exact Nat.le_refl _
          · simp (disch := omega) only [cap, pt_eq, pt_ne, pt_nk, rvc_ne]
            exact Nat.le_refl _
        · have hl75 : cap Y p < 75 := by unfold cap; rw [if_neg hv0]; omega
          have ha := put_all (set := rps Y p) (w := Y 70 p * 4 + Y 77 p) hL hp (fun a b ha _ => hcap a ha) (fun _ _ => hl75) (by omega) 4 (Nat.le_refl _)
          rw [← etr] at ha
          refine ha.mono (fun a b ha hb => ?_)
          by_cases hap : a = p
          · subst hap
            rw [if_pos ⟨rfl, hb⟩]
            simp (disch := omega) only [cap, rpo_ne, pt_eq, pt_ne, pt_nk, rvc_ne]
            rw [if_neg hv0, if_neg hv0]
            omega
          · rw [if_neg (fun z => hap z.1)]
            simp (disch := omega) only [cap, rpo_ne, pt_eq, pt_ne, pt_nk, rvc_ne]
            exact Nat.le_refl _
  · rw [if_pos c1, if_pos c1]
    exact ⟨rfl, hR⟩
end
section
theorem rct_ne {Y : VV} {p m c k : Nat} (h : c ≠ 86) : ∀ q, rct Y p m q c k = Y c k
  | 0 => rfl
  | q + 1 => by rw [rct, pt_ne h, rct_ne h q]
theorem rct_at {Y : VV} {p m k : Nat} : ∀ q, rct Y p m q 86 k = if 4 * m ≤ k ∧ k < 4 * m + q then (if k - 4 * m = p then Y 77 p else Y 78 (4 * p + (k - 4 * m))) else Y 86 k
  | 0 => by rw [if_neg (by omega)]; rfl
  | q + 1 => by
    rw [rct]
    by_cases e : k = 4 * m + q
    · rw [pt_eq rfl e, if_pos (show 4 * m ≤ k ∧ k < 4 * m + (q + 1) by omega), show k - 4 * m = q by omega]
    · rw [pt_nk e, rct_at q]
      by_cases z : 4 * m ≤ k ∧ k < 4 * m + q
      · rw [if_pos z, if_pos (show 4 * m ≤ k ∧ k < 4 * m + (q + 1) by omega)]
      · rw [if_neg z, if_neg (show ¬ (4 * m ≤ k ∧ k < 4 * m + (q + 1)) by omega)]
theorem sim_change {X Y : VV} (h : Rel X Y) {p : Nat} (hp : p < 4) (set : Nat) : (cChange X p set).1 = (rChange Y p set).1 ∧ Rel (cChange X p set).2 (rChange Y p set).2 := by
  have hR := h
  have hcap := fun a (ha : a < 4) => cap_le h.2.2.2.2.2.2.2.2 ha
  obtain ⟨h1, h2, h3, h4, h5, h6, h7, h8, h9⟩ := h
  obtain ⟨s0, s1, s2, s3, s4, s5, s6, s7, s8, s9⟩ := h1 p hp
  obtain ⟨b0, b1, b2, b3, b4, b5, b6, b7, b8, b9⟩ := h9.1 p hp
  have hv15 := h9.2.1
  unfold cChange rChange
  rw [s1, s7, s0]
  by_cases c1 : 1 ≤ set ∧ set ≤ 15 ∧ set / 2 ^ p % 2 = 1
  · rw [if_neg (not_not_intro c1), if_neg (not_not_intro (show 1 ≤ set ∧ set ≤ 15 ∧ ¬ set / 2 ^ p % 2 = 0 from ⟨c1.1, c1.2.1, by have := c1.2.2; omega⟩))]
    by_cases c2 : Y 71 p = 15
    · rw [if_pos (by omega), if_pos c2]
      exact ⟨rfl, hR⟩
    · rw [if_neg (by omega), if_neg c2]
      have hnn : Y 71 p + 1 < 16 := by omega
      have etr : 256 + (16 * p + (Y 71 p + 1)) = tr p (64 + (Y 71 p + 1)) := by unfold tr; rw [if_neg (by omega)]; omega
      have hk := rh_learn h4 hp hp hnn
      rw [show 64 * p + 16 * p + (Y 71 p + 1) = 64 * p + (16 * p + (Y 71 p + 1)) by omega] at hk
      refine ⟨rfl, Rel.mk2 ⟨?_, ?_, ?_, ?_, ?_, ?_, ?_, ?_⟩ (fun c k hc => cpo_ne (Or.inl hc) hp 4 (Nat.le_refl _)) (fun c k _ z1 z2 => rpo_ne z1 z2 4) ?_⟩
      · intro a ha
        unfold csy
        by_cases hap : a = p
        · subst hap
          simp (disch := omega) only [pt_eq, pt_ne, pt_nk, rct_ne]
          exact ⟨s0, trivial, trivial, trivial, trivial, trivial, s6, s7, s8, s9⟩
        · simp (disch := omega) only [pt_eq, pt_ne, pt_nk, rct_ne]
          exact h1 a ha
      · unfold csy
        refine ⟨?_, fun v hv => ?_, fun v b hv hb => ?_⟩ <;> simp (disch := omega) only [pt_eq, pt_ne, pt_nk, rct_ne]
        · exact h2.1
        · exact h2.2.1 v hv
        · exact h2.2.2 v b hv hb
      · unfold csy
        intro a v r ha hv hr
        simp (disch := omega) only [pt_eq, pt_ne, pt_nk, rct_ne]
        exact h3 a v r ha hv hr
      · refine hk.congr (fun a j ha => ?_) (fun j => ?_)
        · unfold csy
          by_cases e : a = p ∧ j = p
          · obtain ⟨rfl, rfl⟩ := e
            simp (disch := omega) only [pt_eq, pt_ne, pt_nk, rct_ne]
          · have hne : 5 + 8 * a + 2 ≠ 5 + 8 * p + 2 ∨ j ≠ p := by omega
            rcases hne with z | z <;> simp (disch := omega) only [pt_ne, pt_nk]
        · by_cases e : j = 64 * p + (16 * p + (Y 71 p + 1))
          · rw [pt_eq rfl e, pt_eq rfl e]
          · rw [pt_nk e, pt_nk e]
            simp (disch := omega) only [pt_ne, rct_ne]
      · unfold csy
        intro a v n ha hv hn
        simp (disch := omega) only [pt_eq, pt_ne, pt_nk, rct_ne]
        exact h5 a v n ha hv hn
      · intro a c ha hc
        obtain ⟨g1, g2, g3⟩ := h6 a c ha hc
        unfold csy
        by_cases e : a = p ∧ c = Y 71 p + 1
        · obtain ⟨rfl, rfl⟩ := e
          simp (disch := omega) only [pt_eq, pt_ne, pt_nk, rct_ne]
          refine ⟨trivial, pkd_wc s8 b7, fun r hr => ?_⟩
          rw [cnt_wc s8 b7 hr, rct_at, if_pos (show 4 * (16 * a + (Y 71 a + 1)) ≤ 4 * (16 * a + (Y 71 a + 1)) + r ∧ 4 * (16 * a + (Y 71 a + 1)) + r < 4 * (16 * a + (Y 71 a + 1)) + 4 by omega), show 4 * (16 * a + (Y 71 a + 1)) + r - 4 * (16 * a + (Y 71 a + 1)) = r by omega, s9 r hr]
          simp (disch := omega) only [pt_ne]
        · have hne : a ≠ p ∨ c ≠ Y 71 p + 1 := by omega
          have hm : 16 * a + c ≠ 16 * p + (Y 71 p + 1) := by omega
          have e1 : ∀ (Z : VV) (j y : Nat), pt Z (5 + 8 * p + j) (Y 71 p + 1) y (5 + 8 * a + j) c = Z (5 + 8 * a + j) c := by
            intro Z j y
            rcases hne with z | z
            · exact pt_ne (by omega)
            · exact pt_nk z
          refine ⟨?_, ?_, fun r hr => ?_⟩
          · rw [pt_ne (by omega), pt_ne (by omega), e1, pt_ne (by omega), pt_ne (by omega), pt_ne (by omega), pt_ne (by omega), pt_ne (by omega), pt_ne (by decide), rct_ne (by decide), pt_nk hm, pt_ne (by decide), pt_ne (by decide), pt_ne (by decide), pt_ne (by decide), pt_ne (by decide)]
            exact g1
          · rw [pt_ne (by omega), e1, pt_ne (by omega), pt_ne (by omega), pt_ne (by omega), pt_ne (by omega), pt_ne (by omega), pt_ne (by omega)]
            exact g2
          · rw [pt_ne (by omega), e1, pt_ne (by omega), pt_ne (by omega), pt_ne (by omega), pt_ne (by omega), pt_ne (by omega), pt_ne (by omega), pt_ne (by decide), rct_at, if_neg (by omega), pt_ne (by decide), pt_ne (by decide), pt_ne (by decide), pt_ne (by decide), pt_ne (by decide), pt_ne (by decide)]
            exact g3 r hr
      · unfold csy
        intro a i ha hi
        simp (disch := omega) only [pt_eq, pt_ne, pt_nk, rct_ne]
        exact h7 a i ha hi
      · obtain ⟨g0, g1, g2, g3, g4, g5, g6, g7, g8, g9, g10⟩ := h9
        refine ⟨fun a ha => ?_, ?_, ?_, ?_, ?_, ?_, ?_, fun i => ?_, fun i => ?_, fun i => ?_, ?_⟩
        · by_cases hap : a = p
          · subst hap
            simp (disch := omega) only [pt_eq, pt_ne, pt_nk, rct_ne]
            exact ⟨b0, by omega, by omega, Nat.le_refl _, Nat.le_refl _, Nat.zero_le _, b6, b7, b8, Or.inl trivial⟩
          · simp (disch := omega) only [pt_eq, pt_ne, pt_nk, rct_ne]
            exact g0 a ha
        · simp (disch := omega) only [pt_eq, pt_ne, pt_nk, rct_ne]
          exact g1
        · simp (disch := omega) only [pt_eq, pt_ne, pt_nk, rct_ne]
          exact g2
        · simp (disch := omega) only [pt_eq, pt_ne, pt_nk, rct_ne]
          exact g3
        · simp (disch := omega) only [pt_eq, pt_ne, pt_nk, rct_ne]
          exact g4
        · simp (disch := omega) only [pt_eq, pt_ne, pt_nk, rct_ne]
          exact g5
        · simp (disch := omega) only [pt_eq, pt_ne, pt_nk, rct_ne]
          exact g6
        · by_cases e : i = 16 * p + (Y 71 p + 1)
          · subst e
            simp (disch := omega) only [pt_eq, pt_ne, pt_nk, rct_ne]
            omega
          · simp (disch := omega) only [pt_eq, pt_ne, pt_nk, rct_ne]
            exact g7 i
        · rw [pt_ne (by decide), rct_at]
          simp (disch := omega) only [pt_ne]
          split
          · split
            · exact b7
            · exact g2 _
          · exact g8 i
        · by_cases e : i = 64 * p + (16 * p + (Y 71 p + 1))
          · rw [pt_eq rfl e]; exact Nat.le_refl _
          · rw [pt_nk e]
            simp (disch := omega) only [pt_ne, rct_ne]
            exact g9 i
        · simp (disch := omega) only [pt_eq, pt_ne, pt_nk, rct_ne]
          exact g10
      · have hL : RLc (csy (pt (pt (pt (pt (pt (pt (pt X (5 + 8 * p) 1 (Y 71 p + 1)) (5 + 8 * p) 2 set) (5 + 8 * p) 4 1) (5 + 8 * p) 3 1) (5 + 8 * p) 5 0) (5 + 8 * p + 5) (Y 71 p + 1) (Y 70 p)) (5 + 8 * p + 6) (Y 71 p + 1) (wc (X (5 + 8 * p) 8) p (Y 77 p))) p p (Y 71 p + 1)) (pt (rct (pt (pt (pt (pt (pt (pt Y 71 p (Y 71 p + 1)) 72 p set) 74 p 1) 75 p 0) 73 p 1) 85 (16 * p + (Y 71 p + 1)) (Y 70 p)) p (16 * p + (Y 71 p + 1)) 4) 87 (64 * p + (16 * p + (Y 71 p + 1))) 1) (fun a _ => cap Y a) := by
          unfold csy
          intro a b ha hb
          simp (disch := omega) only [pt_eq, pt_ne, pt_nk, rct_ne]
          exact h8 a b ha hb
        have hl75 : cap Y p < 75 := by unfold cap; split <;> omega
        have ha := put_all (set := set) (w := 64 + (Y 71 p + 1)) hL hp (fun a b ha _ => hcap a ha) (fun _ _ => hl75) (by omega) 4 (Nat.le_refl _)
        rw [← etr] at ha
        refine ha.mono (fun a b ha hb => ?_)
        by_cases hap : a = p
        · subst hap
          rw [if_pos ⟨rfl, hb⟩]
          simp (disch := omega) only [cap, rpo_ne, pt_eq, pt_ne, pt_nk, rct_ne]
          omega
        · rw [if_neg (fun z => hap z.1)]
          simp (disch := omega) only [cap, rpo_ne, pt_eq, pt_ne, pt_nk, rct_ne]
          exact Nat.le_refl _
  · rw [if_pos c1, if_pos (fun z => c1 ⟨z.1, z.2.1, by have := z.2.2; omega⟩)]
    exact ⟨rfl, hR⟩
theorem rsh_ne {Y : VV} {i c k : Nat} (h : c ≠ 88) : ∀ n, rsh Y i n c k = Y c k
  | 0 => rfl
  | n + 1 => by rw [rsh, pt_ne h, rsh_ne h n]
theorem rsh_at {Y : VV} {i k : Nat} : ∀ n, rsh Y i n 88 k = if 80 * i ≤ k ∧ k < 80 * i + n then Y 88 (k + 1) else Y 88 k
  | 0 => by rw [if_neg (by omega)]; rfl
  | n + 1 => by
    rw [rsh]
    by_cases e : k = 80 * i + n
    · rw [pt_eq rfl e, rsh_at n, if_neg (by omega), if_pos (by omega), e]
    · rw [pt_nk e, rsh_at n]
      by_cases z : 80 * i ≤ k ∧ k < 80 * i + n
      · rw [if_pos z, if_pos (by omega)]
      · rw [if_neg z, if_neg (by omega)]
theorem crn_ne {X : VV} {q v r c k : Nat} (h : c ≠ 5 + 8 * q + 1) : ∀ n, crn X q v r n c k = X c k
  | 0 => rfl
  | n + 1 => by rw [crn, cln, pt_ne h, crn_ne h n]
theorem crl_ne {X : VV} {q v cut c k : Nat} (h : c ≠ 5 + 8 * q + 1) : ∀ r, crl X q v cut r c k = X c k
  | 0 => rfl
  | r + 1 => by rw [crl, crn_ne h, crl_ne h r]
theorem rkn_ne {Y : VV} {b c k : Nat} (h : c ≠ 84) : ∀ n, rkn Y b n c k = Y c k
  | 0 => rfl
  | n + 1 => by rw [rkn, pt_ne h, rkn_ne h n]
theorem rkl_ne {Y : VV} {q s c k : Nat} (h : c ≠ 84) : ∀ n, rkl Y q s n c k = Y c k
  | 0 => rfl
  | n + 1 => by rw [rkl, rkn_ne h, rkl_ne h n]
theorem rkn_le {Y : VV} (h : ∀ i, Y 84 i ≤ 1) {b : Nat} : ∀ n i, rkn Y b n 84 i ≤ 1
  | 0, i => h i
  | n + 1, i => by
    rw [rkn]
    by_cases e : i = b + n
    · rw [pt_eq rfl e]; exact Nat.le_refl _
    · rw [pt_nk e]; exact rkn_le h n i
theorem rkl_le {Y : VV} (h : ∀ i, Y 84 i ≤ 1) {q s : Nat} : ∀ n i, rkl Y q s n 84 i ≤ 1
  | 0, i => h i
  | n + 1, i => by rw [rkl]; exact rkn_le (rkl_le h n) _ i
theorem rk_n {X Y : VV} (h : RK X Y) {q v r : Nat} (hq : q < 4) (hv : v < 16) (hr : r < 4) : ∀ n, n ≤ 4 → RK (crn X q v r n) (rkn Y (256 * q + 16 * v + 4 * r) n)
  | 0, _ => h
  | n + 1, hn => by
    rw [crn, rkn]
    exact rk_learn (rk_n h hq hv hr n (by omega)) hq hv hr (by omega)
theorem rk_l {X Y : VV} (h : RK X Y) {q s cut : Nat} (hq : q < 4) (hv : Y 85 s < 16) (hc : ∀ r, r < 4 → cnt cut r = Y 86 (4 * s + r)) (h4 : ∀ i, Y 86 i ≤ 4) : ∀ r, r ≤ 4 → RK (crl X q (Y 85 s) cut r) (rkl Y q s r)
  | 0, _ => h
  | r + 1, hr => by
    rw [crl, rkl, hc r (by omega)]
    exact rk_n (rk_l h hq hv hc h4 r (by omega)) hq hv (by omega) _ (h4 _)
theorem sim_take {X Y : VV} (h : Rel X Y) {p q : Nat} (hp : p < 4) (hq : q < 4) (hne : X (37 + 2 * (p * 4 + q)) 1 < X (37 + 2 * (p * 4 + q)) 2) : Rel (pt X (37 + 2 * (p * 4 + q)) 1 (X (37 + 2 * (p * 4 + q)) 1 + 1)) (rsh (pt Y 89 (4 * p + q) (Y 89 (4 * p + q) - 1)) (4 * p + q) (Y 89 (4 * p + q) - 1)) := by
  have hcap := fun a (ha : a < 4) => cap_le h.2.2.2.2.2.2.2.2 ha
  obtain ⟨h1, h2, h3, h4, h5, h6, h7, h8, h9⟩ := h
  refine Rel.mk2 (A := X) (B := Y) ⟨h1, h2, h3, h4, h5, h6, h7, h9⟩ (fun c k hc => pt_ne (by omega)) (fun c k _ z1 z2 => by rw [rsh_ne z1, pt_ne z2]) ?_
  intro a b ha hb
  obtain ⟨f1, f2, f3, f4⟩ := h8 a b ha hb
  obtain ⟨e1, e2, e3, e4⟩ := h8 p q hp hq
  have hca := hcap a ha
  have hcp := hcap p hp
  have hcc : cap (rsh (pt Y 89 (4 * p + q) (Y 89 (4 * p + q) - 1)) (4 * p + q) (Y 89 (4 * p + q) - 1)) a = cap Y a := by
    simp (disch := omega) only [cap, rsh_ne, pt_ne]
  dsimp only
  rw [hcc]
  by_cases hab : a = p ∧ b = q
  · obtain ⟨rfl, rfl⟩ := hab
    rw [pt_eq rfl rfl, pt_nk (by decide)]
    refine ⟨by omega, f2, ?_, fun k k1 k2 => ?_⟩
    · rw [rsh_ne (by decide), pt_eq rfl rfl]; omega
    · rw [pt_ne (by omega), rsh_at, if_pos (by omega), pt_ne (by decide)]
      have := f4 k (by omega) k2
      rw [show 80 * (4 * a + b) + (k - (X (37 + 2 * (a * 4 + b)) 1 + 1)) + 1 = 80 * (4 * a + b) + (k - X (37 + 2 * (a * 4 + b)) 1) by omega]
      exact this
  · have hne2 : a * 4 + b ≠ p * 4 + q := by omega
    rw [pt_ne (by omega), pt_ne (by omega)]
    refine ⟨f1, f2, ?_, fun k k1 k2 => ?_⟩
    · rw [rsh_ne (by decide), pt_nk (by omega)]; exact f3
    · rw [pt_ne (by omega), rsh_at, if_neg (by omega), pt_ne (by decide)]
      exact f4 k k1 k2
theorem sim_carry {X Y : VV} (h : Rel X Y) {p q : Nat} (hp : p < 4) (hq : q < 4) : (cCarry X p q).1 = (rCarry Y p q).1 ∧ Rel (cCarry X p q).2 (rCarry Y p q).2 := by
  have hR := h
  obtain ⟨h1, h2, h3, h4, h5, h6, h7, h8, h9⟩ := h
  obtain ⟨e1, e2, e3, e4⟩ := h8 p q hp hq
  unfold cCarry rCarry
  by_cases c1 : X (37 + 2 * (p * 4 + q)) 2 ≤ X (37 + 2 * (p * 4 + q)) 1
  · rw [if_pos c1, if_pos (by omega)]
    exact ⟨rfl, hR⟩
  · rw [if_neg c1, if_neg (show ¬ Y 89 (4 * p + q) = 0 by omega)]
    have ht := sim_take hR hp hq (by omega)
    obtain ⟨w1, w2⟩ := e4 (X (37 + 2 * (p * 4 + q)) 1) (Nat.le_refl _) (by omega)
    simp only [Nat.sub_self, Nat.add_zero] at w2
    have t85 : ∀ k, rsh (pt Y 89 (4 * p + q) (Y 89 (4 * p + q) - 1)) (4 * p + q) (Y 89 (4 * p + q) - 1) 85 k = Y 85 k := fun k => by rw [rsh_ne (by decide), pt_ne (by decide)]
    have x5 : ∀ c k, c < 37 → pt X (37 + 2 * (p * 4 + q)) 1 (X (37 + 2 * (p * 4 + q)) 1 + 1) c k = X c k := fun c k hc => pt_ne (by omega)
    generalize X (37 + 2 * (p * 4 + q) + 1) (X (37 + 2 * (p * 4 + q)) 1) = w at w1 w2 ⊢
    rw [← w2]
    generalize pt X (37 + 2 * (p * 4 + q)) 1 (X (37 + 2 * (p * 4 + q)) 1 + 1) = U at ht x5 ⊢
    generalize rsh (pt Y 89 (4 * p + q) (Y 89 (4 * p + q) - 1)) (4 * p + q) (Y 89 (4 * p + q) - 1) = Z at ht t85 ⊢
    obtain ⟨g1, g2, g3, g4, g5, g6, g7, g8, g9⟩ := ht
    by_cases c2 : w < 64
    · have etr : tr p w = 16 * (w / 4) + 4 * p + w % 4 := by unfold tr; rw [if_pos c2]
      rw [if_pos c2, if_pos (by omega), etr, show 256 * q + (16 * (w / 4) + 4 * p + w % 4) = 256 * q + 16 * (w / 4) + 4 * p + w % 4 by omega]
      have hk := rk_learn g3 hq (v := w / 4) (by omega) hp (n := w % 4) (by omega)
      refine ⟨rfl, ?_, ?_, hk, ?_, ?_, ?_, ?_, ?_, ?_⟩
      · unfold cln
        intro a ha
        simp (disch := omega) only [pt_eq, pt_ne, pt_nk]
        exact g1 a ha
      · unfold cln
        refine ⟨?_, fun v hv => ?_, fun v b hv hb => ?_⟩ <;> simp (disch := omega) only [pt_eq, pt_ne, pt_nk]
        · exact g2.1
        · exact g2.2.1 v hv
        · exact g2.2.2 v b hv hb
      · unfold cln
        intro a r ha hr
        simp (disch := omega) only [pt_eq, pt_ne, pt_nk]
        exact g4 a r ha hr
      · unfold cln
        intro a v n ha hv hn
        simp (disch := omega) only [pt_eq, pt_ne, pt_nk]
        exact g5 a v n ha hv hn
      · unfold cln
        intro a c ha hc
        simp (disch := omega) only [pt_eq, pt_ne, pt_nk]
        exact g6 a c ha hc
      · unfold cln
        intro a i ha hi
        simp (disch := omega) only [pt_eq, pt_ne, pt_nk]
        exact g7 a i ha hi
      · unfold cln
        intro a b ha hb
        simp (disch := omega) only [cap, pt_eq, pt_ne, pt_nk]
        exact g8 a b ha hb
      · obtain ⟨i0, i1, i2, i3, i4, i5, i6, i7⟩ := g9
        refine ⟨?_, ?_, ?_, ?_, ?_, ?_, fun i => ?_, ?_⟩
        · simp (disch := omega) only [pt_eq, pt_ne, pt_nk]
          exact i0
        · simp (disch := omega) only [pt_eq, pt_ne, pt_nk]
          exact i1
        · simp (disch := omega) only [pt_eq, pt_ne, pt_nk]
          exact i2
        · simp (disch := omega) only [pt_eq, pt_ne, pt_nk]
          exact i3
        · simp (disch := omega) only [pt_eq, pt_ne, pt_nk]
          exact i4
        · simp (disch := omega) only [pt_eq, pt_ne, pt_nk]
          exact i5
        · show pt Z 84 (256 * q + 16 * (w / 4) + 4 * p + w % 4) 1 84 i ≤ 1
          by_cases e : i = 256 * q + 16 * (w / 4) + 4 * p + w % 4
          · rw [pt_eq rfl e]; exact Nat.le_refl _
          · rw [pt_nk e]; exact i6 i
        · simp (disch := omega) only [pt_eq, pt_ne, pt_nk]
          exact i7
    · have etr : tr p w = 256 + (16 * p + (w - 64)) := by unfold tr; rw [if_neg c2]
      have e16 : w - 64 < 16 := by omega
      rw [if_neg c2, if_neg (by omega), etr, show 256 + (16 * p + (w - 64)) - 256 = 16 * p + (w - 64) by omega]
      generalize w - 64 = c at e16 ⊢
      obtain ⟨f1, f2, f3⟩ := g6 p c hp e16
      rw [t85] at f1
      have hk := rh_learn g4 hq hp e16
      rw [show 64 * q + 16 * p + c = 64 * q + (16 * p + c) by omega] at hk
      have hmid : RS (csy U q p c) (pt Z 87 (64 * q + (16 * p + c)) 1) ∧ RG (csy U q p c) (pt Z 87 (64 * q + (16 * p + c)) 1) ∧ RK (csy U q p c) (pt Z 87 (64 * q + (16 * p + c)) 1) ∧ RH (csy U q p c) (pt Z 87 (64 * q + (16 * p + c)) 1) ∧ RM (csy U q p c) (pt Z 87 (64 * q + (16 * p + c)) 1) ∧ RC (csy U q p c) (pt Z 87 (64 * q + (16 * p + c)) 1) ∧ RE (csy U q p c) (pt Z 87 (64 * q + (16 * p + c)) 1) ∧ RL (csy U q p c) (pt Z 87 (64 * q + (16 * p + c)) 1) ∧ BD (pt Z 87 (64 * q + (16 * p + c)) 1) := by
        refine ⟨?_, ?_, ?_, hk, ?_, ?_, ?_, ?_, ?_⟩
        · unfold csy
          intro a ha
          simp (disch := omega) only [pt_eq, pt_ne, pt_nk]
          exact g1 a ha
        · unfold csy
          refine ⟨?_, fun v hv => ?_, fun v b hv hb => ?_⟩ <;> simp (disch := omega) only [pt_eq, pt_ne, pt_nk]
          · exact g2.1
          · exact g2.2.1 v hv
          · exact g2.2.2 v b hv hb
        · unfold csy
          intro a v r ha hv hr
          simp (disch := omega) only [pt_eq, pt_ne, pt_nk]
          exact g3 a v r ha hv hr
        · unfold csy
          intro a v n ha hv hn
          simp (disch := omega) only [pt_eq, pt_ne, pt_nk]
          exact g5 a v n ha hv hn
        · unfold csy
          intro a c ha hc
          simp (disch := omega) only [pt_eq, pt_ne, pt_nk]
          exact g6 a c ha hc
        · unfold csy
          intro a i ha hi
          simp (disch := omega) only [pt_eq, pt_ne, pt_nk]
          exact g7 a i ha hi
        · unfold csy
          intro a b ha hb
          simp (disch := omega) only [cap, pt_eq, pt_ne, pt_nk]
          exact g8 a b ha hb
        · obtain ⟨i0, i1, i2, i3, i4, i5, i6, i7, i8, i9, i10⟩ := g9
          refine ⟨?_, ?_, ?_, ?_, ?_, ?_, ?_, ?_, ?_, fun i => ?_, ?_⟩
          · simp (disch := omega) only [pt_eq, pt_ne, pt_nk]
            exact i0
          · simp (disch := omega) only [pt_eq, pt_ne, pt_nk]
            exact i1
          · simp (disch := omega) only [pt_eq, pt_ne, pt_nk]
            exact i2
          · simp (disch := omega) only [pt_eq, pt_ne, pt_nk]
            exact i3
          · simp (disch := omega) only [pt_eq, pt_ne, pt_nk]
            exact i4
          · simp (disch := omega) only [pt_eq, pt_ne, pt_nk]
            exact i5
          · simp (disch := omega) only [pt_eq, pt_ne, pt_nk]
            exact i6
          · simp (disch := omega) only [pt_eq, pt_ne, pt_nk]
            exact i7
          · simp (disch := omega) only [pt_eq, pt_ne, pt_nk]
            exact i8
          · by_cases e : i = 64 * q + (16 * p + c)
            · rw [pt_eq rfl e]; exact Nat.le_refl _
            · rw [pt_nk e]; exact i9 i
          · simp (disch := omega) only [pt_eq, pt_ne, pt_nk]
            exact i10
      unfold crs
      rw [f1]
      by_cases c3 : Y 85 (16 * p + c) = 0
      · rw [if_pos c3, if_pos c3]
        exact ⟨rfl, hmid⟩
      · rw [if_neg c3, if_neg c3]
        obtain ⟨j1, j2, j3, j4, j5, j6, j7, j8, j9⟩ := hmid
        have e85 : pt Z 87 (64 * q + (16 * p + c)) 1 85 (16 * p + c) = Y 85 (16 * p + c) := by rw [pt_ne (by decide), t85]
        have hl := rk_l j3 (s := 16 * p + c) (cut := U (5 + 8 * p + 6) c) hq (by rw [e85]; have := j9.2.2.2.2.2.2.2.1 (16 * p + c); rw [e85] at this; omega) (fun r hr => by rw [pt_ne (by decide)]; exact f3 r hr) (fun i => by rw [pt_ne (by decide)]; exact g9.2.2.2.2.2.2.2.2.1 i) 4 (Nat.le_refl _)
        rw [e85] at hl
        refine ⟨rfl, ?_, ?_, hl, ?_, ?_, ?_, ?_, ?_, ?_⟩
        · intro a ha
          simp (disch := omega) only [crl_ne, rkl_ne]
          exact j1 a ha
        · refine ⟨?_, fun v hv => ?_, fun v b hv hb => ?_⟩ <;> simp (disch := omega) only [crl_ne, rkl_ne]
          · exact j2.1
          · exact j2.2.1 v hv
          · exact j2.2.2 v b hv hb
        · intro a r ha hr
          simp (disch := omega) only [crl_ne, rkl_ne]
          exact j4 a r ha hr
        · intro a v n ha hv hn
          simp (disch := omega) only [crl_ne, rkl_ne]
          exact j5 a v n ha hv hn
        · intro a c ha hc
          simp (disch := omega) only [crl_ne, rkl_ne]
          exact j6 a c ha hc
        · intro a i ha hi
          simp (disch := omega) only [crl_ne, rkl_ne]
          exact j7 a i ha hi
        · intro a b ha hb
          simp (disch := omega) only [cap, crl_ne, rkl_ne]
          exact j8 a b ha hb
        · obtain ⟨i0, i1, i2, i3, i4, i5, i6, i7⟩ := j9
          refine ⟨?_, ?_, ?_, ?_, ?_, ?_, fun i => rkl_le i6 4 i, ?_⟩ <;> simp (disch := omega) only [rkl_ne]
          · exact i0
          · exact i1
          · exact i2
          · exact i3
          · exact i4
          · exact i5
          · exact i7
end
section
theorem rsm.rfl' {Y : VV} : rsm Y Y := fun _ _ _ _ => rfl
theorem rsm.trans {Y Z W : VV} (h : rsm Y Z) (h2 : rsm Z W) : rsm Y W := fun c k z1 z2 => (h2 c k z1 z2).trans (h c k z1 z2)
theorem rsm.put90 {Y Z : VV} (h : rsm Y Z) (k n : Nat) : rsm Y (pt Z 90 k n) := fun c j z1 z2 => by rw [pt_ne z1]; exact h c j z1 z2
theorem rsm.put69 {Y Z : VV} (h : rsm Y Z) (n : Nat) : rsm Y (pt Z 69 22 n) := fun c j z1 z2 => by
  by_cases e : c = 69
  · rw [pt_nk (fun z => z2 ⟨e, z⟩)]; exact h c j z1 z2
  · rw [pt_ne e]; exact h c j z1 z2
theorem Rel.rsm {X Y Z : VV} (h : Rel X Y) (hs : rsm Y Z) : Rel X Z := by
  obtain ⟨h1, h2, h3, h4, h5, h6, h7, h8, h9⟩ := h
  have hs : ∀ c k, c ≠ 90 → ¬ (c = 69 ∧ k = 22) → Z c k = Y c k := hs
  refine ⟨?_, ?_, ?_, ?_, ?_, ?_, ?_, ?_, ?_⟩
  · intro p hp
    simp (disch := omega) only [hs]
    exact h1 p hp
  · refine ⟨?_, ?_, ?_⟩
    · rw [hs 69 10 (by decide) (by omega)]
      exact h2.1
    · intro v hv
      simp (disch := omega) only [hs]
      exact h2.2.1 v hv
    · intro v p hv hp
      simp (disch := omega) only [hs]
      exact h2.2.2 v p hv hp
  · intro p v r hp hv hr
    simp (disch := omega) only [hs]
    exact h3 p v r hp hv hr
  · intro p r hp hr
    simp (disch := omega) only [hs]
    exact h4 p r hp hr
  · intro p v n hp hv hn
    simp (disch := omega) only [hs]
    exact h5 p v n hp hv hn
  · intro p c hp hc
    simp (disch := omega) only [hs]
    exact h6 p c hp hc
  · intro p i hp hi
    simp (disch := omega) only [hs]
    exact h7 p i hp hi
  · intro p q hp hq
    simp (disch := omega) only [cap, hs]
    exact h8 p q hp hq
  · unfold BD
    simp (disch := omega) only [hs]
    exact h9
theorem rl0_at {Y : VV} {x : Nat} : ∀ n r, rl0 Y x n 90 r = if r < n then x else Y 90 r
  | 0, r => by rw [if_neg (by omega)]; rfl
  | n + 1, r => by
    rw [rl0]
    by_cases e : r = n
    · rw [pt_eq rfl e, if_pos (by omega)]
    · rw [pt_nk e, rl0_at n r]
      by_cases z : r < n
      · rw [if_pos z, if_pos (by omega)]
      · rw [if_neg z, if_neg (by omega)]
theorem rl0_ne {Y : VV} {x c k : Nat} (h : c ≠ 90) : ∀ n, rl0 Y x n c k = Y c k
  | 0 => rfl
  | n + 1 => by rw [rl0, pt_ne h, rl0_ne h n]
theorem rlr_ne {U : VV} {s c k : Nat} (h : c ≠ 90) : ∀ n, rlr U s n c k = U c k
  | 0 => rfl
  | n + 1 => by
    rw [rlr]
    split
    · rw [pt_ne h, rlr_ne h n]
    · exact rlr_ne h n
theorem rlr_at {U : VV} {s : Nat} : ∀ n r, rlr U s n 90 r = if r < n ∧ U 90 r < U 86 (4 * s + r) then U 86 (4 * s + r) else U 90 r
  | 0, r => by rw [if_neg (by omega)]; rfl
  | n + 1, r => by
    have hn : rlr U s n 90 n = U 90 n := by rw [rlr_at n n, if_neg (by omega)]
    rw [rlr, hn]
    by_cases e : r = n
    · subst e
      by_cases z : U 90 r < U 86 (4 * s + r)
      · rw [if_pos z, pt_eq rfl rfl, if_pos ⟨by omega, z⟩]
      · rw [if_neg z, hn, if_neg (show ¬ (r < r + 1 ∧ U 90 r < U 86 (4 * s + r)) from fun w => z w.2)]
    · by_cases z : U 90 n < U 86 (4 * s + n)
      · rw [if_pos z, pt_nk e, rlr_at n r]
        by_cases y : r < n ∧ U 90 r < U 86 (4 * s + r)
        · rw [if_pos y, if_pos ⟨by omega, y.2⟩]
        · rw [if_neg y, if_neg (fun w => y ⟨by omega, w.2⟩)]
      · rw [if_neg z, rlr_at n r]
        by_cases y : r < n ∧ U 90 r < U 86 (4 * s + r)
        · rw [if_pos y, if_pos ⟨by omega, y.2⟩]
        · rw [if_neg y, if_neg (fun w => y ⟨by omega, w.2⟩)]
theorem rlq_ne {Y : VV} {p v both c k : Nat} (h : c ≠ 90) (h2 : ¬ (c = 69 ∧ k = 22)) : ∀ q, rlq Y p v both q c k = Y c k
  | 0 => rfl
  | q + 1 => by
    rw [rlq]
    split
    · exact rlq_ne h h2 q
    · rw [rlr_ne h]
      by_cases e : c = 69
      · rw [pt_nk (fun z => h2 ⟨e, z⟩)]; exact rlq_ne h h2 q
      · rw [pt_ne e]; exact rlq_ne h h2 q
theorem cnt_mx {a b : Nat} (ha : pkd a) (hb : pkd b) {r : Nat} (hr : r < 4) : cnt (mx4 a b) r = if cnt a r < cnt b r then cnt b r else cnt a r := cnt_pk (d := fun r => if cnt a r < cnt b r then cnt b r else cnt a r) (fun r hr => by
  have h1 := ha.2 r hr
  have h2 := hb.2 r hr
  show (if cnt a r < cnt b r then cnt b r else cnt a r) ≤ 255
  split <;> omega) r hr
theorem pkd_mx {a b : Nat} (ha : pkd a) (hb : pkd b) : pkd (mx4 a b) := pkd_pk (fun r hr => by
  have h1 := ha.2 r hr
  have h2 := hb.2 r hr
  show (if cnt a r < cnt b r then cnt b r else cnt a r) ≤ 4
  split <;> omega)
/-- those that come along -/
def ccd (X : VV) (p com q : Nat) : Prop := com / 2 ^ q % 2 = 1 ∧ X (5 + 8 * q + 5) (X 4 (X (5 + 8 * p) 5 * 4 + q)) = X (5 + 8 * p) 0
theorem cco_lt {X : VV} {p com : Nat} : ∀ q, q ≤ 4 → cco X p com q < 2 ^ 4
  | 0, _ => by show 0 < 2 ^ 4; decide
  | q + 1, hq => by
    have ih := cco_lt (X := X) (p := p) (com := com) q (by omega)
    rw [cco]
    split
    · exact or_lt ih (by omega)
    · exact ih
theorem cco_bit {X : VV} {p com j : Nat} : ∀ q, cco X p com q / 2 ^ j % 2 = 1 ↔ j < q ∧ ccd X p com j
  | 0 => by
    rw [cco, Nat.zero_div]
    constructor
    · intro h; omega
    · intro h; omega
  | q + 1 => by
    have ih := cco_bit (X := X) (p := p) (com := com) (j := j) q
    rw [cco]
    split
    · rename_i hc
      rw [b_or]
      by_cases e : j = q
      · subst e
        rw [if_pos rfl]
        exact ⟨fun _ => ⟨by omega, hc⟩, fun _ => rfl⟩
      · rw [if_neg e, ih]
        exact ⟨fun z => ⟨by omega, z.2⟩, fun z => ⟨by omega, z.2⟩⟩
    · rename_i hc
      rw [ih]
      constructor
      · exact fun z => ⟨by omega, z.2⟩
      · intro z
        have : j ≠ q := fun e => hc (by rw [← e]; exact z.2)
        exact ⟨by omega, z.2⟩
theorem and_bit (a b j : Nat) : (a &&& b) / 2 ^ j % 2 = 1 ↔ a / 2 ^ j % 2 = 1 ∧ b / 2 ^ j % 2 = 1 := by
  have h : ∀ x n : Nat, x / 2 ^ n % 2 = 1 ↔ x.testBit n = true := by
    intro x n
    rw [Nat.testBit_eq_decide_div_mod_eq]
    simp
  rw [h, h, h, Nat.testBit_and]
  simp
theorem sim_lim {X Y : VV} (h : Rel X Y) {p : Nat} (hp : p < 4) (hv0 : ¬ Y 75 p = 0) : ∀ q, q ≤ 4 →
    rlq (rl0 (pt Y 69 22 0) 0 4) p (Y 75 p) (Y 80 (Y 75 p) &&& rps Y p) q 69 22 = cco X p (Y 80 (Y 75 p) &&& rps Y p) q ∧
    pkd (cli X (Y 75 p) (cco X p (Y 80 (Y 75 p) &&& rps Y p) 4) q) ∧
    ∀ r, r < 4 → rlq (rl0 (pt Y 69 22 0) 0 4) p (Y 75 p) (Y 80 (Y 75 p) &&& rps Y p) q 90 r = cnt (cli X (Y 75 p) (cco X p (Y 80 (Y 75 p) &&& rps Y p) 4) q) r
  | 0, _ => by
    rw [rlq, cco, cli]
    refine ⟨by rw [rl0_ne (by decide), pt_eq rfl rfl], pkd_0, fun r hr => ?_⟩
    rw [rl0_at, if_pos hr, show cnt 0 r = 0 by unfold cnt; rw [Nat.zero_div]]
  | q + 1, hq => by
    obtain ⟨i1, i2, i3⟩ := sim_lim h hp hv0 q (by omega)
    have hq4 : q < 4 := by omega
    obtain ⟨h1, h2, h3, h4, h5, h6, h7, h8, h9⟩ := h
    obtain ⟨s0, s1, s2, s3, s4, s5, s6, s7, s8, s9⟩ := h1 p hp
    obtain ⟨b0, b1, b2, b3, b4, b5, b6, b7, b8, b9⟩ := h9.1 p hp
    have hv15 := h9.2.1
    have e4 : X 4 (Y 75 p * 4 + q) = Y 81 (4 * Y 75 p + q) := h2.2.2 (Y 75 p) q (by omega) hq4
    have hst := h9.2.2.2.2.1 (4 * Y 75 p + q)
    obtain ⟨f1, f2, f3⟩ := h6 q (Y 81 (4 * Y 75 p + q)) hq4 (by omega)
    have z85 : rl0 (pt Y 69 22 0) 0 4 85 (16 * q + rl0 (pt Y 69 22 0) 0 4 81 (4 * Y 75 p + q)) = Y 85 (16 * q + Y 81 (4 * Y 75 p + q)) := by
      simp (disch := omega) only [rl0_ne, pt_ne]
    have z70 : rl0 (pt Y 69 22 0) 0 4 70 p = Y 70 p := by
      simp (disch := omega) only [rl0_ne, pt_ne]
    have z81 : rl0 (pt Y 69 22 0) 0 4 81 (4 * Y 75 p + q) = Y 81 (4 * Y 75 p + q) := by
      simp (disch := omega) only [rl0_ne, pt_ne]
    have hcc : ccd X p (Y 80 (Y 75 p) &&& rps Y p) q ↔ ¬ ((Y 80 (Y 75 p) &&& rps Y p) / 2 ^ q % 2 = 0 ∨ ¬ Y 85 (16 * q + Y 81 (4 * Y 75 p + q)) = Y 70 p ∨ (Y 70 p = 0 ∧ ¬ q = p)) := by
      unfold ccd
      rw [s5, e4, f1, s0]
      constructor
      · rintro ⟨z1, z2⟩ (z | z | z)
        · omega
        · exact z z2
        · have hb := ((and_bit _ _ _).mp z1).2
          unfold rps at hb
          rw [if_pos z.1] at hb
          exact z.2 (two_bit p hp q hq4 hb)
      · intro z
        refine ⟨?_, ?_⟩
        · by_cases y : (Y 80 (Y 75 p) &&& rps Y p) / 2 ^ q % 2 = 0
          · exact absurd (Or.inl y) z
          · omega
        · by_cases y : Y 85 (16 * q + Y 81 (4 * Y 75 p + q)) = Y 70 p
          · exact y
          · exact absurd (Or.inr (Or.inl y)) z
    have hbit := cco_bit (X := X) (p := p) (com := Y 80 (Y 75 p) &&& rps Y p) (j := q) 4
    rw [rlq, z85, z70, z81, cli, e4]
    by_cases hg : ccd X p (Y 80 (Y 75 p) &&& rps Y p) q
    · have hg2 := hg
      unfold ccd at hg2
      rw [if_neg (hcc.mp hg), cco, if_pos hg2, if_pos (hbit.mpr ⟨hq4, hg⟩)]
      refine ⟨?_, pkd_mx i2 f2, fun r hr => ?_⟩
      · rw [rlr_ne (by decide), pt_eq rfl rfl, i1]
      · rw [rlr_at, cnt_mx i2 f2 hr, f3 r hr, pt_ne (by decide), pt_ne (by decide), i3 r hr, rlq_ne (by decide) (by omega), rl0_ne (by decide), pt_ne (by decide)]
        by_cases z : cnt (cli X (Y 75 p) (cco X p (Y 80 (Y 75 p) &&& rps Y p) 4) q) r < Y 86 (4 * (16 * q + Y 81 (4 * Y 75 p + q)) + r)
        · rw [if_pos ⟨hr, z⟩, if_pos z]
        · rw [if_neg (fun w => z w.2), if_neg z]
    · have hn : ¬ cco X p (Y 80 (Y 75 p) &&& rps Y p) 4 / 2 ^ q % 2 = 1 := fun z => hg (hbit.mp z).2
      have hr1 : (Y 80 (Y 75 p) &&& rps Y p) / 2 ^ q % 2 = 0 ∨ ¬ Y 85 (16 * q + Y 81 (4 * Y 75 p + q)) = Y 70 p ∨ (Y 70 p = 0 ∧ ¬ q = p) := by
        by_cases y : (Y 80 (Y 75 p) &&& rps Y p) / 2 ^ q % 2 = 0 ∨ ¬ Y 85 (16 * q + Y 81 (4 * Y 75 p + q)) = Y 70 p ∨ (Y 70 p = 0 ∧ ¬ q = p)
        · exact y
        · exact absurd (hcc.mpr y) hg
      have hg2 := hg
      unfold ccd at hg2
      rw [if_pos hr1, cco, if_neg hg2, if_neg hn]
      exact ⟨i1, i2, i3⟩
theorem sim_dl {X Z : VV} (h : Rel X Z) {p lim : Nat} (hp : p < 4) (hl : pkd lim) (h90 : ∀ r, r < 4 → Z 90 r = cnt lim r) {q : Nat} (hq : q < 4) : cdl X p lim q ↔ rdl Z p q := by
  obtain ⟨h1, h2, h3, h4, h5, h6, h7, h8, h9⟩ := h
  obtain ⟨s0, s1, s2, s3, s4, s5, s6, s7, s8, s9⟩ := h1 p hp
  obtain ⟨b0, b1, b2, b3, b4, b5, b6, b7, b8, b9⟩ := h9.1 p hp
  have hv15 := h9.2.1
  have hq9 := s9 q hq
  have hl4 := hl.2 q hq
  unfold cdl rdl
  rw [h90 q hq, s0, hq9]
  by_cases hd : Z 78 (4 * p + q) < cnt lim q
  · obtain ⟨k1, k2, k3⟩ := h3 p (Z 70 p) q hp (by omega) hq
    have k3 := k3 (Z 78 (4 * p + q)) (by omega)
    obtain ⟨m1, m2, m3⟩ := h5 q (Z 70 p) (Z 78 (4 * p + q)) hq (by omega) (by omega)
    have m0 := h9.2.2.2.2.2.2.2.2.2.2 (Z 70 p) q (Z 78 (4 * p + q)) (by omega) hq (by omega)
    have hkn := h9.2.2.2.2.2.2.1 (256 * p + 16 * Z 70 p + 4 * q + Z 78 (4 * p + q))
    rw [k3, show 256 * p + (16 * Z 70 p + 4 * q + Z 78 (4 * p + q)) = 256 * p + 16 * Z 70 p + 4 * q + Z 78 (4 * p + q) by omega]
    constructor
    · rintro ⟨z1, z2, z3⟩
      refine ⟨z1, by omega, fun r hr _ => ?_⟩
      have := z3 r hr
      rw [m3 r hr, s9 r hr] at this
      exact this
    · rintro ⟨z1, z2, z3⟩
      refine ⟨z1, by omega, fun r hr => ?_⟩
      rw [m3 r hr, s9 r hr]
      by_cases e : r = q
      · subst e
        rw [m0]
        exact Nat.zero_le _
      · exact z3 r hr e
  · exact ⟨fun z => absurd z.1 hd, fun z => absurd z.1 hd⟩
theorem re_ev {X Y : VV} (h : RE X Y) {p : Nat} (hp : p < 4) (a b c d : Nat) : RE (cev X p a b c d) (rev Y p a b c d) := by
  intro g i hg hi
  unfold cev rev
  by_cases e : g = p
  · subst e
    match i, hi with
    | 0, _ => simp (disch := omega) only [pt_eq, pt_ne, pt_nk]
    | 1, _ => simp (disch := omega) only [pt_eq, pt_ne, pt_nk]
    | 2, _ => simp (disch := omega) only [pt_eq, pt_ne, pt_nk]
    | 3, _ => simp (disch := omega) only [pt_eq, pt_ne, pt_nk]
  · simp (disch := omega) only [pt_eq, pt_ne, pt_nk]
    exact h g i hg hi
theorem cev_ne {X : VV} {p a b c d g k : Nat} (h : g ≠ 5 + 8 * p + 7) : cev X p a b c d g k = X g k := by
  unfold cev
  rw [pt_ne h, pt_ne h, pt_ne h, pt_ne h]
theorem rev_ne {Y : VV} {p a b c d g k : Nat} (h : g ≠ 79) : rev Y p a b c d g k = Y g k := by
  unfold rev
  rw [pt_ne h, pt_ne h, pt_ne h, pt_ne h]
theorem sim_dv {X Z : VV} (h : Rel X Z) {p q : Nat} (hp : p < 4) (hq : q < 4) (hd : Z 78 (4 * p + q) < 4) : Rel (cdv X p q) (rdv Z p q) := by
  obtain ⟨h1, h2, h3, h4, h5, h6, h7, h8, h9⟩ := h
  obtain ⟨s0, s1, s2, s3, s4, s5, s6, s7, s8, s9⟩ := h1 p hp
  obtain ⟨b0, b1, b2, b3, b4, b5, b6, b7, b8, b9⟩ := h9.1 p hp
  have hv15 := h9.2.1
  have hq9 := s9 q hq
  obtain ⟨m1, m2, m3⟩ := h5 q (Z 70 p) (Z 78 (4 * p + q)) hq (by omega) hd
  unfold cdv rdv
  rw [hq9, s0, m1]
  have hre := re_ev (X := pt X (5 + 8 * p) 8 (wc (X (5 + 8 * p) 8) q (Z 78 (4 * p + q) + 1))) (Y := pt Z 78 (4 * p + q) (Z 78 (4 * p + q) + 1)) (fun a i ha hi => by simp (disch := omega) only [pt_eq, pt_ne, pt_nk]; exact h7 a i ha hi) hp 1 q (Z 78 (4 * p + q) + 1) (Z 82 (16 * Z 70 p + 4 * q + Z 78 (4 * p + q)))
  refine ⟨?_, ?_, ?_, ?_, ?_, ?_, hre, ?_, ?_⟩
  · intro a ha
    by_cases hap : a = p
    · subst hap
      simp (disch := omega) only [cev_ne, rev_ne, pt_eq, pt_ne, pt_nk]
      refine ⟨s0, s1, s2, s3, s4, s5, s6, s7, pkd_wc s8 (by omega), fun r hr => ?_⟩
      rw [cnt_wc s8 (by omega) hr]
      by_cases e : r = q
      · subst e
        rw [if_pos rfl, pt_eq rfl rfl]
      · rw [if_neg e, pt_nk (by omega)]
        exact s9 r hr
    · simp (disch := omega) only [cev_ne, rev_ne, pt_eq, pt_ne, pt_nk]
      obtain ⟨t0, t1, t2, t3, t4, t5, t6, t7, t8, t9⟩ := h1 a ha
      refine ⟨t0, t1, t2, t3, t4, t5, t6, t7, t8, fun r hr => ?_⟩
      rw [pt_nk (by omega)]
      exact t9 r hr
  · refine ⟨?_, fun v hv => ?_, fun v b hv hb => ?_⟩ <;> simp (disch := omega) only [cev_ne, rev_ne, pt_eq, pt_ne, pt_nk]
    · exact h2.1
    · exact h2.2.1 v hv
    · exact h2.2.2 v b hv hb
  · intro a v r ha hv hr
    simp (disch := omega) only [cev_ne, rev_ne, pt_eq, pt_ne, pt_nk]
    exact h3 a v r ha hv hr
  · intro a r ha hr
    simp (disch := omega) only [cev_ne, rev_ne, pt_eq, pt_ne, pt_nk]
    exact h4 a r ha hr
  · intro a v n ha hv hn
    simp (disch := omega) only [cev_ne, rev_ne, pt_eq, pt_ne, pt_nk]
    exact h5 a v n ha hv hn
  · intro a c ha hc
    simp (disch := omega) only [cev_ne, rev_ne, pt_eq, pt_ne, pt_nk]
    exact h6 a c ha hc
  · intro a b ha hb
    simp (disch := omega) only [cap, cev_ne, rev_ne, pt_eq, pt_ne, pt_nk]
    exact h8 a b ha hb
  · obtain ⟨i0, i1, i2, i3⟩ := h9
    refine ⟨?_, ?_, fun i => ?_, ?_⟩
    · simp (disch := omega) only [rev_ne, pt_ne]
      exact i0
    · simp (disch := omega) only [rev_ne, pt_ne]
      exact i1
    · rw [rev_ne (by decide)]
      by_cases e : i = 4 * p + q
      · rw [pt_eq rfl e]; omega
      · rw [pt_nk e]; exact i2 i
    · simp (disch := omega) only [rev_ne, pt_ne]
      exact i3
theorem rz4_ne {Y : VV} {p c k : Nat} (h : c ≠ 78) : ∀ n, rz4 Y p n c k = Y c k
  | 0 => rfl
  | n + 1 => by rw [rz4, pt_ne h, rz4_ne h n]
theorem rz4_at {Y : VV} {p k : Nat} : ∀ n, rz4 Y p n 78 k = if 4 * p ≤ k ∧ k < 4 * p + n then 0 else Y 78 k
  | 0 => by rw [if_neg (by omega)]; rfl
  | n + 1 => by
    rw [rz4]
    by_cases e : k = 4 * p + n
    · rw [pt_eq rfl e, if_pos (by omega)]
    · rw [pt_nk e, rz4_at n]
      by_cases z : 4 * p ≤ k ∧ k < 4 * p + n
      · rw [if_pos z, if_pos (by omega)]
      · rw [if_neg z, if_neg (by omega)]
theorem sim_en {X Z : VV} (h : Rel X Z) {p : Nat} (hp : p < 4) (hv0 : ¬ Z 75 p = 0) (co : Nat) : Rel (cen (cev X p 2 (X (5 + 8 * p) 5) (X 3 (X (5 + 8 * p) 5)) co) p) (rz4 (pt (pt (pt (rev (pt Z 70 p (Z 75 p)) p 2 (Z 75 p) (Z 80 (Z 75 p)) co) 75 p 0) 74 p 0) 77 p 0) p 4) := by
  obtain ⟨h1, h2, h3, h4, h5, h6, h7, h8, h9⟩ := h
  obtain ⟨s0, s1, s2, s3, s4, s5, s6, s7, s8, s9⟩ := h1 p hp
  obtain ⟨b0, b1, b2, b3, b4, b5, b6, b7, b8, b9⟩ := h9.1 p hp
  have hv15 := h9.2.1
  rw [s5, h2.2.1 (Z 75 p) (by omega)]
  have hre := re_ev (X := X) (Y := pt Z 70 p (Z 75 p)) (fun a i ha hi => by simp (disch := omega) only [pt_eq, pt_ne, pt_nk]; exact h7 a i ha hi) hp 2 (Z 75 p) (Z 80 (Z 75 p)) co
  have e5 : cev X p 2 (Z 75 p) (Z 80 (Z 75 p)) co (5 + 8 * p) 5 = Z 75 p := by rw [cev_ne (by omega), s5]
  unfold cen
  rw [e5]
  refine ⟨?_, ?_, ?_, ?_, ?_, ?_, ?_, ?_, ?_⟩
  · intro a ha
    by_cases hap : a = p
    · subst hap
      simp (disch := omega) only [cev_ne, rev_ne, rz4_ne, pt_eq, pt_ne, pt_nk]
      refine ⟨trivial, s1, s2, s3, trivial, trivial, s6, trivial, pkd_0, fun r hr => ?_⟩
      rw [rz4_at, if_pos (by omega)]
      unfold cnt
      rw [Nat.zero_div]
    · simp (disch := omega) only [cev_ne, rev_ne, rz4_ne, pt_eq, pt_ne, pt_nk]
      obtain ⟨t0, t1, t2, t3, t4, t5, t6, t7, t8, t9⟩ := h1 a ha
      refine ⟨t0, t1, t2, t3, t4, t5, t6, t7, t8, fun r hr => ?_⟩
      rw [rz4_at, if_neg (by omega)]
      simp (disch := omega) only [rev_ne, pt_ne]
      exact t9 r hr
  · refine ⟨?_, fun v hv => ?_, fun v b hv hb => ?_⟩ <;> simp (disch := omega) only [cev_ne, rev_ne, rz4_ne, pt_eq, pt_ne, pt_nk]
    · exact h2.1
    · exact h2.2.1 v hv
    · exact h2.2.2 v b hv hb
  · intro a v r ha hv hr
    simp (disch := omega) only [cev_ne, rev_ne, rz4_ne, pt_eq, pt_ne, pt_nk]
    exact h3 a v r ha hv hr
  · intro a r ha hr
    simp (disch := omega) only [cev_ne, rev_ne, rz4_ne, pt_eq, pt_ne, pt_nk]
    exact h4 a r ha hr
  · intro a v n ha hv hn
    simp (disch := omega) only [cev_ne, rev_ne, rz4_ne, pt_eq, pt_ne, pt_nk]
    exact h5 a v n ha hv hn
  · intro a c ha hc
    simp (disch := omega) only [cev_ne, rev_ne, rz4_ne, pt_eq, pt_ne, pt_nk]
    exact h6 a c ha hc
  · intro a i ha hi
    simp (disch := omega) only [rz4_ne, pt_ne]
    exact hre a i ha hi
  · intro a b ha hb
    obtain ⟨f1, f2, f3, f4⟩ := h8 a b ha hb
    simp (disch := omega) only [cap, cev_ne, rev_ne, rz4_ne, pt_ne]
    refine ⟨f1, ?_, f3, f4⟩
    by_cases hap : a = p
    · subst hap
      simp (disch := omega) only [pt_eq, pt_ne, pt_nk]
      unfold cap at f2
      rw [if_neg hv0]
      split at f2 <;> omega
    · simp (disch := omega) only [pt_eq, pt_ne, pt_nk]
      exact f2
  · obtain ⟨i0, i1, i2, i3⟩ := h9
    refine ⟨fun a ha => ?_, ?_, fun i => ?_, ?_⟩
    · by_cases hap : a = p
      · subst hap
        simp (disch := omega) only [rev_ne, rz4_ne, pt_eq, pt_ne, pt_nk]
        exact ⟨b5, b1, b2, b3, Nat.zero_le _, Nat.zero_le _, b6, Nat.zero_le _, by omega, Or.inl trivial⟩
      · simp (disch := omega) only [rev_ne, rz4_ne, pt_eq, pt_ne, pt_nk]
        exact i0 a ha
    · simp (disch := omega) only [rev_ne, rz4_ne, pt_ne]
      exact i1
    · rw [rz4_at]
      split
      · exact Nat.zero_le _
      · simp (disch := omega) only [rev_ne, pt_ne]
        exact i2 i
    · simp (disch := omega) only [rev_ne, rz4_ne, pt_ne]
      exact i3
theorem sim_d1 {X Z : VV} (h : Rel X Z) {p lim : Nat} (hp : p < 4) (hl : pkd lim) (h90 : ∀ r, r < 4 → Z 90 r = cnt lim r) {r : Int32} {X' : VV} (hc : cd1 X p lim r X') : (r = 1 ∧ ∃ q, q < 4 ∧ rdl Z p q ∧ (∀ j, j < q → ¬ rdl Z p j) ∧ X' = cdv X p q ∧ Rel X' (rdv Z p q)) ∨ (r = 0 ∧ (∀ j, j < 4 → ¬ rdl Z p j) ∧ X' = X) := by
  rcases hc with ⟨rfl, q, hq, z1, z2, rfl⟩ | ⟨rfl, z1, rfl⟩
  · have hr := (sim_dl h hp hl h90 hq).mp z1
    refine Or.inl ⟨rfl, q, hq, hr, fun j hj w => z2 j hj ((sim_dl h hp hl h90 (by omega)).mpr w), rfl, sim_dv h hp hq ?_⟩
    have h1 := hr.1
    rw [h90 q hq] at h1
    have := hl.2 q hq
    omega
  · exact Or.inr ⟨rfl, fun j hj w => z1 j hj ((sim_dl h hp hl h90 hj).mpr w), rfl⟩
theorem q_least {P : Nat → Prop} {a b : Nat} (ha : P a) (hb : P b) (la : ∀ j, j < a → ¬ P j) (lb : ∀ j, j < b → ¬ P j) : a = b := by
  rcases Nat.lt_trichotomy a b with z | z | z
  · exact absurd ha (lb a z)
  · exact z
  · exact absurd hb (la b z)
theorem sim_step {X Y : VV} (h : Rel X Y) {p : Nat} (hp : p < 4) {r r' : Int32} {X' Y' : VV} (hc : cStep X p r X') (hr : rStep Y p r' Y') : r = r' ∧ Rel X' Y' := by
  have hR := h
  have hcp := cps_eq h hp
  obtain ⟨h1, h2, h3, h4, h5, h6, h7, h8, h9⟩ := h
  obtain ⟨s0, s1, s2, s3, s4, s5, s6, s7, s8, s9⟩ := h1 p hp
  obtain ⟨b0, b1, b2, b3, b4, b5, b6, b7, b8, b9⟩ := h9.1 p hp
  have hv15 := h9.2.1
  have e3 : X 3 (Y 75 p) = Y 80 (Y 75 p) := h2.2.1 _ (by omega)
  have hrd : crd X p (Y 80 (Y 75 p) &&& rps Y p) ↔ rrd Y p (Y 75 p) (Y 80 (Y 75 p) &&& rps Y p) := by
    unfold crd rrd
    rw [s5]
    constructor
    · intro z q hq hb
      have e4 : X 4 (Y 75 p * 4 + q) = Y 81 (4 * Y 75 p + q) := h2.2.2 (Y 75 p) q (by omega) hq
      have hst := h9.2.2.2.2.1 (4 * Y 75 p + q)
      have := z q hq (by omega)
      rw [e4, (h4 p q hp hq).2 _ (by omega), show 64 * p + 16 * q + Y 81 (4 * Y 75 p + q) = 64 * p + (16 * q + Y 81 (4 * Y 75 p + q)) by omega] at this
      omega
    · intro z q hq hb
      have e4 : X 4 (Y 75 p * 4 + q) = Y 81 (4 * Y 75 p + q) := h2.2.2 (Y 75 p) q (by omega) hq
      have hst := h9.2.2.2.2.1 (4 * Y 75 p + q)
      have hh := h9.2.2.2.2.2.2.2.2.2.1 (64 * p + (16 * q + Y 81 (4 * Y 75 p + q)))
      have := z q hq (by omega)
      rw [e4, (h4 p q hp hq).2 _ (by omega), show 64 * p + 16 * q + Y 81 (4 * Y 75 p + q) = 64 * p + (16 * q + Y 81 (4 * Y 75 p + q)) by omega]
      omega
  obtain ⟨hw, Z, hlim, hr⟩ := hr
  unfold cStep at hc
  rw [s4, s5, e3, hcp, hrd] at hc
  have fin : ∀ {lim : Nat} {W : VV} {r0 : Int32} {V : VV}, rsm Y W → pkd lim → (∀ j, j < 4 → W 90 j = cnt lim j) → cd1 X p lim r0 V → ∀ {rr : Int32} {V' : VV}, (r0 = 1 → (∃ q, q < 4 ∧ rdl W p q ∧ (∀ j, j < q → ¬ rdl W p j) ∧ rr = 1 ∧ V' = rdv W p q) → rr = 1 ∧ Rel V V') ∧ (r0 = 1 → ¬ ∀ j, j < 4 → ¬ rdl W p j) ∧ (r0 = 0 → (∀ j, j < 4 → ¬ rdl W p j) ∧ V = X) := by
    intro lim W r0 V hs hl h90 hd rr V'
    rcases sim_d1 (hR.rsm hs) hp hl h90 hd with ⟨rfl, q, hq, z1, z2, z3, z4⟩ | ⟨rfl, z1, rfl⟩
    · refine ⟨fun _ hx => ?_, fun _ w => w q hq z1, fun w => absurd w (by decide)⟩
      obtain ⟨q', hq', y1, y2, rfl, rfl⟩ := hx
      have := q_least (P := rdl W p) z1 y1 z2 y2
      subst this
      exact ⟨rfl, z4⟩
    · exact ⟨fun w => absurd w (by decide), fun w => absurd w (by decide), fun _ => ⟨z1, rfl⟩⟩
  rcases hlim with ⟨rfl, d1, rfl⟩ | ⟨rfl, d1, d2, hs⟩ | ⟨rfl, d1, d2, d3, hs⟩ | ⟨rfl, d1, d2, d3, rfl⟩
  · -- not blocked
    have hs : rsm Y (rl0 (pt Y 69 22 0) 4 4) := fun c k z1 z2 => by
      rw [rl0_ne z1]
      exact (rsm.rfl'.put69 0) c k z1 z2
    have hl : pkd 67372036 := ⟨by decide, c4 (by decide) (by decide) (by decide) (by decide)⟩
    have h90 : ∀ j, j < 4 → rl0 (pt Y 69 22 0) 4 4 90 j = cnt 67372036 j := fun j hj => by
      rw [rl0_at, if_pos hj]
      revert j
      exact c4 (P := fun j => 4 = cnt 67372036 j) (by decide) (by decide) (by decide) (by decide)
    rcases hc with ⟨a1, a2⟩ | ⟨a1, a2⟩ | ⟨a1, a2⟩ | ⟨a1, a2⟩
    · rcases hr with ⟨y1, -⟩ | ⟨-, y2⟩ | ⟨-, y2, y3, y4⟩ | ⟨y1, -⟩ | ⟨y1, -⟩
      · exact absurd y1 (by decide)
      · have ha := a2
        rcases a2 with ⟨rfl, -⟩ | ⟨rfl, -⟩
        · obtain ⟨g1, g2⟩ := (fin hs hl h90 ha (rr := r') (V' := Y')).1 rfl y2
          exact ⟨g1.symm, g2⟩
        · obtain ⟨q, hq, y5, -⟩ := y2
          exact absurd y5 (((fin hs hl h90 ha (rr := r') (V' := Y')).2.2 rfl).1 q hq)
      · have ha := a2
        rcases a2 with ⟨rfl, -⟩ | ⟨rfl, -⟩
        · exact absurd y2 ((fin hs hl h90 ha (rr := r') (V' := Y')).2.1 rfl)
        · rw [y3, y4, ((fin hs hl h90 ha (rr := r') (V' := Y')).2.2 rfl).2]
          exact ⟨rfl, hR.rsm hs⟩
      · exact absurd y1 (by decide)
      · exact absurd y1 (by decide)
    · exact absurd d1 a1
    · exact absurd d1 a1
    · exact absurd d1 a1
  · rcases hc with ⟨a1, a2⟩ | ⟨a1, a2, rfl, rfl⟩ | ⟨a1, a2, a3⟩ | ⟨a1, a2, a3⟩
    · exact absurd a1 d1
    · rcases hr with ⟨-, rfl, rfl⟩ | ⟨y1, -⟩ | ⟨y1, -⟩ | ⟨y1, -⟩ | ⟨y1, -⟩
      · exact ⟨rfl, hR.rsm hs⟩
      · exact absurd rfl y1
      · exact absurd y1 (by decide)
      · exact absurd y1 (by decide)
      · exact absurd y1 (by decide)
    · exact absurd d2 a2
    · exact absurd d2 a2
  · rcases hc with ⟨a1, a2⟩ | ⟨a1, a2, -⟩ | ⟨a1, a2, a3, rfl, rfl⟩ | ⟨a1, a2, a3, -⟩
    · exact absurd a1 d1
    · exact absurd a2 d2
    · rcases hr with ⟨-, rfl, rfl⟩ | ⟨y1, -⟩ | ⟨y1, -⟩ | ⟨y1, -⟩ | ⟨y1, -⟩
      · exact ⟨rfl, hR.rsm hs⟩
      · exact absurd rfl y1
      · exact absurd y1 (by decide)
      · exact absurd y1 (by decide)
      · exact absurd y1 (by decide)
    · exact absurd a3 d3
  · have hs : rsm Y (rlq (rl0 (pt Y 69 22 0) 0 4) p (Y 75 p) (Y 80 (Y 75 p) &&& rps Y p) 4) := fun c k z1 z2 => by
      rw [rlq_ne z1 z2, rl0_ne z1]
      exact (rsm.rfl'.put69 0) c k z1 z2
    obtain ⟨hco, hl, h90⟩ := sim_lim hR hp d2 4 (Nat.le_refl _)
    have hZ := hR.rsm hs
    generalize rlq (rl0 (pt Y 69 22 0) 0 4) p (Y 75 p) (Y 80 (Y 75 p) &&& rps Y p) 4 = W at hs hco h90 hZ hr
    have w75 : W 75 p = Y 75 p := hs 75 p (by decide) (by omega)
    rcases hc with ⟨a1, a2⟩ | ⟨a1, a2, -⟩ | ⟨a1, a2, a3, -⟩ | ⟨a1, a2, a3, a4⟩
    · exact absurd a1 d1
    · exact absurd a2 d2
    · exact absurd d3 a3
    · rcases a4 with ⟨rfl, a4⟩ | ⟨a4, a5⟩
      · rcases hr with ⟨y1, -⟩ | ⟨-, y2⟩ | ⟨y1, -⟩ | ⟨-, y2, -⟩ | ⟨-, y2, -⟩
        · exact absurd y1 (by decide)
        · obtain ⟨g1, g2⟩ := (fin hs hl h90 a4 (rr := r') (V' := Y')).1 rfl y2
          exact ⟨g1.symm, g2⟩
        · exact absurd y1 (by decide)
        · exact absurd y2 ((fin hs hl h90 a4 (rr := r') (V' := Y')).2.1 rfl)
        · exact absurd y2 ((fin hs hl h90 a4 (rr := r') (V' := Y')).2.1 rfl)
      · have hnone := ((fin hs hl h90 a4 (rr := r') (V' := Y')).2.2 rfl).1
        have heq : X (5 + 8 * p) 8 = cli X (Y 75 p) (cco X p (Y 80 (Y 75 p) &&& rps Y p) 4) 4 ↔ ∀ j, j < 4 → W 78 (4 * p + j) = W 90 j := by
          constructor
          · intro z j hj
            rw [h90 j hj, ← z, s9 j hj, hs 78 (4 * p + j) (by decide) (by omega)]
          · intro z
            refine pkd_ext s8 hl (fun j hj => ?_)
            rw [← h90 j hj, ← z j hj, s9 j hj, hs 78 (4 * p + j) (by decide) (by omega)]
        rcases hr with ⟨y1, -⟩ | ⟨-, q, hq, y2, -⟩ | ⟨y1, -⟩ | ⟨-, -, y3, rfl, rfl⟩ | ⟨-, -, y3, rfl, rfl⟩
        · exact absurd y1 (by decide)
        · exact absurd y2 (hnone q hq)
        · exact absurd y1 (by decide)
        · rcases a5 with ⟨-, rfl, rfl⟩ | ⟨a6, -⟩
          · exact ⟨rfl, hZ⟩
          · exact absurd (heq.mp a6) y3
        · rcases a5 with ⟨a6, -⟩ | ⟨-, rfl, rfl⟩
          · exact absurd (heq.mpr y3) a6
          · refine ⟨rfl, ?_⟩
            have := sim_en hZ hp (by rw [w75]; exact d2) (W 69 22)
            rw [s5, e3] at this
            rw [← hco]
            exact this
end
