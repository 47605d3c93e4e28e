/-- the locals, by place: what stands at a place that is some .. -/
def lq (ls : Array Slot) (L : List (Option Value)) : Prop := ls.size = L.length ∧ lv_wf ls ∧ ∀ (i : Nat) (v : Value), L[i]? = some (some v) → v.category = 1 ∧ ls[i]? = some (.val v)
def lq_en : Nat → List (Option Value) → List (Nat × Value)
  | _, [] => []
  | k, none :: t => lq_en (k + 1) t
  | k, some v :: t => (k, v) :: lq_en (k + 1) t
theorem lq_en_mem : ∀ (L : List (Option Value)) (k i : Nat) (v : Value), (i, v) ∈ lq_en k L ↔ ∃ j, i = k + j ∧ L[j]? = some (some v)
  | [], k, i, v => by simp [lq_en]
  | none :: t, k, i, v => by
    rw [lq_en, lq_en_mem t (k + 1) i v]
    constructor
    · rintro ⟨j, h1, h2⟩
      exact ⟨j + 1, by omega, by simpa using h2⟩
    · rintro ⟨j, h1, h2⟩
      cases j with
      | zero => simp at h2
      | succ j => exact ⟨j, by omega, by simpa using h2⟩
  | some w :: t, k, i, v => by
    rw [lq_en, List.mem_cons, lq_en_mem t (k + 1) i v]
    constructor
    · rintro (h | ⟨j, h1, h2⟩)
      · cases h
        exact ⟨0, by omega, by simp⟩
      · exact ⟨j + 1, by omega, by simpa using h2⟩
    · rintro ⟨j, h1, h2⟩
      cases j with
      | zero =>
        left
        simp at h2
        subst h2
        simp at h1
        rw [h1]
      | succ j => exact Or.inr ⟨j, by omega, by simpa using h2⟩
theorem lq.has {ls : Array Slot} {L : List (Option Value)} (h : lq ls L) : lv_has ls L.length (lq_en 0 L) := by
  refine ⟨h.1, h.2.1, fun q hq => ?_⟩
  obtain ⟨i, v⟩ := q
  obtain ⟨j, h1, h2⟩ := (lq_en_mem L 0 i v).mp hq
  have h3 : i = j := by omega
  subst h3
  exact (h.2.2 i v h2).2
theorem lq.at {ls : Array Slot} {L : List (Option Value)} (h : lq ls L) {i : Nat} {v : Value} (hi : L[i]? = some (some v)) : ls[i]? = some (.val v) := (h.2.2 i v hi).2
theorem lq.set {ls ls' : Array Slot} {L : List (Option Value)} {i : Nat} {v : Value} (h : lq ls L) (hi : i < L.length) (hc : v.category = 1) (h' : lv_has ls' L.length ((i, v) :: (lq_en 0 L).filter (fun q => !(q.1 == i) && !(q.1 + 1 == i && q.2.category == 2)))) : lq ls' (L.set i (some v)) := by
  refine ⟨by rw [List.length_set]; exact h'.1, h'.2.1, fun j w hj => ?_⟩
  by_cases hij : i = j
  · subst hij
    rw [List.getElem?_set_self hi] at hj
    cases hj
    exact ⟨hc, h'.2.2 (i, v) List.mem_cons_self⟩
  · rw [List.getElem?_set_ne hij] at hj
    have hw := (h.2.2 j w hj).1
    refine ⟨hw, h'.2.2 (j, w) (List.mem_cons_of_mem _ (List.mem_filter.mpr ⟨(lq_en_mem L 0 j w).mpr ⟨j, by omega, hj⟩, ?_⟩))⟩
    have hji : ¬ j = i := fun e => hij e.symm
    simp [hji, hw]
theorem lq_entry (vs : List Value) (hvs : ∀ v ∈ vs, v.category = 1) (n : Nat) (h : vs.length ≤ n) : lq ((lg_sl vs ++ List.replicate (n - (lg_sl vs).length) Slot.unset).toArray) (vs.map some ++ List.replicate (n - vs.length) none) := by
  have e : lg_sl vs = vs.map Slot.val := by
    unfold lg_sl
    induction vs with
    | nil => rfl
    | cons v t ih =>
      have h1 := hvs v List.mem_cons_self
      rw [List.flatMap_cons, ih (fun w hw => hvs w (List.mem_cons_of_mem _ hw)) (by simp at h; omega)]
      simp [h1]
  have hl := lv_entry vs (n := n) (by rw [e, List.length_map]; exact h)
  refine ⟨by rw [hl.1]; simp; omega, hl.2.1, fun i v hi => ?_⟩
  by_cases hiv : i < vs.length
  · rw [List.getElem?_append_left (by simpa using hiv), List.getElem?_map, Option.map_eq_some_iff] at hi
    obtain ⟨w, h1, h2⟩ := hi
    cases h2
    refine ⟨hvs _ (List.mem_of_getElem? h1), ?_⟩
    rw [e, List.getElem?_toArray, List.getElem?_append_left (by simpa using hiv), List.getElem?_map, h1]
    rfl
  · rw [List.getElem?_append_right (by simpa using Nat.not_lt.mp hiv)] at hi
    have := List.mem_of_getElem? hi
    simp at this
/-- the judgement: from every heap that holds the world w, with the locals L: the machine at pc with the stack st comes to Q -/
def G (p : Program) (l : Launch) (e : Env) (R : Room) (s : State) (m : MethodId) (args : Array Value) (below : List Frame) (meth : Method) (c : Code) (D : va_G) (cl : List vw_C) (A : Nat → Prop) (k n : Nat) (Q : State → Prop) (w : va_W) (L : List (Option Value)) (pc : Nat) (st : List Value) : Prop :=
  ∀ (H : Heap) (locs : List Loc) (ls : Array Slot), va_P D cl w H → va_S A s.heap H locs → lq ls L → W p l e R s m args below meth c H locs k n Q (F0 m pc ls st)
section GR
variable {p : Program} {l : Launch} {e : Env} {R : Room} {s : State} {m : MethodId} {args : Array Value} {below : List Frame} {meth : Method} {c : Code} {D : va_G} {cl : List vw_C} {A : Nat → Prop} {k n : Nat} {Q : State → Prop} {w : va_W} {L : List (Option Value)} {pc : Nat} {st : List Value} {cc : ByteArray}
theorem g_iconst (hx : p.tables.exec = Jvm.exec) (hb : c.code = cc) {i : Int} {v : Int32} (hd : decode cc pc = .ok (.iconst i, 1)) (hv : Int32.ofInt i = v) (kk : G p l e R s m args below meth c D cl A k n Q w L (pc + 1) (.int v :: st)) : G p l e R s m args below meth c D cl A k n Q w L pc (st) :=
  fun H locs ls hP hS hl => lv_iconst hx hb hd hv (kk H locs ls hP hS hl)
theorem g_bipush (hx : p.tables.exec = Jvm.exec) (hb : c.code = cc) {i : Int} {v : Int32} (hd : decode cc pc = .ok (.bipush i, 2)) (hv : (Int8.ofInt i).toInt32 = v) (kk : G p l e R s m args below meth c D cl A k n Q w L (pc + 2) (.int v :: st)) : G p l e R s m args below meth c D cl A k n Q w L pc (st) :=
  fun H locs ls hP hS hl => lv_bipush hx hb hd hv (kk H locs ls hP hS hl)
theorem g_sipush (hx : p.tables.exec = Jvm.exec) (hb : c.code = cc) {i : Int} {v : Int32} (hd : decode cc pc = .ok (.sipush i, 3)) (hv : (Int16.ofInt i).toInt32 = v) (kk : G p l e R s m args below meth c D cl A k n Q w L (pc + 3) (.int v :: st)) : G p l e R s m args below meth c D cl A k n Q w L pc (st) :=
  fun H locs ls hP hS hl => lv_sipush hx hb hd hv (kk H locs ls hP hS hl)
theorem g_ldc (hx : p.tables.exec = Jvm.exec) (hb : c.code = cc) {own : String} {index : Nat} {v : Int32} (hd : decode cc pc = .ok (.ldc index, 2)) (hown : s.vm.findClass own = some m.cls) (hc : (Jvm.Cond.constant own index v).before args s = true) (kk : G p l e R s m args below meth c D cl A k n Q w L (pc + 2) (.int v :: st)) : G p l e R s m args below meth c D cl A k n Q w L pc (st) :=
  fun H locs ls hP hS hl => lv_ldc hx hb hown hc hd (kk H locs ls hP hS hl)
theorem g_iload_n (hx : p.tables.exec = Jvm.exec) (hb : c.code = cc) {j : Fin 4} {i : Nat} {x : Int32} (hd : decode cc pc = .ok (.iload_n j, 1)) (hi : (j : Nat) = i) (hL : L[i]? = some (some (.int x))) (kk : G p l e R s m args below meth c D cl A k n Q w L (pc + 1) (.int x :: st)) : G p l e R s m args below meth c D cl A k n Q w L pc (st) :=
  fun H locs ls hP hS hl => lv_iload_n hx hb hd hi (hl.at hL) (kk H locs ls hP hS hl)
theorem g_iload (hx : p.tables.exec = Jvm.exec) (hb : c.code = cc) {i : Nat} {x : Int32} (hd : decode cc pc = .ok (.iload i, 2)) (hL : L[i]? = some (some (.int x))) (kk : G p l e R s m args below meth c D cl A k n Q w L (pc + 2) (.int x :: st)) : G p l e R s m args below meth c D cl A k n Q w L pc (st) :=
  fun H locs ls hP hS hl => lv_iload hx hb hd (hl.at hL) (kk H locs ls hP hS hl)
theorem g_aload_n (hx : p.tables.exec = Jvm.exec) (hb : c.code = cc) {j : Fin 4} {i : Nat} {x : Nat} (hd : decode cc pc = .ok (.aload_n j, 1)) (hi : (j : Nat) = i) (hL : L[i]? = some (some (.ref x))) (kk : G p l e R s m args below meth c D cl A k n Q w L (pc + 1) (.ref x :: st)) : G p l e R s m args below meth c D cl A k n Q w L pc (st) :=
  fun H locs ls hP hS hl => lv_aload_n hx hb hd hi (hl.at hL) (kk H locs ls hP hS hl)
theorem g_aload (hx : p.tables.exec = Jvm.exec) (hb : c.code = cc) {i : Nat} {x : Nat} (hd : decode cc pc = .ok (.aload i, 2)) (hL : L[i]? = some (some (.ref x))) (kk : G p l e R s m args below meth c D cl A k n Q w L (pc + 2) (.ref x :: st)) : G p l e R s m args below meth c D cl A k n Q w L pc (st) :=
  fun H locs ls hP hS hl => lv_aload hx hb hd (hl.at hL) (kk H locs ls hP hS hl)
theorem g_istore_n (hx : p.tables.exec = Jvm.exec) (hb : c.code = cc) {j : Fin 4} {i : Nat} {x : Int32} {L' : List (Option Value)} (hd : decode cc pc = .ok (.istore_n j, 1)) (hi : (j : Nat) = i) (hn : i < L.length) (hL : L.set i (some (.int x)) = L') (kk : G p l e R s m args below meth c D cl A k n Q w L' (pc + 1) (st)) : G p l e R s m args below meth c D cl A k n Q w L pc (.int x :: st) :=
  fun H locs ls hP hS hl => lv_istore_n hx hb hd hi hl.has hn rfl (fun ls' h' => kk H locs ls' hP hS (hL ▸ hl.set hn rfl h'))
theorem g_istore (hx : p.tables.exec = Jvm.exec) (hb : c.code = cc) {i : Nat} {x : Int32} {L' : List (Option Value)} (hd : decode cc pc = .ok (.istore i, 2)) (hn : i < L.length) (hL : L.set i (some (.int x)) = L') (kk : G p l e R s m args below meth c D cl A k n Q w L' (pc + 2) (st)) : G p l e R s m args below meth c D cl A k n Q w L pc (.int x :: st) :=
  fun H locs ls hP hS hl => lv_istore hx hb hd hl.has hn rfl (fun ls' h' => kk H locs ls' hP hS (hL ▸ hl.set hn rfl h'))
theorem g_astore_n (hx : p.tables.exec = Jvm.exec) (hb : c.code = cc) {j : Fin 4} {i : Nat} {x : Nat} {L' : List (Option Value)} (hd : decode cc pc = .ok (.astore_n j, 1)) (hi : (j : Nat) = i) (hn : i < L.length) (hL : L.set i (some (.ref x)) = L') (kk : G p l e R s m args below meth c D cl A k n Q w L' (pc + 1) (st)) : G p l e R s m args below meth c D cl A k n Q w L pc (.ref x :: st) :=
  fun H locs ls hP hS hl => lv_astore_n hx hb hd hi hl.has hn rfl (fun ls' h' => kk H locs ls' hP hS (hL ▸ hl.set hn rfl h'))
theorem g_astore (hx : p.tables.exec = Jvm.exec) (hb : c.code = cc) {i : Nat} {x : Nat} {L' : List (Option Value)} (hd : decode cc pc = .ok (.astore i, 2)) (hn : i < L.length) (hL : L.set i (some (.ref x)) = L') (kk : G p l e R s m args below meth c D cl A k n Q w L' (pc + 2) (st)) : G p l e R s m args below meth c D cl A k n Q w L pc (.ref x :: st) :=
  fun H locs ls hP hS hl => lv_astore hx hb hd hl.has hn rfl (fun ls' h' => kk H locs ls' hP hS (hL ▸ hl.set hn rfl h'))
theorem g_iinc (hx : p.tables.exec = Jvm.exec) (hb : c.code = cc) {i : Nat} {d : Int} {x v : Int32} {L' : List (Option Value)} (hd : decode cc pc = .ok (.iinc i d, 3)) (hi : L[i]? = some (some (.int x))) (hv : x + Int32.ofInt d = v) (hL : L.set i (some (.int v)) = L') (kk : G p l e R s m args below meth c D cl A k n Q w L' (pc + 3) st) : G p l e R s m args below meth c D cl A k n Q w L pc st := by
  intro H locs ls hP hS hl
  have hn : i < L.length := (List.getElem?_eq_some_iff.mp hi).1
  obtain ⟨q, hq⟩ := List.getElem?_of_mem ((lq_en_mem L 0 i (.int x)).mpr ⟨i, by omega, hi⟩)
  exact lv_iinc hx hb hd hl.has hq hv hn rfl (fun ls' h' => kk H locs ls' hP hS (hL ▸ hl.set hn rfl h'))
theorem g_iadd (hx : p.tables.exec = Jvm.exec) (hb : c.code = cc) {x y : Int32} (hd : decode cc pc = .ok (.iadd, 1))  (kk : G p l e R s m args below meth c D cl A k n Q w L (pc + 1) (.int (x + y) :: st)) : G p l e R s m args below meth c D cl A k n Q w L pc (.int y :: .int x :: st) :=
  fun H locs ls hP hS hl => lv_iadd hx hb hd (kk H locs ls hP hS hl)
theorem g_isub (hx : p.tables.exec = Jvm.exec) (hb : c.code = cc) {x y : Int32} (hd : decode cc pc = .ok (.isub, 1))  (kk : G p l e R s m args below meth c D cl A k n Q w L (pc + 1) (.int (x - y) :: st)) : G p l e R s m args below meth c D cl A k n Q w L pc (.int y :: .int x :: st) :=
  fun H locs ls hP hS hl => lv_isub hx hb hd (kk H locs ls hP hS hl)
theorem g_imul (hx : p.tables.exec = Jvm.exec) (hb : c.code = cc) {x y : Int32} (hd : decode cc pc = .ok (.imul, 1))  (kk : G p l e R s m args below meth c D cl A k n Q w L (pc + 1) (.int (x * y) :: st)) : G p l e R s m args below meth c D cl A k n Q w L pc (.int y :: .int x :: st) :=
  fun H locs ls hP hS hl => lv_imul hx hb hd (kk H locs ls hP hS hl)
theorem g_iand (hx : p.tables.exec = Jvm.exec) (hb : c.code = cc) {x y : Int32} (hd : decode cc pc = .ok (.iand, 1))  (kk : G p l e R s m args below meth c D cl A k n Q w L (pc + 1) (.int (x &&& y) :: st)) : G p l e R s m args below meth c D cl A k n Q w L pc (.int y :: .int x :: st) :=
  fun H locs ls hP hS hl => lv_iand hx hb hd (kk H locs ls hP hS hl)
theorem g_ior (hx : p.tables.exec = Jvm.exec) (hb : c.code = cc) {x y : Int32} (hd : decode cc pc = .ok (.ior, 1))  (kk : G p l e R s m args below meth c D cl A k n Q w L (pc + 1) (.int (x ||| y) :: st)) : G p l e R s m args below meth c D cl A k n Q w L pc (.int y :: .int x :: st) :=
  fun H locs ls hP hS hl => lv_ior hx hb hd (kk H locs ls hP hS hl)
theorem g_ixor (hx : p.tables.exec = Jvm.exec) (hb : c.code = cc) {x y : Int32} (hd : decode cc pc = .ok (.ixor, 1))  (kk : G p l e R s m args below meth c D cl A k n Q w L (pc + 1) (.int (x ^^^ y) :: st)) : G p l e R s m args below meth c D cl A k n Q w L pc (.int y :: .int x :: st) :=
  fun H locs ls hP hS hl => lv_ixor hx hb hd (kk H locs ls hP hS hl)
theorem g_ishl (hx : p.tables.exec = Jvm.exec) (hb : c.code = cc) {x y : Int32} (hd : decode cc pc = .ok (.ishl, 1))  (kk : G p l e R s m args below meth c D cl A k n Q w L (pc + 1) (.int (x <<< (y &&& 31)) :: st)) : G p l e R s m args below meth c D cl A k n Q w L pc (.int y :: .int x :: st) :=
  fun H locs ls hP hS hl => lv_ishl hx hb hd (kk H locs ls hP hS hl)
theorem g_ishr (hx : p.tables.exec = Jvm.exec) (hb : c.code = cc) {x y : Int32} (hd : decode cc pc = .ok (.ishr, 1))  (kk : G p l e R s m args below meth c D cl A k n Q w L (pc + 1) (.int (x >>> (y &&& 31)) :: st)) : G p l e R s m args below meth c D cl A k n Q w L pc (.int y :: .int x :: st) :=
  fun H locs ls hP hS hl => lv_ishr hx hb hd (kk H locs ls hP hS hl)
theorem g_idiv (hx : p.tables.exec = Jvm.exec) (hb : c.code = cc) {x y : Int32} (hd : decode cc pc = .ok (.idiv, 1)) (hne : ¬ y = 0) (kk : G p l e R s m args below meth c D cl A k n Q w L (pc + 1) (.int (x / y) :: st)) : G p l e R s m args below meth c D cl A k n Q w L pc (.int y :: .int x :: st) :=
  fun H locs ls hP hS hl => lv_idiv hx hb hd hne (kk H locs ls hP hS hl)
theorem g_irem (hx : p.tables.exec = Jvm.exec) (hb : c.code = cc) {x y : Int32} (hd : decode cc pc = .ok (.irem, 1)) (hne : ¬ y = 0) (kk : G p l e R s m args below meth c D cl A k n Q w L (pc + 1) (.int (x - x / y * y) :: st)) : G p l e R s m args below meth c D cl A k n Q w L pc (.int y :: .int x :: st) :=
  fun H locs ls hP hS hl => lv_irem hx hb hd hne (kk H locs ls hP hS hl)
theorem g_iushr (hx : p.tables.exec = Jvm.exec) (hb : c.code = cc) {x y v : Int32} (hd : decode cc pc = .ok (.iushr, 1)) (hv : (x.toUInt32 >>> (y.toUInt32 &&& Int32.toUInt32 31)).toInt32 = v) (kk : G p l e R s m args below meth c D cl A k n Q w L (pc + 1) (.int v :: st)) : G p l e R s m args below meth c D cl A k n Q w L pc (.int y :: .int x :: st) :=
  fun H locs ls hP hS hl => lv_iushr hx hb hd hv (kk H locs ls hP hS hl)
theorem g_dup (hx : p.tables.exec = Jvm.exec) (hb : c.code = cc) {va : Value} (hd : decode cc pc = .ok (.dup, 1)) (hva : va.category = 1) (kk : G p l e R s m args below meth c D cl A k n Q w L (pc + 1) (va :: va :: st)) : G p l e R s m args below meth c D cl A k n Q w L pc (va :: st) :=
  fun H locs ls hP hS hl => lv_dup hx hb hd hva (kk H locs ls hP hS hl)
theorem g_pop (hx : p.tables.exec = Jvm.exec) (hb : c.code = cc) {va : Value} (hd : decode cc pc = .ok (.pop, 1)) (hva : va.category = 1) (kk : G p l e R s m args below meth c D cl A k n Q w L (pc + 1) (st)) : G p l e R s m args below meth c D cl A k n Q w L pc (va :: st) :=
  fun H locs ls hP hS hl => lv_pop hx hb hd hva (kk H locs ls hP hS hl)
theorem g_dup_x1 (hx : p.tables.exec = Jvm.exec) (hb : c.code = cc) {va vb : Value} (hd : decode cc pc = .ok (.dup_x1, 1)) (hva : va.category = 1) (hvb : vb.category = 1) (kk : G p l e R s m args below meth c D cl A k n Q w L (pc + 1) (va :: vb :: va :: st)) : G p l e R s m args below meth c D cl A k n Q w L pc (va :: vb :: st) :=
  fun H locs ls hP hS hl => lv_dup_x1 hx hb hd hva hvb (kk H locs ls hP hS hl)
theorem g_dup2 (hx : p.tables.exec = Jvm.exec) (hb : c.code = cc) {va vb : Value} (hd : decode cc pc = .ok (.dup2, 1)) (hva : va.category = 1) (hvb : vb.category = 1) (kk : G p l e R s m args below meth c D cl A k n Q w L (pc + 1) (va :: vb :: va :: vb :: st)) : G p l e R s m args below meth c D cl A k n Q w L pc (va :: vb :: st) :=
  fun H locs ls hP hS hl => lv_dup2_11 hx hb hd hva hvb (kk H locs ls hP hS hl)
theorem g_dup_x2 (hx : p.tables.exec = Jvm.exec) (hb : c.code = cc) {va vb vd : Value} (hd : decode cc pc = .ok (.dup_x2, 1)) (hva : va.category = 1) (hvb : vb.category = 1) (hvd : vd.category = 1) (kk : G p l e R s m args below meth c D cl A k n Q w L (pc + 1) (va :: vb :: vd :: va :: st)) : G p l e R s m args below meth c D cl A k n Q w L pc (va :: vb :: vd :: st) :=
  fun H locs ls hP hS hl => lv_dup_x2 hx hb hd hva hvb hvd (kk H locs ls hP hS hl)
theorem g_icmp_eq (hx : p.tables.exec = Jvm.exec) (hb : c.code = cc) {x y : Int32} {off : Int} {tgt : Nat} (hd : decode cc pc = .ok (.if_icmp .eq off, 3)) (ht : (pc : Int) + off = (tgt : Int)) (kt : x = y → G p l e R s m args below meth c D cl A k n Q w L tgt st) (kf : ¬ x = y → G p l e R s m args below meth c D cl A k n Q w L (pc + 3) st) : G p l e R s m args below meth c D cl A k n Q w L pc (.int y :: .int x :: st) :=
  fun H locs ls hP hS hl => lv_icmp_eq hx hb hd ht (fun h => kt h H locs ls hP hS hl) (fun h => kf h H locs ls hP hS hl)
theorem g_if_eq (hx : p.tables.exec = Jvm.exec) (hb : c.code = cc) {x : Int32} {off : Int} {tgt : Nat} (hd : decode cc pc = .ok (.ifCond .eq off, 3)) (ht : (pc : Int) + off = (tgt : Int)) (kt : x = 0 → G p l e R s m args below meth c D cl A k n Q w L tgt st) (kf : ¬ x = 0 → G p l e R s m args below meth c D cl A k n Q w L (pc + 3) st) : G p l e R s m args below meth c D cl A k n Q w L pc (.int x :: st) :=
  fun H locs ls hP hS hl => lv_if_eq hx hb hd ht (fun h => kt h H locs ls hP hS hl) (fun h => kf h H locs ls hP hS hl)
theorem g_icmp_ne (hx : p.tables.exec = Jvm.exec) (hb : c.code = cc) {x y : Int32} {off : Int} {tgt : Nat} (hd : decode cc pc = .ok (.if_icmp .ne off, 3)) (ht : (pc : Int) + off = (tgt : Int)) (kt : ¬ x = y → G p l e R s m args below meth c D cl A k n Q w L tgt st) (kf : x = y → G p l e R s m args below meth c D cl A k n Q w L (pc + 3) st) : G p l e R s m args below meth c D cl A k n Q w L pc (.int y :: .int x :: st) :=
  fun H locs ls hP hS hl => lv_icmp_ne hx hb hd ht (fun h => kt h H locs ls hP hS hl) (fun h => kf h H locs ls hP hS hl)
theorem g_if_ne (hx : p.tables.exec = Jvm.exec) (hb : c.code = cc) {x : Int32} {off : Int} {tgt : Nat} (hd : decode cc pc = .ok (.ifCond .ne off, 3)) (ht : (pc : Int) + off = (tgt : Int)) (kt : ¬ x = 0 → G p l e R s m args below meth c D cl A k n Q w L tgt st) (kf : x = 0 → G p l e R s m args below meth c D cl A k n Q w L (pc + 3) st) : G p l e R s m args below meth c D cl A k n Q w L pc (.int x :: st) :=
  fun H locs ls hP hS hl => lv_if_ne hx hb hd ht (fun h => kt h H locs ls hP hS hl) (fun h => kf h H locs ls hP hS hl)
theorem g_icmp_lt (hx : p.tables.exec = Jvm.exec) (hb : c.code = cc) {x y : Int32} {off : Int} {tgt : Nat} (hd : decode cc pc = .ok (.if_icmp .lt off, 3)) (ht : (pc : Int) + off = (tgt : Int)) (kt : x < y → G p l e R s m args below meth c D cl A k n Q w L tgt st) (kf : ¬ x < y → G p l e R s m args below meth c D cl A k n Q w L (pc + 3) st) : G p l e R s m args below meth c D cl A k n Q w L pc (.int y :: .int x :: st) :=
  fun H locs ls hP hS hl => lv_icmp_lt hx hb hd ht (fun h => kt h H locs ls hP hS hl) (fun h => kf h H locs ls hP hS hl)
theorem g_if_lt (hx : p.tables.exec = Jvm.exec) (hb : c.code = cc) {x : Int32} {off : Int} {tgt : Nat} (hd : decode cc pc = .ok (.ifCond .lt off, 3)) (ht : (pc : Int) + off = (tgt : Int)) (kt : x < 0 → G p l e R s m args below meth c D cl A k n Q w L tgt st) (kf : ¬ x < 0 → G p l e R s m args below meth c D cl A k n Q w L (pc + 3) st) : G p l e R s m args below meth c D cl A k n Q w L pc (.int x :: st) :=
  fun H locs ls hP hS hl => lv_if_lt hx hb hd ht (fun h => kt h H locs ls hP hS hl) (fun h => kf h H locs ls hP hS hl)
theorem g_icmp_ge (hx : p.tables.exec = Jvm.exec) (hb : c.code = cc) {x y : Int32} {off : Int} {tgt : Nat} (hd : decode cc pc = .ok (.if_icmp .ge off, 3)) (ht : (pc : Int) + off = (tgt : Int)) (kt : y ≤ x → G p l e R s m args below meth c D cl A k n Q w L tgt st) (kf : ¬ y ≤ x → G p l e R s m args below meth c D cl A k n Q w L (pc + 3) st) : G p l e R s m args below meth c D cl A k n Q w L pc (.int y :: .int x :: st) :=
  fun H locs ls hP hS hl => lv_icmp_ge hx hb hd ht (fun h => kt h H locs ls hP hS hl) (fun h => kf h H locs ls hP hS hl)
theorem g_if_ge (hx : p.tables.exec = Jvm.exec) (hb : c.code = cc) {x : Int32} {off : Int} {tgt : Nat} (hd : decode cc pc = .ok (.ifCond .ge off, 3)) (ht : (pc : Int) + off = (tgt : Int)) (kt : 0 ≤ x → G p l e R s m args below meth c D cl A k n Q w L tgt st) (kf : ¬ 0 ≤ x → G p l e R s m args below meth c D cl A k n Q w L (pc + 3) st) : G p l e R s m args below meth c D cl A k n Q w L pc (.int x :: st) :=
  fun H locs ls hP hS hl => lv_if_ge hx hb hd ht (fun h => kt h H locs ls hP hS hl) (fun h => kf h H locs ls hP hS hl)
theorem g_icmp_gt (hx : p.tables.exec = Jvm.exec) (hb : c.code = cc) {x y : Int32} {off : Int} {tgt : Nat} (hd : decode cc pc = .ok (.if_icmp .gt off, 3)) (ht : (pc : Int) + off = (tgt : Int)) (kt : y < x → G p l e R s m args below meth c D cl A k n Q w L tgt st) (kf : ¬ y < x → G p l e R s m args below meth c D cl A k n Q w L (pc + 3) st) : G p l e R s m args below meth c D cl A k n Q w L pc (.int y :: .int x :: st) :=
  fun H locs ls hP hS hl => lv_icmp_gt hx hb hd ht (fun h => kt h H locs ls hP hS hl) (fun h => kf h H locs ls hP hS hl)
theorem g_if_gt (hx : p.tables.exec = Jvm.exec) (hb : c.code = cc) {x : Int32} {off : Int} {tgt : Nat} (hd : decode cc pc = .ok (.ifCond .gt off, 3)) (ht : (pc : Int) + off = (tgt : Int)) (kt : 0 < x → G p l e R s m args below meth c D cl A k n Q w L tgt st) (kf : ¬ 0 < x → G p l e R s m args below meth c D cl A k n Q w L (pc + 3) st) : G p l e R s m args below meth c D cl A k n Q w L pc (.int x :: st) :=
  fun H locs ls hP hS hl => lv_if_gt hx hb hd ht (fun h => kt h H locs ls hP hS hl) (fun h => kf h H locs ls hP hS hl)
theorem g_icmp_le (hx : p.tables.exec = Jvm.exec) (hb : c.code = cc) {x y : Int32} {off : Int} {tgt : Nat} (hd : decode cc pc = .ok (.if_icmp .le off, 3)) (ht : (pc : Int) + off = (tgt : Int)) (kt : x ≤ y → G p l e R s m args below meth c D cl A k n Q w L tgt st) (kf : ¬ x ≤ y → G p l e R s m args below meth c D cl A k n Q w L (pc + 3) st) : G p l e R s m args below meth c D cl A k n Q w L pc (.int y :: .int x :: st) :=
  fun H locs ls hP hS hl => lv_icmp_le hx hb hd ht (fun h => kt h H locs ls hP hS hl) (fun h => kf h H locs ls hP hS hl)
theorem g_if_le (hx : p.tables.exec = Jvm.exec) (hb : c.code = cc) {x : Int32} {off : Int} {tgt : Nat} (hd : decode cc pc = .ok (.ifCond .le off, 3)) (ht : (pc : Int) + off = (tgt : Int)) (kt : x ≤ 0 → G p l e R s m args below meth c D cl A k n Q w L tgt st) (kf : ¬ x ≤ 0 → G p l e R s m args below meth c D cl A k n Q w L (pc + 3) st) : G p l e R s m args below meth c D cl A k n Q w L pc (.int x :: st) :=
  fun H locs ls hP hS hl => lv_if_le hx hb hd ht (fun h => kt h H locs ls hP hS hl) (fun h => kf h H locs ls hP hS hl)
theorem g_goto (hx : p.tables.exec = Jvm.exec) (hb : c.code = cc) {off : Int} {tgt : Nat} (hd : decode cc pc = .ok (.goto off, 3)) (ht : (pc : Int) + off = (tgt : Int)) (kk : G p l e R s m args below meth c D cl A k n Q w L tgt st) : G p l e R s m args below meth c D cl A k n Q w L pc st :=
  fun H locs ls hP hS hl => lv_goto hx hb hd ht (kk H locs ls hP hS hl)
theorem g_tableIn (hx : p.tables.exec = Jvm.exec) (hb : c.code = cc) {dflt lo hi : Int} {offs : Array Int} {len : Nat} {x : Int32} {off : Int} {tgt : Nat} (hd : decode cc pc = .ok (.tableswitch dflt lo hi offs, len)) (h1 : ¬ x.toInt < lo) (h2 : ¬ hi < x.toInt) (ho : offs[(x.toInt - lo).toNat]? = some off) (ht : (pc : Int) + off = (tgt : Int)) (kk : G p l e R s m args below meth c D cl A k n Q w L tgt st) : G p l e R s m args below meth c D cl A k n Q w L pc (.int x :: st) :=
  fun H locs ls hP hS hl => lv_tableIn hx hb hd h1 h2 ho ht (kk H locs ls hP hS hl)
theorem g_tableOut (hx : p.tables.exec = Jvm.exec) (hb : c.code = cc) {dflt lo hi : Int} {offs : Array Int} {len : Nat} {x : Int32} {tgt : Nat} (hd : decode cc pc = .ok (.tableswitch dflt lo hi offs, len)) (h : x.toInt < lo ∨ hi < x.toInt) (ht : (pc : Int) + dflt = (tgt : Int)) (kk : G p l e R s m args below meth c D cl A k n Q w L tgt st) : G p l e R s m args below meth c D cl A k n Q w L pc (.int x :: st) :=
  fun H locs ls hP hS hl => lv_tableOut hx hb hd h ht (kk H locs ls hP hS hl)
theorem g_val {x y : Int32} (h : x = y) (kk : G p l e R s m args below meth c D cl A k n Q w L pc (.int y :: st)) : G p l e R s m args below meth c D cl A k n Q w L pc (.int x :: st) := h ▸ kk
theorem g_val2 {z : Value} {x y : Int32} (h : x = y) (kk : G p l e R s m args below meth c D cl A k n Q w L pc (z :: .int y :: st)) : G p l e R s m args below meth c D cl A k n Q w L pc (z :: .int x :: st) := h ▸ kk
theorem g_w {w' : va_W} (h : w = w') (kk : G p l e R s m args below meth c D cl A k n Q w' L pc st) : G p l e R s m args below meth c D cl A k n Q w L pc st := h ▸ kk
theorem q_lt0 {a : Nat} (h : a < 2 ^ 32) : nI a < 0 ↔ 2 ^ 31 ≤ a := by
  have e : (nI a).toInt = if a < 2 ^ 31 then (a : Int) else (a : Int) - 2 ^ 32 := by
    unfold nI
    rw [Int32.toInt_ofNat']
    simp only [Int.bmod, Int32.size]
    split <;> split <;> omega
  rw [Int32.lt_iff_toInt_lt, e, show (0 : Int32).toInt = 0 from rfl]
  split <;> omega
theorem q_and (a b : Nat) : nI a &&& nI b = nI (a &&& b) := by
  apply Int32.toBitVec_inj.mp
  unfold nI
  simp [Int32.toBitVec_ofNat', BitVec.ofNat_and]
theorem q_or (a b : Nat) : nI a ||| nI b = nI (a ||| b) := by
  apply Int32.toBitVec_inj.mp
  unfold nI
  simp [Int32.toBitVec_ofNat', BitVec.ofNat_or]
theorem q_s31 : ∀ n, n < 32 → nI n &&& 31 = nI n := by decide +kernel
theorem q_sm : ∀ n, n < 32 → ((nI n &&& 31).toBitVec.smod 32).toNat = n := by decide +kernel
theorem q_shl {a n : Nat} (hn : n < 32) (h : a * 2 ^ n < 2 ^ 32) : nI a <<< (nI n &&& 31) = nI (a * 2 ^ n) := pk_shlN _ n (q_sm n hn) h
theorem q_shr {a n : Nat} (hn : n < 32) (h : a < 2 ^ 31) : nI a >>> (nI n &&& 31) = nI (a / 2 ^ n) := pk_shrN h _ n (q_sm n hn)
theorem q_of (x : Int32) : ∃ n : Nat, n < 2 ^ 32 ∧ x = nI n := by
  refine ⟨x.toBitVec.toNat, x.toBitVec.isLt, ?_⟩
  apply Int32.toBitVec_inj.mp
  unfold nI
  simp [Int32.toBitVec_ofNat']
theorem n_iadd (hx : p.tables.exec = Jvm.exec) (hb : c.code = cc) {a b : Nat} (hd : decode cc pc = .ok (.iadd, 1))  (kk : G p l e R s m args below meth c D cl A k n Q w L (pc + 1) (.int (nI (a + b)) :: st)) : G p l e R s m args below meth c D cl A k n Q w L pc (.int (nI b) :: .int (nI a) :: st) :=
  g_iadd hx hb hd  (g_val (nI_add a b) kk)
theorem n_isub (hx : p.tables.exec = Jvm.exec) (hb : c.code = cc) {a b : Nat} (hd : decode cc pc = .ok (.isub, 1)) (h : b ≤ a) (kk : G p l e R s m args below meth c D cl A k n Q w L (pc + 1) (.int (nI (a - b)) :: st)) : G p l e R s m args below meth c D cl A k n Q w L pc (.int (nI b) :: .int (nI a) :: st) :=
  g_isub hx hb hd  (g_val (pk_sub h) kk)
theorem n_imul (hx : p.tables.exec = Jvm.exec) (hb : c.code = cc) {a b : Nat} (hd : decode cc pc = .ok (.imul, 1))  (kk : G p l e R s m args below meth c D cl A k n Q w L (pc + 1) (.int (nI (a * b)) :: st)) : G p l e R s m args below meth c D cl A k n Q w L pc (.int (nI b) :: .int (nI a) :: st) :=
  g_imul hx hb hd  (g_val (pk_mul a b) kk)
theorem n_iand (hx : p.tables.exec = Jvm.exec) (hb : c.code = cc) {a b : Nat} (hd : decode cc pc = .ok (.iand, 1))  (kk : G p l e R s m args below meth c D cl A k n Q w L (pc + 1) (.int (nI (a &&& b)) :: st)) : G p l e R s m args below meth c D cl A k n Q w L pc (.int (nI b) :: .int (nI a) :: st) :=
  g_iand hx hb hd  (g_val (q_and a b) kk)
theorem n_ior (hx : p.tables.exec = Jvm.exec) (hb : c.code = cc) {a b : Nat} (hd : decode cc pc = .ok (.ior, 1))  (kk : G p l e R s m args below meth c D cl A k n Q w L (pc + 1) (.int (nI (a ||| b)) :: st)) : G p l e R s m args below meth c D cl A k n Q w L pc (.int (nI b) :: .int (nI a) :: st) :=
  g_ior hx hb hd  (g_val (q_or a b) kk)
theorem n_ishl (hx : p.tables.exec = Jvm.exec) (hb : c.code = cc) {a b : Nat} (hd : decode cc pc = .ok (.ishl, 1)) (h : b < 32) (h2 : a * 2 ^ b < 2 ^ 32) (kk : G p l e R s m args below meth c D cl A k n Q w L (pc + 1) (.int (nI (a * 2 ^ b)) :: st)) : G p l e R s m args below meth c D cl A k n Q w L pc (.int (nI b) :: .int (nI a) :: st) :=
  g_ishl hx hb hd  (g_val (q_shl h h2) kk)
theorem n_ishr (hx : p.tables.exec = Jvm.exec) (hb : c.code = cc) {a b : Nat} (hd : decode cc pc = .ok (.ishr, 1)) (h : b < 32) (h2 : a < 2 ^ 31) (kk : G p l e R s m args below meth c D cl A k n Q w L (pc + 1) (.int (nI (a / 2 ^ b)) :: st)) : G p l e R s m args below meth c D cl A k n Q w L pc (.int (nI b) :: .int (nI a) :: st) :=
  g_ishr hx hb hd  (g_val (q_shr h h2) kk)
theorem n_idiv (hx : p.tables.exec = Jvm.exec) (hb : c.code = cc) {a b : Nat} (hd : decode cc pc = .ok (.idiv, 1)) (ha : a < 2 ^ 31) (h0 : 0 < b) (h1 : b < 2 ^ 31) (kk : G p l e R s m args below meth c D cl A k n Q w L (pc + 1) (.int (nI (a / b)) :: st)) : G p l e R s m args below meth c D cl A k n Q w L pc (.int (nI b) :: .int (nI a) :: st) :=
  g_idiv hx hb hd (nI_ne0 h0 h1) (g_val (pk_div ha h0 h1) kk)
theorem n_irem (hx : p.tables.exec = Jvm.exec) (hb : c.code = cc) {a b : Nat} (hd : decode cc pc = .ok (.irem, 1)) (ha : a < 2 ^ 31) (h0 : 0 < b) (h1 : b < 2 ^ 31) (kk : G p l e R s m args below meth c D cl A k n Q w L (pc + 1) (.int (nI (a % b)) :: st)) : G p l e R s m args below meth c D cl A k n Q w L pc (.int (nI b) :: .int (nI a) :: st) :=
  g_irem hx hb hd (nI_ne0 h0 h1) (g_val (pk_rem ha h0 h1) kk)
theorem n_iinc (hx : p.tables.exec = Jvm.exec) (hb : c.code = cc) {i : Nat} {x : Nat} {L' : List (Option Value)} (hd : decode cc pc = .ok (.iinc i 1, 3)) (hi : L[i]? = some (some (.int (nI x)))) (hL : L.set i (some (.int (nI (x + 1)))) = L') (kk : G p l e R s m args below meth c D cl A k n Q w L' (pc + 3) st) : G p l e R s m args below meth c D cl A k n Q w L pc st :=
  g_iinc hx hb hd hi (nI_1 x) hL kk
theorem n_icmp_eq (hx : p.tables.exec = Jvm.exec) (hb : c.code = cc) {a b : Nat} {off : Int} {tgt : Nat} (hd : decode cc pc = .ok (.if_icmp .eq off, 3)) (ht : (pc : Int) + off = (tgt : Int)) (ha : a < 2 ^ 31) (hb2 : b < 2 ^ 31) (kt : a = b → G p l e R s m args below meth c D cl A k n Q w L tgt st) (kf : ¬ a = b → G p l e R s m args below meth c D cl A k n Q w L (pc + 3) st) : G p l e R s m args below meth c D cl A k n Q w L pc (.int (nI b) :: .int (nI a) :: st) :=
  g_icmp_eq hx hb hd ht (fun h => kt ((nI_eq ha hb2).mp h)) (fun h => kf (fun q => h ((nI_eq ha hb2).mpr q)))
theorem n_icmp_ne (hx : p.tables.exec = Jvm.exec) (hb : c.code = cc) {a b : Nat} {off : Int} {tgt : Nat} (hd : decode cc pc = .ok (.if_icmp .ne off, 3)) (ht : (pc : Int) + off = (tgt : Int)) (ha : a < 2 ^ 31) (hb2 : b < 2 ^ 31) (kt : ¬ a = b → G p l e R s m args below meth c D cl A k n Q w L tgt st) (kf : a = b → G p l e R s m args below meth c D cl A k n Q w L (pc + 3) st) : G p l e R s m args below meth c D cl A k n Q w L pc (.int (nI b) :: .int (nI a) :: st) :=
  g_icmp_ne hx hb hd ht (fun h => kt (fun q => h ((nI_eq ha hb2).mpr q))) (fun h => kf ((nI_eq ha hb2).mp h))
theorem n_icmp_lt (hx : p.tables.exec = Jvm.exec) (hb : c.code = cc) {a b : Nat} {off : Int} {tgt : Nat} (hd : decode cc pc = .ok (.if_icmp .lt off, 3)) (ht : (pc : Int) + off = (tgt : Int)) (ha : a < 2 ^ 31) (hb2 : b < 2 ^ 31) (kt : a < b → G p l e R s m args below meth c D cl A k n Q w L tgt st) (kf : b ≤ a → G p l e R s m args below meth c D cl A k n Q w L (pc + 3) st) : G p l e R s m args below meth c D cl A k n Q w L pc (.int (nI b) :: .int (nI a) :: st) :=
  g_icmp_lt hx hb hd ht (fun h => kt ((nI_ltI ha hb2).mp h)) (fun h => kf (Nat.not_lt.mp (fun q => h ((nI_ltI ha hb2).mpr q))))
theorem n_icmp_ge (hx : p.tables.exec = Jvm.exec) (hb : c.code = cc) {a b : Nat} {off : Int} {tgt : Nat} (hd : decode cc pc = .ok (.if_icmp .ge off, 3)) (ht : (pc : Int) + off = (tgt : Int)) (ha : a < 2 ^ 31) (hb2 : b < 2 ^ 31) (kt : b ≤ a → G p l e R s m args below meth c D cl A k n Q w L tgt st) (kf : a < b → G p l e R s m args below meth c D cl A k n Q w L (pc + 3) st) : G p l e R s m args below meth c D cl A k n Q w L pc (.int (nI b) :: .int (nI a) :: st) :=
  g_icmp_ge hx hb hd ht (fun h => kt ((nI_leI hb2 ha).mp h)) (fun h => kf (Nat.not_le.mp (fun q => h ((nI_leI hb2 ha).mpr q))))
theorem n_icmp_gt (hx : p.tables.exec = Jvm.exec) (hb : c.code = cc) {a b : Nat} {off : Int} {tgt : Nat} (hd : decode cc pc = .ok (.if_icmp .gt off, 3)) (ht : (pc : Int) + off = (tgt : Int)) (ha : a < 2 ^ 31) (hb2 : b < 2 ^ 31) (kt : b < a → G p l e R s m args below meth c D cl A k n Q w L tgt st) (kf : a ≤ b → G p l e R s m args below meth c D cl A k n Q w L (pc + 3) st) : G p l e R s m args below meth c D cl A k n Q w L pc (.int (nI b) :: .int (nI a) :: st) :=
  g_icmp_gt hx hb hd ht (fun h => kt ((nI_ltI hb2 ha).mp h)) (fun h => kf (Nat.not_lt.mp (fun q => h ((nI_ltI hb2 ha).mpr q))))
theorem n_icmp_le (hx : p.tables.exec = Jvm.exec) (hb : c.code = cc) {a b : Nat} {off : Int} {tgt : Nat} (hd : decode cc pc = .ok (.if_icmp .le off, 3)) (ht : (pc : Int) + off = (tgt : Int)) (ha : a < 2 ^ 31) (hb2 : b < 2 ^ 31) (kt : a ≤ b → G p l e R s m args below meth c D cl A k n Q w L tgt st) (kf : b < a → G p l e R s m args below meth c D cl A k n Q w L (pc + 3) st) : G p l e R s m args below meth c D cl A k n Q w L pc (.int (nI b) :: .int (nI a) :: st) :=
  g_icmp_le hx hb hd ht (fun h => kt ((nI_leI ha hb2).mp h)) (fun h => kf (Nat.not_le.mp (fun q => h ((nI_leI ha hb2).mpr q))))
theorem n_if_eq (hx : p.tables.exec = Jvm.exec) (hb : c.code = cc) {a : Nat} {off : Int} {tgt : Nat} (hd : decode cc pc = .ok (.ifCond .eq off, 3)) (ht : (pc : Int) + off = (tgt : Int)) (ha : a < 2 ^ 31) (kt : a = 0 → G p l e R s m args below meth c D cl A k n Q w L tgt st) (kf : ¬ a = 0 → G p l e R s m args below meth c D cl A k n Q w L (pc + 3) st) : G p l e R s m args below meth c D cl A k n Q w L pc (.int (nI a) :: st) :=
  g_if_eq hx hb hd ht (fun h => kt ((nI_eq (b := 0) ha (by decide)).mp h)) (fun h => kf (fun q => h ((nI_eq (b := 0) ha (by decide)).mpr q)))
theorem n_if_ne (hx : p.tables.exec = Jvm.exec) (hb : c.code = cc) {a : Nat} {off : Int} {tgt : Nat} (hd : decode cc pc = .ok (.ifCond .ne off, 3)) (ht : (pc : Int) + off = (tgt : Int)) (ha : a < 2 ^ 31) (kt : ¬ a = 0 → G p l e R s m args below meth c D cl A k n Q w L tgt st) (kf : a = 0 → G p l e R s m args below meth c D cl A k n Q w L (pc + 3) st) : G p l e R s m args below meth c D cl A k n Q w L pc (.int (nI a) :: st) :=
  g_if_ne hx hb hd ht (fun h => kt (fun q => h ((nI_eq (b := 0) ha (by decide)).mpr q))) (fun h => kf ((nI_eq (b := 0) ha (by decide)).mp h))
theorem g_get (hx : p.tables.exec = Jvm.exec) (hb : c.code = cc) {own C : String} {T : u_T} {N ci index : Nat} {Ts : List Cond} {tys : List (ClassId × FieldType)} {a q0 : Nat} {fs : List Value} {v : Value} (hts : ∀ w ∈ Ts, w.before args s = true) (hin : ∀ w ∈ u_ws C T N, w ∈ Ts) (hown : s.vm.findClass own = some m.cls) (hK : va_K D cl tys s) (he : w[q0]? = some (a, .inr (ci, fs))) (hc : cl[ci]? = some (C, T, N)) (f : Nat) (hf : f < N) (hlink : (Cond.fieldLink own index (T f).1 (T f).2.1 (T f).2.2.1).before args s = true) (hv : fs[f]? = some v) (hd : decode cc pc = .ok (.getfield index, 3))
    (kk : G p l e R s m args below meth c D cl A k n Q w L (pc + 3) (v :: st)) : G p l e R s m args below meth c D cl A k n Q w L pc (.ref a :: st) :=
  fun H locs ls hP hS hl => va_get hx hb hts hin hown hK hP q0 he hc f hf hlink (fun _ h => h) hv hd (kk H locs ls hP hS hl)
theorem g_getN (hx : p.tables.exec = Jvm.exec) (hb : c.code = cc) {own C host : String} {T : u_T} {N ci index : Nat} {Ts : List Cond} {tys : List (ClassId × FieldType)} {a q0 : Nat} {fs : List Value} {v : Value} (hts : ∀ w ∈ Ts, w.before args s = true) (hin : ∀ w ∈ u_ws C T N, w ∈ Ts) (hown : s.vm.findClass own = some m.cls) (hK : va_K D cl tys s) (he : w[q0]? = some (a, .inr (ci, fs))) (hc : cl[ci]? = some (C, T, N)) (f : Nat) (hf : f < N) (hlink : (Cond.fieldLinkNest own index (T f).1 (T f).2.1 (T f).2.2.1 host).before args s = true) (hv : fs[f]? = some v) (hd : decode cc pc = .ok (.getfield index, 3))
    (kk : G p l e R s m args below meth c D cl A k n Q w L (pc + 3) (v :: st)) : G p l e R s m args below meth c D cl A k n Q w L pc (.ref a :: st) :=
  fun H locs ls hP hS hl => va_getN hx hb hts hin hown hK hP q0 he hc f hf hlink (fun _ h => h) hv hd (kk H locs ls hP hS hl)
theorem g_put (hx : p.tables.exec = Jvm.exec) (hb : c.code = cc) {own C : String} {T : u_T} {N ci index : Nat} {Ts : List Cond} {tys : List (ClassId × FieldType)} {a q0 : Nat} {fs : List Value} {v : Value} {ty : FieldType} {w' : va_W} (hts : ∀ w ∈ Ts, w.before args s = true) (hin : ∀ w ∈ u_ws C T N, w ∈ Ts) (ty0 : Nat → FieldType) (hty : ∀ k, k < N → parseFieldDescriptor (T k).2.2.1 = some (ty0 k)) (hnm : ∀ a, a < N → ∀ b, b < N → a ≠ b → (T a).2.1 ≠ (T b).2.1) (hown : s.vm.findClass own = some m.cls) (hK : va_K D cl tys s) (hD : va_D A w) (he : w[q0]? = some (a, .inr (ci, fs))) (hc : cl[ci]? = some (C, T, N)) (f : Nat) (hf : f < N) (hlink : (Cond.fieldLink own index (T f).1 (T f).2.1 (T f).2.2.1).before args s = true) (hfin : (T f).2.2.2 = false) (hpd : parseFieldDescriptor (T f).2.2.1 = some ty) (hn : narrow ty v = v) (hfit : fits ty v = true) (hl2 : f < fs.length) (hd : decode cc pc = .ok (.putfield index, 3)) (hw : w.set q0 (a, .inr (ci, fs.set f v)) = w')
    (kk : G p l e R s m args below meth c D cl A k n Q w' L (pc + 3) st) : G p l e R s m args below meth c D cl A k n Q w L pc (v :: .ref a :: st) :=
  fun H locs ls hP hS hl => va_put hx hb hts hin ty0 hty hnm hown hK hP hD hS q0 he hc f hf hlink (fun _ h => h) hfin hpd hn hfit hl2 hd (fun H1 locs1 hP1 _ hS1 => kk H1 locs1 ls (hw ▸ hP1) hS1 hl)
theorem g_putN (hx : p.tables.exec = Jvm.exec) (hb : c.code = cc) {own C host : String} {T : u_T} {N ci index : Nat} {Ts : List Cond} {tys : List (ClassId × FieldType)} {a q0 : Nat} {fs : List Value} {v : Value} {ty : FieldType} {w' : va_W} (hts : ∀ w ∈ Ts, w.before args s = true) (hin : ∀ w ∈ u_ws C T N, w ∈ Ts) (ty0 : Nat → FieldType) (hty : ∀ k, k < N → parseFieldDescriptor (T k).2.2.1 = some (ty0 k)) (hnm : ∀ a, a < N → ∀ b, b < N → a ≠ b → (T a).2.1 ≠ (T b).2.1) (hown : s.vm.findClass own = some m.cls) (hK : va_K D cl tys s) (hD : va_D A w) (he : w[q0]? = some (a, .inr (ci, fs))) (hc : cl[ci]? = some (C, T, N)) (f : Nat) (hf : f < N) (hlink : (Cond.fieldLinkNest own index (T f).1 (T f).2.1 (T f).2.2.1 host).before args s = true) (hfin : (T f).2.2.2 = false) (hpd : parseFieldDescriptor (T f).2.2.1 = some ty) (hn : narrow ty v = v) (hfit : fits ty v = true) (hl2 : f < fs.length) (hd : decode cc pc = .ok (.putfield index, 3)) (hw : w.set q0 (a, .inr (ci, fs.set f v)) = w')
    (kk : G p l e R s m args below meth c D cl A k n Q w' L (pc + 3) st) : G p l e R s m args below meth c D cl A k n Q w L pc (v :: .ref a :: st) :=
  fun H locs ls hP hS hl => va_putN hx hb hts hin ty0 hty hnm hown hK hP hD hS q0 he hc f hf hlink (fun _ h => h) hfin hpd hn hfit hl2 hd (fun H1 locs1 hP1 _ hS1 => kk H1 locs1 ls (hw ▸ hP1) hS1 hl)
theorem q_in {j n : Nat} (h : j < n) (hn : n < 2 ^ 31) : vp_in (nI j) n := vp_in_nI h hn
theorem g_iald (hx : p.tables.exec = Jvm.exec) (hb : c.code = cc) {tys : List (ClassId × FieldType)} {a q0 j len : Nat} {cA : ClassId} {f : Nat → Int32} {x : Int32} (hK : va_K D cl tys s) (he : w[q0]? = some (a, .inl (cA, len, .inl f))) (t0 : Nat) (ht : tys[t0]? = some (cA, .int)) (hj : j < len) (hlen : len < 2 ^ 31) (hv : f j = x) (hd : decode cc pc = .ok (.iaload, 1))
    (kk : G p l e R s m args below meth c D cl A k n Q w L (pc + 1) (.int x :: st)) : G p l e R s m args below meth c D cl A k n Q w L pc (.int (nI j) :: .ref a :: st) :=
  fun H locs ls hP hS hl => va_iald hx hb hK hP q0 t0 he ht (q_in hj hlen) hd (by rw [nI_clamp (Nat.lt_trans hj hlen), hv]; exact kk H locs ls hP hS hl)
theorem g_zald (hx : p.tables.exec = Jvm.exec) (hb : c.code = cc) {tys : List (ClassId × FieldType)} {a q0 j len : Nat} {cA : ClassId} {f : Nat → Int32} {x : Int32} (hK : va_K D cl tys s) (he : w[q0]? = some (a, .inl (cA, len, .inl f))) (t0 : Nat) (ht : tys[t0]? = some (cA, .boolean)) (hj : j < len) (hlen : len < 2 ^ 31) (hv : f j = x) (hd : decode cc pc = .ok (.baload, 1))
    (kk : G p l e R s m args below meth c D cl A k n Q w L (pc + 1) (.int x :: st)) : G p l e R s m args below meth c D cl A k n Q w L pc (.int (nI j) :: .ref a :: st) :=
  fun H locs ls hP hS hl => va_zald hx hb hK hP q0 t0 he ht (q_in hj hlen) hd (by rw [nI_clamp (Nat.lt_trans hj hlen), hv]; exact kk H locs ls hP hS hl)
theorem g_aald (hx : p.tables.exec = Jvm.exec) (hb : c.code = cc) {tys : List (ClassId × FieldType)} {a q0 j len b : Nat} {cA : ClassId} {C : String} {f : Nat → Option Nat} (hK : va_K D cl tys s) (he : w[q0]? = some (a, .inl (cA, len, .inr (.inr (.inr (.inr f)))))) (t0 : Nat) (ht : tys[t0]? = some (cA, .object C)) (hj : j < len) (hlen : len < 2 ^ 31) (hv : f j = some b) (hd : decode cc pc = .ok (.aaload, 1))
    (kk : G p l e R s m args below meth c D cl A k n Q w L (pc + 1) (.ref b :: st)) : G p l e R s m args below meth c D cl A k n Q w L pc (.int (nI j) :: .ref a :: st) :=
  fun H locs ls hP hS hl => va_aldq hx hb hK hP q0 t0 he ht (q_in hj hlen) hd (by rw [nI_clamp (Nat.lt_trans hj hlen), hv]; exact kk H locs ls hP hS hl)
theorem g_iast (hx : p.tables.exec = Jvm.exec) (hb : c.code = cc) {tys : List (ClassId × FieldType)} {a q0 j len : Nat} {cA : ClassId} {f : Nat → Int32} {x : Int32} {w' : va_W} (hK : va_K D cl tys s) (hD : va_D A w) (he : w[q0]? = some (a, .inl (cA, len, .inl f))) (t0 : Nat) (ht : tys[t0]? = some (cA, .int)) (hj : j < len) (hlen : len < 2 ^ 31) (hd : decode cc pc = .ok (.iastore, 1)) (hw : w.set q0 (a, .inl (cA, len, .inl (upd f j x))) = w')
    (kk : G p l e R s m args below meth c D cl A k n Q w' L (pc + 1) st) : G p l e R s m args below meth c D cl A k n Q w L pc (.int x :: .int (nI j) :: .ref a :: st) :=
  fun H locs ls hP hS hl => va_iast hx hb hK hP hD hS q0 t0 he ht (q_in hj hlen) hd (fun H1 locs1 hP1 _ hS1 => kk H1 locs1 ls (by rw [nI_clamp (Nat.lt_trans hj hlen), hw] at hP1; exact hP1) hS1 hl)
theorem g_zast (hx : p.tables.exec = Jvm.exec) (hb : c.code = cc) {tys : List (ClassId × FieldType)} {a q0 j len : Nat} {cA : ClassId} {f : Nat → Int32} {x : Int32} {w' : va_W} (hK : va_K D cl tys s) (hD : va_D A w) (he : w[q0]? = some (a, .inl (cA, len, .inl f))) (t0 : Nat) (ht : tys[t0]? = some (cA, .boolean)) (hj : j < len) (hlen : len < 2 ^ 31) (hd : decode cc pc = .ok (.bastore, 1)) (hx1 : vp_nar .boolean x = x) (hw : w.set q0 (a, .inl (cA, len, .inl (upd f j x))) = w')
    (kk : G p l e R s m args below meth c D cl A k n Q w' L (pc + 1) st) : G p l e R s m args below meth c D cl A k n Q w L pc (.int x :: .int (nI j) :: .ref a :: st) :=
  fun H locs ls hP hS hl => va_zast hx hb hK hP hD hS q0 t0 he ht (q_in hj hlen) hd (fun H1 locs1 hP1 _ hS1 => kk H1 locs1 ls (by rw [nI_clamp (Nat.lt_trans hj hlen), hx1, hw] at hP1; exact hP1) hS1 hl)
theorem g_alen (hx : p.tables.exec = Jvm.exec) (hb : c.code = cc) {tys : List (ClassId × FieldType)} {a q0 : Nat} {cA : ClassId} {y : vp_A} {ty : FieldType} {len : Nat} (hK : va_K D cl tys s) (he : w[q0]? = some (a, .inl (cA, y))) (t0 : Nat) (ht : tys[t0]? = some (cA, ty)) (hv : y.1 = len) (hd : decode cc pc = .ok (.arraylength, 1))
    (kk : G p l e R s m args below meth c D cl A k n Q w L (pc + 1) (.int (nI len) :: st)) : G p l e R s m args below meth c D cl A k n Q w L pc (.ref a :: st) :=
  fun H locs ls hP hS hl => va_alen hx hb hK hP q0 t0 he ht (v := nI len) (by rw [hv]; rfl) hd (kk H locs ls hP hS hl)
end GR
/-- a contract over a world: i an int (or boolean) answer, v none -/
def CTi (l : Launch) (y : MethodName) (ws : List Cond) (rm : Room) (K : State → Prop) (D : va_G) (cl : List vw_C) (A : Nat → Prop) (av : List Value) (w : va_W) (post : Int32 → va_W → Prop) : Prop :=
  Met l y ws rm (va_Pc av (fun U => va_P D cl w U.heap ∧ K U)) (va_Qi post (fun w' t => va_P D cl w' t.heap) A) 0 0 A
def CTv (l : Launch) (y : MethodName) (ws : List Cond) (rm : Room) (K : State → Prop) (D : va_G) (cl : List vw_C) (A : Nat → Prop) (av : List Value) (w : va_W) (post : va_W → Prop) : Prop :=
  Met l y ws rm (va_Pc av (fun U => va_P D cl w U.heap ∧ K U)) (va_Qv post (fun w' t => va_P D cl w' t.heap) A) 0 0 A
def K_ok (K : State → Prop) : Prop := (∀ (a : Array Value) (U : State) (g : JFrame) (mk : MethodId), K U → K (U.calling g mk a)) ∧ ∀ s U : State, s.WarmedH U.vm → K s → K U
section GC
variable {p : Program} {l : Launch} {e : Env} {R : Room} {s : State} {m : MethodId} {args : Array Value} {below : List Frame} {meth : Method} {c : Code} {D : va_G} {cl : List vw_C} {A A0 : Nat → Prop} {k n : Nat} {Q : State → Prop} {w : va_W} {L : List (Option Value)} {pc : Nat} {st rest : List Value} {cc : ByteArray}
variable {y : MethodName} {bytes : ByteArray} {maxL nn index : Nat} {ret : Option FieldType} {ws ws' Ts : List Cond} {rm : Room} {K : State → Prop} {own C host : String} {b : Nat} {As : List Value}
theorem ct_i {av : List Value} {post : Int32 → va_W → Prop} (hy : plainName y.cls = true) (hw : ws = Cond.code y cc maxL ret :: ws') (hcat : av.all (fun v => v.category == 1) = true) (hlen : av.length ≤ maxL)
    (body : ∀ (p : Program) (e : Env) (s : State) (m : MethodId) (below : List Frame) (meth : Method) (c : Code), p.tables.exec = Jvm.exec → c.code = cc → meth.sig.returnType = ret → (∀ w ∈ ws, w.before av.toArray s = true) → s.vm.findClass y.cls = some m.cls → meth.locks = false → c.maxLocals = maxL → K s →
      G p l e rm s m av.toArray below meth c D cl A 0 0 (MQ below (va_Qi post (fun w' t => va_P D cl w' t.heap) A) av.toArray s 0 0 A) w (av.map some ++ List.replicate (maxL - av.length) none) 0 []) : CTi l y ws rm K D cl A av w post := by
  refine Met.ofW (cc := cc) (maxL := maxL) (ret := ret) hy hw ?_
  intro p e s m args below meth c s₁ B hml hv
  obtain ⟨rfl, hP, hK⟩ := hv
  rw [lg_entry_eq]
  exact body p e s m below meth c B.exec B.bytes B.returns (atoms_spec (ws := ws) B.pre) (findClass_of_methodNamed B.named) B.notSynchronized hml hK s.heap [] _ hP va_S.rf (lq_entry av (fun v hv => by simpa using List.all_eq_true.mp hcat v hv) maxL hlen)
theorem ct_v {av : List Value} {post : va_W → Prop} (hy : plainName y.cls = true) (hw : ws = Cond.code y cc maxL ret :: ws') (hcat : av.all (fun v => v.category == 1) = true) (hlen : av.length ≤ maxL)
    (body : ∀ (p : Program) (e : Env) (s : State) (m : MethodId) (below : List Frame) (meth : Method) (c : Code), p.tables.exec = Jvm.exec → c.code = cc → meth.sig.returnType = ret → (∀ w ∈ ws, w.before av.toArray s = true) → s.vm.findClass y.cls = some m.cls → meth.locks = false → c.maxLocals = maxL → K s →
      G p l e rm s m av.toArray below meth c D cl A 0 0 (MQ below (va_Qv post (fun w' t => va_P D cl w' t.heap) A) av.toArray s 0 0 A) w (av.map some ++ List.replicate (maxL - av.length) none) 0 []) : CTv l y ws rm K D cl A av w post := by
  refine Met.ofW (cc := cc) (maxL := maxL) (ret := ret) hy hw ?_
  intro p e s m args below meth c s₁ B hml hv
  obtain ⟨rfl, hP, hK⟩ := hv
  rw [lg_entry_eq]
  exact body p e s m below meth c B.exec B.bytes B.returns (atoms_spec (ws := ws) B.pre) (findClass_of_methodNamed B.named) B.notSynchronized hml hK s.heap [] _ hP va_S.rf (lq_entry av (fun v hv => by simpa using List.all_eq_true.mp hcat v hv) maxL hlen)
theorem g_iret (hx : p.tables.exec = Jvm.exec) (hb : c.code = cc) (hr : meth.sig.returnType = some .int) (hlk : meth.locks = false) {post : Int32 → va_W → Prop} {x : Int32} (hd : decode cc pc = .ok (.ireturn, 1)) (hp : post x w) : G p l e R s m args below meth c D cl A 0 0 (MQ below (va_Qi post (fun w' t => va_P D cl w' t.heap) A) args s 0 0 A) w L pc [.int x] :=
  fun H locs ls hP hS hl => W.iret hx hb hr (fun t ht hW => ⟨⟨x, w, rfl, hp, (show va_P D cl w t.heap by rw [ht]; exact hP)⟩, hS.F ht⟩) hS.2.2 hd hlk
theorem g_zret (hx : p.tables.exec = Jvm.exec) (hb : c.code = cc) (hr : meth.sig.returnType = some .boolean) (hlk : meth.locks = false) {post : Int32 → va_W → Prop} {x : Int32} (hn : narrow .boolean (.int x) = .int x) (hd : decode cc pc = .ok (.ireturn, 1)) (hp : post x w) : G p l e R s m args below meth c D cl A 0 0 (MQ below (va_Qi post (fun w' t => va_P D cl w' t.heap) A) args s 0 0 A) w L pc [.int x] :=
  fun H locs ls hP hS hl => W.zret hx hb hr hn (fun t ht hW => ⟨⟨x, w, rfl, hp, (show va_P D cl w t.heap by rw [ht]; exact hP)⟩, hS.F ht⟩) hS.2.2 hd hlk
theorem g_vret (hx : p.tables.exec = Jvm.exec) (hb : c.code = cc) (hr : meth.sig.returnType = none) (hlk : meth.locks = false) {post : va_W → Prop} (hd : decode cc pc = .ok (.return_, 1)) (hp : post w) : G p l e R s m args below meth c D cl A 0 0 (MQ below (va_Qv post (fun w' t => va_P D cl w' t.heap) A) args s 0 0 A) w L pc [] :=
  fun H locs ls hP hS hl => W.vret hx hb hr (fun t ht hW => ⟨⟨w, rfl, hp, (show va_P D cl w t.heap by rw [ht]; exact hP)⟩, hS.F ht⟩) hS.2.2 hd hlk
theorem g_callSi {post : Int32 → va_W → Prop} (S : CallFix p m c cc L.length s args Ts own) (hM : CTi l y ws rm K D cl A As w post) (cw : CallB R s args own index y bytes maxL ret ws rm 0 0 nn ∧ (Cond.static y).before args s = true) (hA : ∀ q, A q → A0 q) (hKo : K_ok K) (hK : K s) (hroom : (rest.map fun v => v.category).sum ≤ 8) (hf : k ≤ R.cells ∧ n ≤ R.slots) (hn : As.length = nn) (hst : st = As.reverse ++ rest) (hd : decode cc pc = .ok (.invokestatic index, 3))
    (kk : ∀ (r : Int32) (w' : va_W), post r w' → G p l e R s m args below meth c D cl A0 k n Q w' L (pc + 3) (.int r :: rest)) : G p l e R s m args below meth c D cl A0 k n Q w L pc st :=
  fun H locs ls hP hS hl => va_calli (va_runS (As := As) (rest := rest) S hM cw ⟨(fun a U g mk q => ⟨q.1, q.2.1, hKo.1 a U g mk q.2.2⟩), fun U hU hW => ⟨rfl, by rw [hU]; exact hP, hKo.2 s U hW hK⟩⟩ rfl hn hl.1 hst (lv_room hroom) hd hf) hS (fun q _ h => hA q h) hA (fun r u t H1 locs1 ht hvm hp hB _ _ hS1 => kk r u hp H1 locs1 ls (ht ▸ hB) hS1 hl)
theorem g_callSNi {post : Int32 → va_W → Prop} (S : CallFix p m c cc L.length s args Ts own) (hM : CTi l y ws rm K D cl A As w post) (cw : va_CN R s args own index y host bytes maxL ret ws rm 0 0 nn ∧ (Cond.static y).before args s = true ∧ True) (hA : ∀ q, A q → A0 q) (hKo : K_ok K) (hK : K s) (hroom : (rest.map fun v => v.category).sum ≤ 8) (hf : k ≤ R.cells ∧ n ≤ R.slots) (hn : As.length = nn) (hst : st = As.reverse ++ rest) (hd : decode cc pc = .ok (.invokestatic index, 3))
    (kk : ∀ (r : Int32) (w' : va_W), post r w' → G p l e R s m args below meth c D cl A0 k n Q w' L (pc + 3) (.int r :: rest)) : G p l e R s m args below meth c D cl A0 k n Q w L pc st :=
  fun H locs ls hP hS hl => va_calli (va_runSN (As := As) (rest := rest) S hM cw ⟨(fun a U g mk q => ⟨q.1, q.2.1, hKo.1 a U g mk q.2.2⟩), fun U hU hW => ⟨rfl, by rw [hU]; exact hP, hKo.2 s U hW hK⟩⟩ rfl hn hl.1 hst (lv_room hroom) hd hf) hS (fun q _ h => hA q h) hA (fun r u t H1 locs1 ht hvm hp hB _ _ hS1 => kk r u hp H1 locs1 ls (ht ▸ hB) hS1 hl)
theorem g_callVi {post : Int32 → va_W → Prop} (S : CallFix p m c cc L.length s args Ts own) (hM : CTi l y ws rm K D cl A (.ref b :: As) w post) (cw : CallW R s args own C index y bytes maxL ret ws rm 0 0 nn) {tys : List (ClassId × FieldType)} {q0 ci : Nat} {r0 : vw_C} {fs : List Value} (hKv : va_K D cl tys s) (hc : cl[ci]? = some r0) (he : w[q0]? = some (b, .inr (ci, fs))) (hr0 : r0.1 = C) (hA : ∀ q, A q → A0 q) (hKo : K_ok K) (hK : K s) (hroom : (rest.map fun v => v.category).sum ≤ 8) (hf : k ≤ R.cells ∧ n ≤ R.slots) (hn : As.length = nn) (hst : st = As.reverse ++ .ref b :: rest) (hd : decode cc pc = .ok (.invokevirtual index, 3))
    (kk : ∀ (r : Int32) (w' : va_W), post r w' → G p l e R s m args below meth c D cl A0 k n Q w' L (pc + 3) (.int r :: rest)) : G p l e R s m args below meth c D cl A0 k n Q w L pc st :=
  fun H locs ls hP hS hl => va_calli (va_runV (As := As) (rest := rest) S hM cw ⟨(fun a U g mk q => ⟨q.1, q.2.1, hKo.1 a U g mk q.2.2⟩), hr0 ▸ va_recv hKv hP hc he, fun U hU hW => ⟨rfl, by rw [hU]; exact hP, hKo.2 s U hW hK⟩⟩ rfl hn hl.1 hst (lv_room hroom) hd hf) hS (fun q _ h => hA q h) hA (fun r u t H1 locs1 ht hvm hp hB _ _ hS1 => kk r u hp H1 locs1 ls (ht ▸ hB) hS1 hl)
theorem g_callVNi {post : Int32 → va_W → Prop} (S : CallFix p m c cc L.length s args Ts own) (hM : CTi l y ws rm K D cl A (.ref b :: As) w post) (cw : va_CN R s args own index y host bytes maxL ret ws rm 0 0 nn ∧ (Cond.instanceMethod y).before args s = true ∧ (Cond.selects C y y).before args s = true) {tys : List (ClassId × FieldType)} {q0 ci : Nat} {r0 : vw_C} {fs : List Value} (hKv : va_K D cl tys s) (hc : cl[ci]? = some r0) (he : w[q0]? = some (b, .inr (ci, fs))) (hr0 : r0.1 = C) (hA : ∀ q, A q → A0 q) (hKo : K_ok K) (hK : K s) (hroom : (rest.map fun v => v.category).sum ≤ 8) (hf : k ≤ R.cells ∧ n ≤ R.slots) (hn : As.length = nn) (hst : st = As.reverse ++ .ref b :: rest) (hd : decode cc pc = .ok (.invokevirtual index, 3))
    (kk : ∀ (r : Int32) (w' : va_W), post r w' → G p l e R s m args below meth c D cl A0 k n Q w' L (pc + 3) (.int r :: rest)) : G p l e R s m args below meth c D cl A0 k n Q w L pc st :=
  fun H locs ls hP hS hl => va_calli (va_runVN (As := As) (rest := rest) S hM cw ⟨(fun a U g mk q => ⟨q.1, q.2.1, hKo.1 a U g mk q.2.2⟩), hr0 ▸ va_recv hKv hP hc he, fun U hU hW => ⟨rfl, by rw [hU]; exact hP, hKo.2 s U hW hK⟩⟩ rfl hn hl.1 hst (lv_room hroom) hd hf) hS (fun q _ h => hA q h) hA (fun r u t H1 locs1 ht hvm hp hB _ _ hS1 => kk r u hp H1 locs1 ls (ht ▸ hB) hS1 hl)
theorem g_callSv {post : va_W → Prop} (S : CallFix p m c cc L.length s args Ts own) (hM : CTv l y ws rm K D cl A As w post) (cw : CallB R s args own index y bytes maxL ret ws rm 0 0 nn ∧ (Cond.static y).before args s = true) (hA : ∀ q, A q → A0 q) (hKo : K_ok K) (hK : K s) (hroom : (rest.map fun v => v.category).sum ≤ 8) (hf : k ≤ R.cells ∧ n ≤ R.slots) (hn : As.length = nn) (hst : st = As.reverse ++ rest) (hd : decode cc pc = .ok (.invokestatic index, 3))
    (kk : ∀ (w' : va_W), post w' → G p l e R s m args below meth c D cl A0 k n Q w' L (pc + 3) rest) : G p l e R s m args below meth c D cl A0 k n Q w L pc st :=
  fun H locs ls hP hS hl => va_callv (va_runS (As := As) (rest := rest) S hM cw ⟨(fun a U g mk q => ⟨q.1, q.2.1, hKo.1 a U g mk q.2.2⟩), fun U hU hW => ⟨rfl, by rw [hU]; exact hP, hKo.2 s U hW hK⟩⟩ rfl hn hl.1 hst (lv_room hroom) hd hf) hS (fun q _ h => hA q h) hA (fun u t H1 locs1 ht hvm hp hB _ _ hS1 => kk u hp H1 locs1 ls (ht ▸ hB) hS1 hl)
theorem g_callSNv {post : va_W → Prop} (S : CallFix p m c cc L.length s args Ts own) (hM : CTv l y ws rm K D cl A As w post) (cw : va_CN R s args own index y host bytes maxL ret ws rm 0 0 nn ∧ (Cond.static y).before args s = true ∧ True) (hA : ∀ q, A q → A0 q) (hKo : K_ok K) (hK : K s) (hroom : (rest.map fun v => v.category).sum ≤ 8) (hf : k ≤ R.cells ∧ n ≤ R.slots) (hn : As.length = nn) (hst : st = As.reverse ++ rest) (hd : decode cc pc = .ok (.invokestatic index, 3))
    (kk : ∀ (w' : va_W), post w' → G p l e R s m args below meth c D cl A0 k n Q w' L (pc + 3) rest) : G p l e R s m args below meth c D cl A0 k n Q w L pc st :=
  fun H locs ls hP hS hl => va_callv (va_runSN (As := As) (rest := rest) S hM cw ⟨(fun a U g mk q => ⟨q.1, q.2.1, hKo.1 a U g mk q.2.2⟩), fun U hU hW => ⟨rfl, by rw [hU]; exact hP, hKo.2 s U hW hK⟩⟩ rfl hn hl.1 hst (lv_room hroom) hd hf) hS (fun q _ h => hA q h) hA (fun u t H1 locs1 ht hvm hp hB _ _ hS1 => kk u hp H1 locs1 ls (ht ▸ hB) hS1 hl)
theorem g_callVv {post : va_W → Prop} (S : CallFix p m c cc L.length s args Ts own) (hM : CTv l y ws rm K D cl A (.ref b :: As) w post) (cw : CallW R s args own C index y bytes maxL ret ws rm 0 0 nn) {tys : List (ClassId × FieldType)} {q0 ci : Nat} {r0 : vw_C} {fs : List Value} (hKv : va_K D cl tys s) (hc : cl[ci]? = some r0) (he : w[q0]? = some (b, .inr (ci, fs))) (hr0 : r0.1 = C) (hA : ∀ q, A q → A0 q) (hKo : K_ok K) (hK : K s) (hroom : (rest.map fun v => v.category).sum ≤ 8) (hf : k ≤ R.cells ∧ n ≤ R.slots) (hn : As.length = nn) (hst : st = As.reverse ++ .ref b :: rest) (hd : decode cc pc = .ok (.invokevirtual index, 3))
    (kk : ∀ (w' : va_W), post w' → G p l e R s m args below meth c D cl A0 k n Q w' L (pc + 3) rest) : G p l e R s m args below meth c D cl A0 k n Q w L pc st :=
  fun H locs ls hP hS hl => va_callv (va_runV (As := As) (rest := rest) S hM cw ⟨(fun a U g mk q => ⟨q.1, q.2.1, hKo.1 a U g mk q.2.2⟩), hr0 ▸ va_recv hKv hP hc he, fun U hU hW => ⟨rfl, by rw [hU]; exact hP, hKo.2 s U hW hK⟩⟩ rfl hn hl.1 hst (lv_room hroom) hd hf) hS (fun q _ h => hA q h) hA (fun u t H1 locs1 ht hvm hp hB _ _ hS1 => kk u hp H1 locs1 ls (ht ▸ hB) hS1 hl)
theorem g_callVNv {post : va_W → Prop} (S : CallFix p m c cc L.length s args Ts own) (hM : CTv l y ws rm K D cl A (.ref b :: As) w post) (cw : va_CN R s args own index y host bytes maxL ret ws rm 0 0 nn ∧ (Cond.instanceMethod y).before args s = true ∧ (Cond.selects C y y).before args s = true) {tys : List (ClassId × FieldType)} {q0 ci : Nat} {r0 : vw_C} {fs : List Value} (hKv : va_K D cl tys s) (hc : cl[ci]? = some r0) (he : w[q0]? = some (b, .inr (ci, fs))) (hr0 : r0.1 = C) (hA : ∀ q, A q → A0 q) (hKo : K_ok K) (hK : K s) (hroom : (rest.map fun v => v.category).sum ≤ 8) (hf : k ≤ R.cells ∧ n ≤ R.slots) (hn : As.length = nn) (hst : st = As.reverse ++ .ref b :: rest) (hd : decode cc pc = .ok (.invokevirtual index, 3))
    (kk : ∀ (w' : va_W), post w' → G p l e R s m args below meth c D cl A0 k n Q w' L (pc + 3) rest) : G p l e R s m args below meth c D cl A0 k n Q w L pc st :=
  fun H locs ls hP hS hl => va_callv (va_runVN (As := As) (rest := rest) S hM cw ⟨(fun a U g mk q => ⟨q.1, q.2.1, hKo.1 a U g mk q.2.2⟩), hr0 ▸ va_recv hKv hP hc he, fun U hU hW => ⟨rfl, by rw [hU]; exact hP, hKo.2 s U hW hK⟩⟩ rfl hn hl.1 hst (lv_room hroom) hd hf) hS (fun q _ h => hA q h) hA (fun u t H1 locs1 ht hvm hp hB _ _ hS1 => kk u hp H1 locs1 ls (ht ▸ hB) hS1 hl)
end GC
