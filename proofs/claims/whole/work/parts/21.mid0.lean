/-- a truth as a number -/
noncomputable def bC (P : Prop) : Nat := @ite Nat P (Classical.propDecidable P) 1 0
theorem bC_t {P : Prop} (h : P) : bC P = 1 := by unfold bC; exact if_pos h
theorem bC_f {P : Prop} (h : ¬ P) : bC P = 0 := by unfold bC; exact if_neg h
theorem bC_0 {P : Prop} : bC P = 0 ↔ ¬ P := ⟨fun h hp => by rw [bC_t hp] at h; exact absurd h (by decide), bC_f⟩
theorem bC_n0 {P : Prop} : ¬ bC P = 0 ↔ P := ⟨fun h => Classical.byContradiction (fun hp => h (bC_f hp)), fun hp h => by rw [bC_t hp] at h; exact absurd h (by decide)⟩
theorem bC_lt {P : Prop} : bC P < 2 ^ 31 := by
  by_cases h : P
  · rw [bC_t h]; decide
  · rw [bC_f h]; decide
/-- fewer known locals -/
def lsub : List (Option Value) → List (Option Value) → Prop
  | [], [] => True
  | a :: t, b :: u => (a = none ∨ a = b) ∧ lsub t u
  | _, _ => False
theorem lsub_at : ∀ (L' L : List (Option Value)), lsub L' L → L'.length = L.length ∧ ∀ (i : Nat) (v : Value), L'[i]? = some (some v) → L[i]? = some (some v)
  | [], [], _ => ⟨rfl, fun _ _ h => h⟩
  | a :: t, b :: u, h => by
    obtain ⟨h1, h2⟩ := h
    obtain ⟨i1, i2⟩ := lsub_at t u h2
    refine ⟨by simp [i1], fun i v hi => ?_⟩
    cases i with
    | zero =>
      simp at hi ⊢
      rcases h1 with z | z
      · rw [z] at hi; cases hi
      · rw [← z]; exact hi
    | succ i =>
      simp at hi ⊢
      exact i2 i v hi
  | [], _ :: _, h => by cases h
  | _ :: _, [], h => by cases h
theorem g_sub {p : Program} {l : Launch} {e : Env} {R : Room} {s : State} {m : MethodId} {args : Array Value} {below : List Frame} {meth : Method} {c : Code} {D : va_G} {cl : List vw_C} {A : Nat → Prop} {k n : Nat} {Q : State → Prop} {w : va_W} {L L' : List (Option Value)} {pc : Nat} {st : List Value} (h : lsub L' L) (kk : G p l e R s m args below meth c D cl A k n Q w L' pc st) : G p l e R s m args below meth c D cl A k n Q w L pc st :=
  fun H locs ls hP hS hl => kk H locs ls hP hS ⟨by rw [hl.1, (lsub_at L' L h).1], hl.2.1, fun i v hi => hl.2.2 i v ((lsub_at L' L h).2 i v hi)⟩
theorem an_16 : ∀ a, a < 16 → ∀ b, b < 16 → ((nI a &&& (nI b ^^^ (-1))) = 0 ↔ a &&& b = a) := by decide +kernel
theorem cput_end {X : VV} {i x j : Nat} (h : X (37 + 2 * j) 2 ≤ 75) (h2 : i < 16) (h3 : j < 16) : cput X i x (37 + 2 * j) 2 ≤ 75 := by
  unfold cput
  split
  · by_cases e : i = j
    · subst e
      rw [pt_eq rfl rfl]; omega
    · rw [pt_ne (by omega), pt_ne (by omega)]; exact h
  · exact h
theorem cpo_end {X : VV} {p set x j : Nat} (hp : p < 4) (hj : j < 16) (h : X (37 + 2 * j) 2 ≤ 75) : ∀ q, q ≤ 4 → cpo X p set x q (37 + 2 * j) 2 ≤ 75
  | 0, _ => h
  | q + 1, hq => by
    rw [cpo]
    split
    · exact cput_end (cpo_end hp hj h q (by omega)) (by omega) hj
    · exact cpo_end hp hj h q (by omega)
def bc_1 (i : Int32) : Int32 := i - ((i.toUInt32 >>> ((nI 1).toUInt32 &&& Int32.toUInt32 31)).toInt32 &&& 1431655765)
def bc_2 (i : Int32) : Int32 := (i &&& 858993459) + ((i.toUInt32 >>> ((nI 2).toUInt32 &&& Int32.toUInt32 31)).toInt32 &&& 858993459)
def bc_3 (i : Int32) : Int32 := (i + (i.toUInt32 >>> ((nI 4).toUInt32 &&& Int32.toUInt32 31)).toInt32) &&& 252645135
def bc_4 (i : Int32) : Int32 := i + (i.toUInt32 >>> ((nI 8).toUInt32 &&& Int32.toUInt32 31)).toInt32
def bc_5 (i : Int32) : Int32 := i + (i.toUInt32 >>> ((nI 16).toUInt32 &&& Int32.toUInt32 31)).toInt32
def popc (x : Nat) : Nat := x % 2 + x / 2 % 2 + x / 4 % 2 + x / 8 % 2 + x / 16 % 2
theorem bc_fin : ∀ x, x < 32 → (bc_5 (bc_4 (bc_3 (bc_2 (bc_1 (nI x)))))) &&& nI 63 = nI (popc x) := by decide +kernel
theorem CB.f {X : VV} (h : CB X) : X 0 4 ≤ 15 := h.1
theorem CB.s {X : VV} (h : CB X) : ∀ v, v < 16 → X 3 v < 16 := h.2.1
theorem CB.t {X : VV} (h : CB X) : ∀ i, i < 64 → X 4 i ≤ 15 := h.2.2.1
theorem CB.p {X : VV} (h : CB X) : ∀ p, p < 4 → X (5 + 8 * p) 0 ≤ 15 ∧ X (5 + 8 * p) 1 ≤ 15 ∧ X (5 + 8 * p) 2 < 16 ∧ X (5 + 8 * p) 3 ≤ 1 ∧ X (5 + 8 * p) 4 ≤ 1 ∧ X (5 + 8 * p) 5 ≤ 15 ∧ X (5 + 8 * p) 6 ≤ 15 ∧ X (5 + 8 * p) 7 ≤ 4 ∧ pkd (X (5 + 8 * p) 8) := h.2.2.2.1
theorem CB.kn {X : VV} (h : CB X) : ∀ p i, p < 4 → i < 64 → X (5 + 8 * p + 1) i < 32 := h.2.2.2.2.1
theorem CB.kc {X : VV} (h : CB X) : ∀ p i, p < 4 → i < 4 → X (5 + 8 * p + 2) i < 65536 := h.2.2.2.2.2.1
theorem CB.vc {X : VV} (h : CB X) : ∀ p i, p < 4 → i < 64 → pkd (X (5 + 8 * p + 4) i) := h.2.2.2.2.2.2.1
theorem CB.cv {X : VV} (h : CB X) : ∀ p i, p < 4 → i < 16 → X (5 + 8 * p + 5) i ≤ 15 := h.2.2.2.2.2.2.2.1
theorem CB.cu {X : VV} (h : CB X) : ∀ p i, p < 4 → i < 16 → pkd (X (5 + 8 * p + 6) i) := h.2.2.2.2.2.2.2.2.1
theorem CB.ln {X : VV} (h : CB X) : ∀ i, i < 16 → X (37 + 2 * i) 1 ≤ X (37 + 2 * i) 2 ∧ X (37 + 2 * i) 2 ≤ 75 ∧ ∀ k, X (37 + 2 * i) 1 ≤ k → k < X (37 + 2 * i) 2 → X (37 + 2 * i + 1) k < 80 := h.2.2.2.2.2.2.2.2.2
theorem cps_lt {X : VV} (h : CB X) {p : Nat} (hp : p < 4) : cps X p < 16 := by
  unfold cps
  split
  · show 2 ^ p < 2 ^ 4
    exact Nat.pow_lt_pow_right (by decide) hp
  · exact h.s _ (by have := (h.p p hp).1; omega)
theorem cli_pkd {X : VV} (h : CB X) {v cs : Nat} (hv : v < 16) : ∀ q, q ≤ 4 → pkd (cli X v cs q)
  | 0, _ => pkd_0
  | q + 1, hq => by
    rw [cli]
    split
    · exact pkd_mx (cli_pkd h hv q (by omega)) (h.cu q _ (by omega) (by have := h.t (v * 4 + q) (by omega); omega))
    · exact cli_pkd h hv q (by omega)
