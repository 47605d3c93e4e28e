/-- a truth as a number -/
def bN (P : Prop) [Decidable P] : Nat := if P then 1 else 0
theorem bN_t {P : Prop} [Decidable P] (h : P) : bN P = 1 := if_pos h
theorem bN_f {P : Prop} [Decidable P] (h : ¬ P) : bN P = 0 := if_neg h
theorem bN_0 {P : Prop} [Decidable P] : bN P = 0 ↔ ¬ P := by unfold bN; split <;> simp [*]
theorem bN_n0 {P : Prop} [Decidable P] : ¬ bN P = 0 ↔ P := by unfold bN; split <;> simp [*]
theorem bN_1 {P : Prop} [Decidable P] : bN P = 1 ↔ P := by unfold bN; split <;> simp [*]
theorem bN_lt {P : Prop} [Decidable P] : bN P < 2 ^ 31 := by unfold bN; split <;> decide
-- counts: four numbers of eight bits
def pk4 (d : Nat → Nat) : Nat := d 0 + 256 * d 1 + 65536 * d 2 + 16777216 * d 3
def cnt (x r : Nat) : Nat := x / 2 ^ (r * 8) % 256
def pkd (x : Nat) : Prop := x = pk4 (cnt x) ∧ ∀ r, r < 4 → cnt x r ≤ 4
theorem c4 {P : Nat → Prop} (h0 : P 0) (h1 : P 1) (h2 : P 2) (h3 : P 3) : ∀ r, r < 4 → P r
  | 0, _ => h0
  | 1, _ => h1
  | 2, _ => h2
  | 3, _ => h3
theorem cnt_pk {d : Nat → Nat} (h : ∀ r, r < 4 → d r ≤ 255) : ∀ r, r < 4 → cnt (pk4 d) r = d r := by
  have h0 := h 0 (by decide)
  have h1 := h 1 (by decide)
  have h2 := h 2 (by decide)
  have h3 := h 3 (by decide)
  refine c4 ?_ ?_ ?_ ?_ <;> (simp only [cnt, pk4]; simp only [Nat.reduceMul, Nat.reducePow]; omega)
theorem pk_congr {d f : Nat → Nat} (h : ∀ r, r < 4 → d r = f r) : pk4 d = pk4 f := by
  unfold pk4
  rw [h 0 (by decide), h 1 (by decide), h 2 (by decide), h 3 (by decide)]
theorem pkd_pk {d : Nat → Nat} (h : ∀ r, r < 4 → d r ≤ 4) : pkd (pk4 d) := by
  have hc := cnt_pk (d := d) (fun r hr => Nat.le_trans (h r hr) (by decide))
  exact ⟨pk_congr (fun r hr => (hc r hr).symm), fun r hr => by rw [hc r hr]; exact h r hr⟩
theorem pkd_lt {x : Nat} (h : pkd x) : x < 2 ^ 27 := by
  have h0 := h.2 0 (by decide)
  have h1 := h.2 1 (by decide)
  have h2 := h.2 2 (by decide)
  have h3 := h.2 3 (by decide)
  rw [h.1]
  unfold pk4
  omega
theorem pkd_ext {x y : Nat} (hx : pkd x) (hy : pkd y) (h : ∀ r, r < 4 → cnt x r = cnt y r) : x = y := by
  rw [hx.1, hy.1]
  exact pk_congr h
theorem pkd_0 : pkd 0 := ⟨by decide, c4 (by decide) (by decide) (by decide) (by decide)⟩
def wc (x p y : Nat) : Nat := pk4 (fun r => if r = p then y else cnt x r)
theorem pkd_wc {x p y : Nat} (hx : pkd x) (hy : y ≤ 4) : pkd (wc x p y) := pkd_pk (fun r hr => by
  by_cases h : r = p
  · rw [if_pos h]; exact hy
  · rw [if_neg h]; exact hx.2 r hr)
theorem cnt_wc {x p y : Nat} (hx : pkd x) (hy : y ≤ 4) {r : Nat} (hr : r < 4) : cnt (wc x p y) r = if r = p then y else cnt x r := cnt_pk (d := fun r => if r = p then y else cnt x r) (fun r hr => by
  show (if r = p then y else cnt x r) ≤ 255
  by_cases h : r = p
  · rw [if_pos h]; omega
  · rw [if_neg h]; have := hx.2 r hr; omega) r hr
set_option maxRecDepth 100000 in
theorem wc_fin : ∀ a, a < 5 → ∀ b, b < 5 → ∀ d, d < 5 → ∀ f, f < 5 → ∀ p, p < 4 → ∀ y, y < 5 → ((nI (a + 256 * b + 65536 * d + 16777216 * f) &&& ((nI 255 <<< (nI (p * 8) &&& 31)) ^^^ (-1))) ||| (nI y <<< (nI (p * 8) &&& 31))) = nI ((if 0 = p then y else a) + 256 * (if 1 = p then y else b) + 65536 * (if 2 = p then y else d) + 16777216 * (if 3 = p then y else f)) := by decide +kernel
theorem wc_int {x p y : Nat} (hx : pkd x) (hp : p < 4) (hy : y ≤ 4) : ((nI x &&& ((nI 255 <<< (nI (p * 8) &&& 31)) ^^^ (-1))) ||| (nI y <<< (nI (p * 8) &&& 31))) = nI (wc x p y) := by
  have h0 := hx.2 0 (by decide)
  have h1 := hx.2 1 (by decide)
  have h2 := hx.2 2 (by decide)
  have h3 := hx.2 3 (by decide)
  have h := wc_fin (cnt x 0) (by omega) (cnt x 1) (by omega) (cnt x 2) (by omega) (cnt x 3) (by omega) p hp y (by omega)
  have e : cnt x 0 + 256 * cnt x 1 + 65536 * cnt x 2 + 16777216 * cnt x 3 = x := hx.1.symm
  rw [e] at h
  exact h
/-- the bits of a set -/
def sub16 (a b : Nat) : Prop := a &&& b = a
