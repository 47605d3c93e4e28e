-- what binds the class's cells (X) to the reference's (Y)
def RS (X Y : VV) : Prop := ∀ p, p < 4 → X (5 + 8 * p) 0 = Y 70 p ∧ X (5 + 8 * p) 1 = Y 71 p ∧ X (5 + 8 * p) 2 = Y 72 p ∧ X (5 + 8 * p) 3 = Y 73 p ∧ X (5 + 8 * p) 4 = Y 74 p ∧ X (5 + 8 * p) 5 = Y 75 p ∧ X (5 + 8 * p) 6 = Y 76 p ∧ X (5 + 8 * p) 7 = Y 77 p ∧ pkd (X (5 + 8 * p) 8) ∧ ∀ r, r < 4 → cnt (X (5 + 8 * p) 8) r = Y 78 (4 * p + r)
def RG (X Y : VV) : Prop := X 0 4 = Y 69 10 ∧ (∀ v, v < 16 → X 3 v = Y 80 v) ∧ ∀ v p, v < 16 → p < 4 → X 4 (v * 4 + p) = Y 81 (4 * v + p)
def RK (X Y : VV) : Prop := ∀ p v r, p < 4 → v < 16 → r < 4 → X (5 + 8 * p + 1) (v * 4 + r) < 32 ∧ X (5 + 8 * p + 1) (v * 4 + r) % 2 = 0 ∧ ∀ n, n < 4 → X (5 + 8 * p + 1) (v * 4 + r) / 2 ^ (n + 1) % 2 = Y 84 (256 * p + 16 * v + 4 * r + n)
def RH (X Y : VV) : Prop := ∀ p r, p < 4 → r < 4 → X (5 + 8 * p + 2) r < 65536 ∧ ∀ c, c < 16 → X (5 + 8 * p + 2) r / 2 ^ c % 2 = Y 87 (64 * p + 16 * r + c)
def RM (X Y : VV) : Prop := ∀ p v n, p < 4 → v < 16 → n < 4 → X (5 + 8 * p + 3) (v * 4 + n) = Y 82 (16 * v + 4 * p + n) ∧ pkd (X (5 + 8 * p + 4) (v * 4 + n)) ∧ ∀ r, r < 4 → cnt (X (5 + 8 * p + 4) (v * 4 + n)) r = Y 83 (4 * (16 * v + 4 * p + n) + r)
def RC (X Y : VV) : Prop := ∀ p c, p < 4 → c < 16 → X (5 + 8 * p + 5) c = Y 85 (16 * p + c) ∧ pkd (X (5 + 8 * p + 6) c) ∧ ∀ r, r < 4 → cnt (X (5 + 8 * p + 6) c) r = Y 86 (4 * (16 * p + c) + r)
def RE (X Y : VV) : Prop := ∀ p i, p < 4 → i < 4 → X (5 + 8 * p + 7) i = Y 79 (4 * p + i)
/-- a packet's number in the class, in the reference -/
def tr (p w : Nat) : Nat := if w < 64 then 16 * (w / 4) + 4 * p + w % 4 else 256 + (16 * p + (w - 64))
def cap (Y : VV) (p : Nat) : Nat := (if Y 70 p = 0 then 0 else 4 * (Y 70 p - 1) + Y 77 p) + Y 71 p
def RL (X Y : VV) : Prop := ∀ p q, p < 4 → q < 4 → X (37 + 2 * (p * 4 + q)) 1 ≤ X (37 + 2 * (p * 4 + q)) 2 ∧ X (37 + 2 * (p * 4 + q)) 2 ≤ cap Y p ∧ Y 89 (4 * p + q) = X (37 + 2 * (p * 4 + q)) 2 - X (37 + 2 * (p * 4 + q)) 1 ∧ ∀ k, X (37 + 2 * (p * 4 + q)) 1 ≤ k → k < X (37 + 2 * (p * 4 + q)) 2 → X (37 + 2 * (p * 4 + q) + 1) k < 80 ∧ tr p (X (37 + 2 * (p * 4 + q) + 1) k) = Y 88 (80 * (4 * p + q) + (k - X (37 + 2 * (p * 4 + q)) 1))
def BD (Y : VV) : Prop := (∀ p, p < 4 → Y 70 p ≤ Y 69 10 ∧ Y 71 p ≤ 15 ∧ Y 72 p < 16 ∧ Y 73 p ≤ 1 ∧ Y 74 p ≤ 1 ∧ Y 75 p ≤ Y 69 10 ∧ Y 76 p ≤ 15 ∧ Y 77 p ≤ 4 ∧ Y 70 p ≤ Y 76 p ∧ (Y 75 p = 0 ∨ (Y 70 p < Y 75 p ∧ Y 75 p ≤ Y 76 p))) ∧ Y 69 10 ≤ 15 ∧ (∀ i, Y 78 i ≤ 4) ∧ (∀ i, Y 80 i < 16) ∧ (∀ i, Y 81 i ≤ 15) ∧ (∀ i, Y 83 i ≤ 4) ∧ (∀ i, Y 84 i ≤ 1) ∧ (∀ i, Y 85 i ≤ 15) ∧ (∀ i, Y 86 i ≤ 4) ∧ (∀ i, Y 87 i ≤ 1) ∧ ∀ v p n, v < 16 → p < 4 → n < 4 → Y 83 (4 * (16 * v + 4 * p + n) + p) = 0
def Rel (X Y : VV) : Prop := RS X Y ∧ RG X Y ∧ RK X Y ∧ RH X Y ∧ RM X Y ∧ RC X Y ∧ RE X Y ∧ RL X Y ∧ BD Y
theorem Rel.congr {X X' Y Y' : VV} (h : Rel X Y) (hX : ∀ c k, c < 69 → X' c k = X c k) (hY : ∀ c k, 69 ≤ c → Y' c k = Y c k) : Rel X' Y' := by
  obtain ⟨h1, h2, h3, h4, h5, h6, h7, h8, h9⟩ := h
  refine ⟨?_, ?_, ?_, ?_, ?_, ?_, ?_, ?_, ?_⟩
  · intro p hp
    simp (disch := omega) only [hX, hY]
    exact h1 p hp
  · refine ⟨?_, ?_, ?_⟩
    · simp (disch := omega) only [hX, hY]
      exact h2.1
    · intro v hv
      simp (disch := omega) only [hX, hY]
      exact h2.2.1 v hv
    · intro v p hv hp
      simp (disch := omega) only [hX, hY]
      exact h2.2.2 v p hv hp
  · intro p v r hp hv hr
    simp (disch := omega) only [hX, hY]
    exact h3 p v r hp hv hr
  · intro p r hp hr
    simp (disch := omega) only [hX, hY]
    exact h4 p r hp hr
  · intro p v n hp hv hn
    simp (disch := omega) only [hX, hY]
    exact h5 p v n hp hv hn
  · intro p c hp hc
    simp (disch := omega) only [hX, hY]
    exact h6 p c hp hc
  · intro p i hp hi
    simp (disch := omega) only [hX, hY]
    exact h7 p i hp hi
  · intro p q hp hq
    simp (disch := omega) only [cap, hX, hY]
    exact h8 p q hp hq
  · unfold BD
    simp (disch := omega) only [hY]
    exact h9
-- what the class's walk needs of bounds
def CB (X : VV) : Prop := X 0 4 ≤ 15 ∧ (∀ v, v < 16 → X 3 v < 16) ∧ (∀ i, i < 64 → X 4 i ≤ 15) ∧ (∀ p, p < 4 → X (5 + 8 * p) 0 ≤ 15 ∧ X (5 + 8 * p) 1 ≤ 15 ∧ X (5 + 8 * p) 2 < 16 ∧ X (5 + 8 * p) 3 ≤ 1 ∧ X (5 + 8 * p) 4 ≤ 1 ∧ X (5 + 8 * p) 5 ≤ 15 ∧ X (5 + 8 * p) 6 ≤ 15 ∧ X (5 + 8 * p) 7 ≤ 4 ∧ pkd (X (5 + 8 * p) 8)) ∧ (∀ p i, p < 4 → i < 64 → X (5 + 8 * p + 1) i < 32) ∧ (∀ p i, p < 4 → i < 4 → X (5 + 8 * p + 2) i < 65536) ∧ (∀ p i, p < 4 → i < 64 → pkd (X (5 + 8 * p + 4) i)) ∧ (∀ p i, p < 4 → i < 16 → X (5 + 8 * p + 5) i ≤ 15) ∧ (∀ p i, p < 4 → i < 16 → pkd (X (5 + 8 * p + 6) i)) ∧ (∀ i, i < 16 → X (37 + 2 * i) 1 ≤ X (37 + 2 * i) 2 ∧ X (37 + 2 * i) 2 ≤ 75 ∧ ∀ k, X (37 + 2 * i) 1 ≤ k → k < X (37 + 2 * i) 2 → X (37 + 2 * i + 1) k < 80)
theorem cap_le {Y : VV} (h : BD Y) {p : Nat} (hp : p < 4) : cap Y p ≤ 75 := by
  have h1 := h.1 p hp
  have h2 := h.2.1
  unfold cap
  split <;> omega
theorem Rel.cb {X Y : VV} (h : Rel X Y) : CB X := by
  obtain ⟨h1, h2, h3, h4, h5, h6, h7, h8, h9⟩ := h
  refine ⟨?_, ?_, ?_, ?_, ?_, ?_, ?_, ?_, ?_, ?_⟩
  · rw [h2.1]; exact h9.2.1
  · intro v hv
    rw [h2.2.1 v hv]
    exact h9.2.2.2.1 v
  · intro i hi
    have := h2.2.2 (i / 4) (i % 4) (by omega) (by omega)
    rw [show i / 4 * 4 + i % 4 = i by omega] at this
    rw [this]
    exact h9.2.2.2.2.1 _
  · intro p hp
    obtain ⟨a0, a1, a2, a3, a4, a5, a6, a7, a8, -⟩ := h1 p hp
    obtain ⟨b0, b1, b2, b3, b4, b5, b6, b7, -⟩ := h9.1 p hp
    have := h9.2.1
    refine ⟨by omega, by omega, by omega, by omega, by omega, by omega, by omega, by omega, a8⟩
  · intro p i hp hi
    have := (h3 p (i / 4) (i % 4) hp (by omega) (by omega)).1
    rw [show i / 4 * 4 + i % 4 = i by omega] at this
    exact this
  · intro p i hp hi
    exact (h4 p i hp hi).1
  · intro p i hp hi
    have := (h5 p (i / 4) (i % 4) hp (by omega) (by omega)).2.1
    rw [show i / 4 * 4 + i % 4 = i by omega] at this
    exact this
  · intro p i hp hi
    rw [(h6 p i hp hi).1]
    exact h9.2.2.2.2.2.2.2.1 _
  · intro p i hp hi
    exact (h6 p i hp hi).2.1
  · intro i hi
    obtain ⟨a1, a2, a3, a4⟩ := h8 (i / 4) (i % 4) (by omega) (by omega)
    have hc := cap_le h9 (p := i / 4) (by omega)
    rw [show i / 4 * 4 + i % 4 = i by omega] at a1 a2 a4
    exact ⟨a1, by omega, fun k k1 k2 => (a4 k k1 k2).1⟩
