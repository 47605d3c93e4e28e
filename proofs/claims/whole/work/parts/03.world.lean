/-- the state: cell, place -> number (an int by its 32 bits) -/
abbrev VV : Type := Nat → Nat → Nat
def pt (V : VV) (c k n : Nat) : VV := fun c' k' => if c' = c ∧ k' = k then n else V c' k'
theorem pt_eq {V : VV} {c k n c' k' : Nat} (h : c' = c) (h2 : k' = k) : pt V c k n c' k' = n := by simp [pt, h, h2]
theorem pt_ne {V : VV} {c k n c' k' : Nat} (h : c' ≠ c) : pt V c k n c' k' = V c' k' := by simp [pt, h]
theorem pt_nk {V : VV} {c k n c' k' : Nat} (h : k' ≠ k) : pt V c k n c' k' = V c' k' := by simp [pt, h]
theorem pt_row {V : VV} {c k n : Nat} : pt V c k n c = fun j => if j = k then n else V c j := by funext j; simp [pt]
theorem pt_rne {V : VV} {c k n c' : Nat} (h : c' ≠ c) : pt V c k n c' = V c' := by funext j; simp [pt, h]
/-- the length of a process's array: knownNumbers, knownChanges, payloads, vectors, cutViews, cuts, event -/
def plen (k : Nat) : Nat := match k with
  | 1 => 64
  | 2 => 4
  | 3 => 64
  | 4 => 64
  | 5 => 16
  | 6 => 16
  | _ => 4
/-- the reference's arrays, in the order of its fields -/
def mlen (c : Nat) : Nat := match c with
  | 78 => 16
  | 79 => 16
  | 80 => 16
  | 81 => 64
  | 82 => 256
  | 83 => 1024
  | 84 => 1024
  | 85 => 64
  | 86 => 256
  | 87 => 256
  | 88 => 1280
  | 89 => 16
  | _ => 4
/-- which array class: 1 boolean, 0 int -/
def mty (c : Nat) : Nat := match c with
  | 73 => 1
  | 74 => 1
  | 84 => 1
  | 87 => 1
  | _ => 0
/-- what a cell is: cell 0 the GroupViews, 1 its processes, 2 its lines, 3 sets, 4 starts; 5 + 8 p a process and its seven arrays; 37 + 2 i a line and its packets; 69 the reference, 70 .. 90 its arrays -/
def kd (ad : Nat → Nat) (ct : Nat → ClassId) (c : Nat) (g : Nat → Nat) : va_E :=
  if c = 0 then .inr (0, [.ref (ad 1), .ref (ad 2), .ref (ad 3), .ref (ad 4), .int (nI (g 4))])
  else if c = 1 then .inl (ct 2, 4, .inr (.inr (.inr (.inr (fun i => if i < 4 then some (ad (5 + 8 * i)) else none)))))
  else if c = 2 then .inl (ct 3, 16, .inr (.inr (.inr (.inr (fun i => if i < 16 then some (ad (37 + 2 * i)) else none)))))
  else if c = 3 then .inl (ct 0, 16, .inl (fun i => nI (g i)))
  else if c = 4 then .inl (ct 0, 64, .inl (fun i => nI (g i)))
  else if c < 37 then (if (c - 5) % 8 = 0 then .inr (1, [.int (nI (g 0)), .int (nI (g 1)), .int (nI (g 2)), .int (nI (g 3)), .int (nI (g 4)), .int (nI (g 5)), .int (nI (g 6)), .int (nI (g 7)), .int (nI (g 8)), .ref (ad (c + 1)), .ref (ad (c + 2)), .ref (ad (c + 3)), .ref (ad (c + 4)), .ref (ad (c + 5)), .ref (ad (c + 6)), .ref (ad (c + 7))])
    else .inl (ct 0, plen ((c - 5) % 8), .inl (fun i => nI (g i))))
  else if c < 69 then (if (c - 37) % 2 = 0 then .inr (2, [.ref (ad (c + 1)), .int (nI (g 1)), .int (nI (g 2))]) else .inl (ct 0, 75, .inl (fun i => nI (g i))))
  else if c = 69 then .inr (3, [.ref (ad 70), .ref (ad 71), .ref (ad 72), .ref (ad 73), .ref (ad 74), .ref (ad 75), .ref (ad 76), .ref (ad 77), .ref (ad 78), .ref (ad 79), .int (nI (g 10)), .ref (ad 80), .ref (ad 81), .ref (ad 82), .ref (ad 83), .ref (ad 84), .ref (ad 85), .ref (ad 86), .ref (ad 87), .ref (ad 88), .ref (ad 89), .ref (ad 90), .int (nI (g 22))])
  else .inl (ct (mty c), mlen c, .inl (fun i => nI (g i)))
def gw (ad : Nat → Nat) (ct : Nat → ClassId) (V : VV) : va_W := (List.range 91).map (fun c => (ad c, kd ad ct c (V c)))
section GW
variable {ad : Nat → Nat} {ct : Nat → ClassId} {V : VV}
theorem gw_len : (gw ad ct V).length = 91 := by simp [gw]
theorem gw_at {c : Nat} (h : c < 91) : (gw ad ct V)[c]? = some (ad c, kd ad ct c (V c)) := by simp [gw, h]
theorem gw_put {c k n : Nat} {x : va_E} (h : c < 91) (hx : kd ad ct c (fun j => if j = k then n else V c j) = x) : (gw ad ct V).set c (ad c, x) = gw ad ct (pt V c k n) := by
  apply List.ext_getElem?
  intro i
  by_cases hi : i < 91
  · rw [gw_at hi]
    by_cases hc : c = i
    · subst hc
      rw [List.getElem?_set_self (by rw [gw_len]; exact h), pt_row, hx]
    · rw [List.getElem?_set_ne hc, gw_at hi, pt_rne (fun q => hc q.symm)]
  · rw [List.getElem?_eq_none (by rw [List.length_set, gw_len]; omega), List.getElem?_eq_none (by rw [gw_len]; omega)]
/-- the addresses are apart -/
def adOk (ad : Nat → Nat) : Prop := ∀ i j, i < 91 → j < 91 → ad i = ad j → i = j
/-- the cells' addresses -/
def gA (ad : Nat → Nat) : Nat → Prop := fun q => ∃ c, c < 91 ∧ q = ad c
theorem gw_D (h : adOk ad) : va_D (gA ad) (gw ad ct V) := by
  have key : ∀ (i : Nat) (q : Nat × va_E), (gw ad ct V)[i]? = some q → i < 91 ∧ q.1 = ad i := by
    intro i q hq
    have hi : i < 91 := by have := (List.getElem?_eq_some_iff.mp hq).1; rw [gw_len] at this; exact this
    rw [gw_at hi] at hq
    cases hq
    exact ⟨hi, rfl⟩
  refine ⟨fun i j x y hi hj hxy => ?_, fun i q hq => ?_⟩
  · obtain ⟨a1, a2⟩ := key i x hi
    obtain ⟨b1, b2⟩ := key j y hj
    exact h i j a1 b1 (by rw [← a2, ← b2]; exact hxy)
  · obtain ⟨a1, a2⟩ := key i q hq
    exact ⟨i, a1, a2⟩
theorem gw_P {D : va_G} {cl : List vw_C} {H : Heap} : va_P D cl (gw ad ct V) H ↔ ∀ c, c < 91 → va_at D cl (ad c, kd ad ct c (V c)) H := by
  constructor
  · intro h c hc
    exact h c _ (gw_at hc)
  · intro h i q hq
    have hi : i < 91 := by have := (List.getElem?_eq_some_iff.mp hq).1; rw [gw_len] at this; exact this
    rw [gw_at hi] at hq
    cases hq
    exact h i hi
-- reading a cell
theorem w_0 : (gw ad ct V)[0]? = some (ad 0, .inr (0, [.ref (ad 1), .ref (ad 2), .ref (ad 3), .ref (ad 4), .int (nI (V 0 4))])) := gw_at (by decide)
theorem w_1 : (gw ad ct V)[1]? = some (ad 1, .inl (ct 2, 4, .inr (.inr (.inr (.inr (fun i => if i < 4 then some (ad (5 + 8 * i)) else none)))))) := gw_at (by decide)
theorem w_2 : (gw ad ct V)[2]? = some (ad 2, .inl (ct 3, 16, .inr (.inr (.inr (.inr (fun i => if i < 16 then some (ad (37 + 2 * i)) else none)))))) := gw_at (by decide)
theorem w_3 : (gw ad ct V)[3]? = some (ad 3, .inl (ct 0, 16, .inl (fun i => nI (V 3 i)))) := gw_at (by decide)
theorem w_4 : (gw ad ct V)[4]? = some (ad 4, .inl (ct 0, 64, .inl (fun i => nI (V 4 i)))) := gw_at (by decide)
theorem kd_P {p : Nat} (hp : p < 4) (g : Nat → Nat) : kd ad ct (5 + 8 * p) g = .inr (1, [.int (nI (g 0)), .int (nI (g 1)), .int (nI (g 2)), .int (nI (g 3)), .int (nI (g 4)), .int (nI (g 5)), .int (nI (g 6)), .int (nI (g 7)), .int (nI (g 8)), .ref (ad (5 + 8 * p + 1)), .ref (ad (5 + 8 * p + 2)), .ref (ad (5 + 8 * p + 3)), .ref (ad (5 + 8 * p + 4)), .ref (ad (5 + 8 * p + 5)), .ref (ad (5 + 8 * p + 6)), .ref (ad (5 + 8 * p + 7))]) := by
  match p, hp with
  | 0, _ => rfl
  | 1, _ => rfl
  | 2, _ => rfl
  | 3, _ => rfl
theorem kd_Pa {p : Nat} (hp : p < 4) {k : Nat} (h0 : 0 < k) (hk : k < 8) (g : Nat → Nat) : kd ad ct (5 + 8 * p + k) g = .inl (ct 0, plen k, .inl (fun i => nI (g i))) := by
  unfold kd
  rw [if_neg (by omega), if_neg (by omega), if_neg (by omega), if_neg (by omega), if_neg (by omega), if_pos (by omega), if_neg (by omega), show (5 + 8 * p + k - 5) % 8 = k by omega]
theorem kd_L {i : Nat} (hi : i < 16) (g : Nat → Nat) : kd ad ct (37 + 2 * i) g = .inr (2, [.ref (ad (37 + 2 * i + 1)), .int (nI (g 1)), .int (nI (g 2))]) := by
  unfold kd
  rw [if_neg (by omega), if_neg (by omega), if_neg (by omega), if_neg (by omega), if_neg (by omega), if_neg (by omega), if_pos (by omega), if_pos (by omega)]
theorem kd_La {i : Nat} (hi : i < 16) (g : Nat → Nat) : kd ad ct (37 + 2 * i + 1) g = .inl (ct 0, 75, .inl (fun i => nI (g i))) := by
  unfold kd
  rw [if_neg (by omega), if_neg (by omega), if_neg (by omega), if_neg (by omega), if_neg (by omega), if_neg (by omega), if_pos (by omega), if_neg (by omega)]
theorem w_P {p : Nat} (hp : p < 4) : (gw ad ct V)[5 + 8 * p]? = some (ad (5 + 8 * p), .inr (1, [.int (nI (V (5 + 8 * p) 0)), .int (nI (V (5 + 8 * p) 1)), .int (nI (V (5 + 8 * p) 2)), .int (nI (V (5 + 8 * p) 3)), .int (nI (V (5 + 8 * p) 4)), .int (nI (V (5 + 8 * p) 5)), .int (nI (V (5 + 8 * p) 6)), .int (nI (V (5 + 8 * p) 7)), .int (nI (V (5 + 8 * p) 8)), .ref (ad (5 + 8 * p + 1)), .ref (ad (5 + 8 * p + 2)), .ref (ad (5 + 8 * p + 3)), .ref (ad (5 + 8 * p + 4)), .ref (ad (5 + 8 * p + 5)), .ref (ad (5 + 8 * p + 6)), .ref (ad (5 + 8 * p + 7))])) := by
  rw [gw_at (by omega), kd_P hp]
theorem w_Pa {p : Nat} (hp : p < 4) {k : Nat} (h0 : 0 < k) (hk : k < 8) : (gw ad ct V)[5 + 8 * p + k]? = some (ad (5 + 8 * p + k), .inl (ct 0, plen k, .inl (fun i => nI (V (5 + 8 * p + k) i)))) := by
  rw [gw_at (by omega), kd_Pa hp h0 hk]
theorem w_L {i : Nat} (hi : i < 16) : (gw ad ct V)[37 + 2 * i]? = some (ad (37 + 2 * i), .inr (2, [.ref (ad (37 + 2 * i + 1)), .int (nI (V (37 + 2 * i) 1)), .int (nI (V (37 + 2 * i) 2))])) := by
  rw [gw_at (by omega), kd_L hi]
theorem w_La {i : Nat} (hi : i < 16) : (gw ad ct V)[37 + 2 * i + 1]? = some (ad (37 + 2 * i + 1), .inl (ct 0, 75, .inl (fun j => nI (V (37 + 2 * i + 1) j)))) := by
  rw [gw_at (by omega), kd_La hi]
theorem w_M : (gw ad ct V)[69]? = some (ad 69, .inr (3, [.ref (ad 70), .ref (ad 71), .ref (ad 72), .ref (ad 73), .ref (ad 74), .ref (ad 75), .ref (ad 76), .ref (ad 77), .ref (ad 78), .ref (ad 79), .int (nI (V 69 10)), .ref (ad 80), .ref (ad 81), .ref (ad 82), .ref (ad 83), .ref (ad 84), .ref (ad 85), .ref (ad 86), .ref (ad 87), .ref (ad 88), .ref (ad 89), .ref (ad 90), .int (nI (V 69 22))])) := gw_at (by decide)
theorem kd_Ma {c : Nat} (h0 : 70 ≤ c) (g : Nat → Nat) : kd ad ct c g = .inl (ct (mty c), mlen c, .inl (fun i => nI (g i))) := by
  unfold kd
  rw [if_neg (by omega), if_neg (by omega), if_neg (by omega), if_neg (by omega), if_neg (by omega), if_neg (by omega), if_neg (by omega), if_neg (by omega)]
theorem w_Ma {c : Nat} (h0 : 70 ≤ c) (h1 : c < 91) : (gw ad ct V)[c]? = some (ad c, .inl (ct (mty c), mlen c, .inl (fun i => nI (V c i)))) := by
  rw [gw_at h1, kd_Ma h0]
-- writing a cell
theorem upd_nI (f : Nat → Nat) (j n : Nat) : upd (fun i => nI (f i)) j (nI n) = fun i => nI (if i = j then n else f i) := by
  funext i
  by_cases h : i = j <;> simp [upd, h]
theorem s_0 (n : Nat) : (gw ad ct V).set 0 (ad 0, .inr (0, ([.ref (ad 1), .ref (ad 2), .ref (ad 3), .ref (ad 4), .int (nI (V 0 4))] : List Value).set 4 (.int (nI n)))) = gw ad ct (pt V 0 4 n) := gw_put (by decide) rfl
theorem s_3 (j n : Nat) : (gw ad ct V).set 3 (ad 3, .inl (ct 0, 16, .inl (upd (fun i => nI (V 3 i)) j (nI n)))) = gw ad ct (pt V 3 j n) := gw_put (by decide) (by rw [upd_nI]; rfl)
theorem s_4 (j n : Nat) : (gw ad ct V).set 4 (ad 4, .inl (ct 0, 64, .inl (upd (fun i => nI (V 4 i)) j (nI n)))) = gw ad ct (pt V 4 j n) := gw_put (by decide) (by rw [upd_nI]; rfl)
theorem s_Pa {p : Nat} (hp : p < 4) {k : Nat} (h0 : 0 < k) (hk : k < 8) (j n : Nat) : (gw ad ct V).set (5 + 8 * p + k) (ad (5 + 8 * p + k), .inl (ct 0, plen k, .inl (upd (fun i => nI (V (5 + 8 * p + k) i)) j (nI n)))) = gw ad ct (pt V (5 + 8 * p + k) j n) := gw_put (by omega) (by rw [upd_nI, kd_Pa hp h0 hk])
theorem s_La {i : Nat} (hi : i < 16) (j n : Nat) : (gw ad ct V).set (37 + 2 * i + 1) (ad (37 + 2 * i + 1), .inl (ct 0, 75, .inl (upd (fun j => nI (V (37 + 2 * i + 1) j)) j (nI n)))) = gw ad ct (pt V (37 + 2 * i + 1) j n) := gw_put (by omega) (by rw [upd_nI, kd_La hi])
theorem s_Ma {c : Nat} (h0 : 70 ≤ c) (h1 : c < 91) (j n : Nat) : (gw ad ct V).set c (ad c, .inl (ct (mty c), mlen c, .inl (upd (fun i => nI (V c i)) j (nI n)))) = gw ad ct (pt V c j n) := gw_put h1 (by rw [upd_nI, kd_Ma h0])
theorem s_P {p : Nat} (hp : p < 4) (k n : Nat) (hk : k < 9) : (gw ad ct V).set (5 + 8 * p) (ad (5 + 8 * p), .inr (1, ([.int (nI (V (5 + 8 * p) 0)), .int (nI (V (5 + 8 * p) 1)), .int (nI (V (5 + 8 * p) 2)), .int (nI (V (5 + 8 * p) 3)), .int (nI (V (5 + 8 * p) 4)), .int (nI (V (5 + 8 * p) 5)), .int (nI (V (5 + 8 * p) 6)), .int (nI (V (5 + 8 * p) 7)), .int (nI (V (5 + 8 * p) 8)), .ref (ad (5 + 8 * p + 1)), .ref (ad (5 + 8 * p + 2)), .ref (ad (5 + 8 * p + 3)), .ref (ad (5 + 8 * p + 4)), .ref (ad (5 + 8 * p + 5)), .ref (ad (5 + 8 * p + 6)), .ref (ad (5 + 8 * p + 7))] : List Value).set k (.int (nI n)))) = gw ad ct (pt V (5 + 8 * p) k n) := by
  refine gw_put (by omega) ?_
  rw [kd_P hp]
  match k, hk with
  | 0, _ => rfl
  | 1, _ => rfl
  | 2, _ => rfl
  | 3, _ => rfl
  | 4, _ => rfl
  | 5, _ => rfl
  | 6, _ => rfl
  | 7, _ => rfl
  | 8, _ => rfl
theorem s_L {i : Nat} (hi : i < 16) (k n : Nat) (h0 : 0 < k) (hk : k < 3) : (gw ad ct V).set (37 + 2 * i) (ad (37 + 2 * i), .inr (2, ([.ref (ad (37 + 2 * i + 1)), .int (nI (V (37 + 2 * i) 1)), .int (nI (V (37 + 2 * i) 2))] : List Value).set k (.int (nI n)))) = gw ad ct (pt V (37 + 2 * i) k n) := by
  refine gw_put (by omega) ?_
  rw [kd_L hi]
  match k, h0, hk with
  | 1, _, _ => rfl
  | 2, _, _ => rfl
theorem s_M10 (n : Nat) : (gw ad ct V).set 69 (ad 69, .inr (3, ([.ref (ad 70), .ref (ad 71), .ref (ad 72), .ref (ad 73), .ref (ad 74), .ref (ad 75), .ref (ad 76), .ref (ad 77), .ref (ad 78), .ref (ad 79), .int (nI (V 69 10)), .ref (ad 80), .ref (ad 81), .ref (ad 82), .ref (ad 83), .ref (ad 84), .ref (ad 85), .ref (ad 86), .ref (ad 87), .ref (ad 88), .ref (ad 89), .ref (ad 90), .int (nI (V 69 22))] : List Value).set 10 (.int (nI n)))) = gw ad ct (pt V 69 10 n) := gw_put (by decide) rfl
theorem s_M22 (n : Nat) : (gw ad ct V).set 69 (ad 69, .inr (3, ([.ref (ad 70), .ref (ad 71), .ref (ad 72), .ref (ad 73), .ref (ad 74), .ref (ad 75), .ref (ad 76), .ref (ad 77), .ref (ad 78), .ref (ad 79), .int (nI (V 69 10)), .ref (ad 80), .ref (ad 81), .ref (ad 82), .ref (ad 83), .ref (ad 84), .ref (ad 85), .ref (ad 86), .ref (ad 87), .ref (ad 88), .ref (ad 89), .ref (ad 90), .int (nI (V 69 22))] : List Value).set 22 (.int (nI n)))) = gw ad ct (pt V 69 22 n) := gw_put (by decide) rfl
end GW
