theorem Rel.mid {V V1 : VV} (h : Rel V V) (hf : ∀ c k, 69 ≤ c → V1 c k = V c k) : Rel V V1 := h.congr (fun _ _ _ => rfl) hf
theorem Rel.fin {V1 V2 : VV} (h : Rel V1 V2) (hf : ∀ c k, c < 69 → V2 c k = V1 c k) : Rel V2 V2 := h.congr hf (fun _ _ _ => rfl)
theorem fc_send {X : VV} {p x c k : Nat} (hp : p < 4) (hc : 69 ≤ c) : (cSend X p x).2 c k = X c k := by
  unfold cSend
  split
  · rfl
  · split
    · rfl
    · show cpo _ _ _ _ 4 c k = X c k
      rw [cpo_ne (Or.inr hc) hp 4 (Nat.le_refl _)]
      unfold cln
      simp (disch := omega) only [pt_ne]
theorem fc_change {X : VV} {p set c k : Nat} (hp : p < 4) (hc : 69 ≤ c) : (cChange X p set).2 c k = X c k := by
  unfold cChange
  split
  · rfl
  · split
    · rfl
    · show cpo _ _ _ _ 4 c k = X c k
      rw [cpo_ne (Or.inr hc) hp 4 (Nat.le_refl _)]
      unfold csy
      simp (disch := omega) only [pt_ne]
theorem fc_tell {X : VV} {p v c k : Nat} (hp : p < 4) (hc : 69 ≤ c) : (cTell X p v).2 c k = X c k := by
  unfold cTell
  split
  · rfl
  · split
    · rfl
    · split
      · rfl
      · show pt _ _ _ _ c k = X c k
        simp (disch := omega) only [pt_ne]
theorem fc_carry {X : VV} {p q c k : Nat} (hp : p < 4) (hq : q < 4) (hc : 69 ≤ c) : (cCarry X p q).2 c k = X c k := by
  unfold cCarry
  split
  · rfl
  · split
    · show cln _ _ _ _ _ c k = X c k
      unfold cln
      simp (disch := omega) only [pt_ne]
    · show crs _ _ _ _ c k = X c k
      unfold crs
      split
      · unfold csy
        simp (disch := omega) only [pt_ne]
      · rw [crl_ne (by omega)]
        unfold csy
        simp (disch := omega) only [pt_ne]
theorem fc_form {X X' : VV} {set c k : Nat} {r : Int32} (h : cForm X set r X') (hc : 69 ≤ c) : X' c k = X c k := by
  rcases h with ⟨-, -, rfl⟩ | ⟨-, -, -, rfl⟩ | ⟨-, -, -, -, rfl⟩ | ⟨-, -, -, -, rfl⟩
  · rfl
  · rfl
  · rfl
  · rw [cfo_ne (by omega) (fun j hj => by omega) (Nat.le_refl _)]
    simp (disch := omega) only [pt_ne]
theorem fc_d1 {X X' : VV} {p lim c k : Nat} {r : Int32} (hp : p < 4) (h : cd1 X p lim r X') (hc : 69 ≤ c) : X' c k = X c k := by
  rcases h with ⟨-, q, hq, -, -, rfl⟩ | ⟨-, -, rfl⟩
  · unfold cdv
    rw [cev_ne (by omega), pt_ne (by omega)]
  · rfl
theorem fc_step {X X' : VV} {p c k : Nat} {r : Int32} (hp : p < 4) (h : cStep X p r X') (hc : 69 ≤ c) : X' c k = X c k := by
  rcases h with ⟨-, h⟩ | ⟨-, -, -, rfl⟩ | ⟨-, -, -, -, rfl⟩ | ⟨-, -, -, ⟨-, h⟩ | ⟨-, ⟨-, -, rfl⟩ | ⟨-, -, rfl⟩⟩⟩
  · exact fc_d1 hp h hc
  · rfl
  · rfl
  · exact fc_d1 hp h hc
  · rfl
  · unfold cen
    simp (disch := omega) only [pt_ne, cev_ne]
theorem fr_send {Y : VV} {p x c k : Nat} (hc : c < 69) : (rSend Y p x).2 c k = Y c k := by
  unfold rSend
  split
  · rfl
  · split
    · rfl
    · show rpo _ _ _ _ 4 c k = Y c k
      simp (disch := omega) only [rpo_ne, pt_ne, rvc_ne]
theorem fr_change {Y : VV} {p set c k : Nat} (hc : c < 69) : (rChange Y p set).2 c k = Y c k := by
  unfold rChange
  split
  · rfl
  · split
    · rfl
    · show rpo _ _ _ _ 4 c k = Y c k
      simp (disch := omega) only [rpo_ne, pt_ne, rct_ne]
theorem fr_tell {Y : VV} {p v c k : Nat} (hc : c < 69) : (rTell Y p v).2 c k = Y c k := by
  unfold rTell
  split
  · rfl
  · split
    · rfl
    · split
      · rfl
      · show pt _ _ _ _ c k = Y c k
        simp (disch := omega) only [pt_ne]
theorem fr_carry {Y : VV} {p q c k : Nat} (hc : c < 69) : (rCarry Y p q).2 c k = Y c k := by
  unfold rCarry
  split
  · rfl
  · split
    · show pt _ _ _ _ c k = Y c k
      simp (disch := omega) only [pt_ne, rsh_ne]
    · split
      · show pt _ _ _ _ c k = Y c k
        simp (disch := omega) only [pt_ne, rsh_ne]
      · show rkl _ _ _ 4 c k = Y c k
        simp (disch := omega) only [rkl_ne, pt_ne, rsh_ne]
theorem fr_form {Y Y' : VV} {set c k : Nat} {r : Int32} (h : rForm Y set r Y') (hc : c < 69) : Y' c k = Y c k := by
  rcases h with ⟨-, -, rfl⟩ | ⟨-, -, -, rfl⟩ | ⟨-, -, -, -, rfl⟩ | ⟨-, -, -, -, rfl⟩
  · rfl
  · rfl
  · rfl
  · simp (disch := omega) only [rfo_ne, pt_ne]
theorem fr_step {Y Y' : VV} {p c k : Nat} {r : Int32} (hb : BD Y) (h : rStep Y p r Y') (hc : c < 69) : Y' c k = Y c k := by
  obtain ⟨hw, Z, hl, h⟩ := h
  have hs : Z c k = Y c k := (rlim_ok hb hl).1 c k (by omega) (by omega)
  rcases h with ⟨-, -, rfl⟩ | ⟨-, q, -, -, -, -, rfl⟩ | ⟨-, -, -, rfl⟩ | ⟨-, -, -, -, rfl⟩ | ⟨-, -, -, -, rfl⟩
  · exact hs
  · unfold rdv
    rw [rev_ne (by omega), pt_ne (by omega)]
    exact hs
  · exact hs
  · exact hs
  · simp (disch := omega) only [rz4_ne, pt_ne, rev_ne]
    exact hs
section CV
variable {ad : Nat → Nat} {ct : Nat → ClassId}
theorem cv {P : Prop} {r d x : Int32} {w : va_W} {V X1 : VV} (h : (¬ P ∧ r = d ∧ w = gw ad ct V) ∨ (P ∧ r = x ∧ w = gw ad ct X1)) : ∃ V1, w = gw ad ct V1 ∧ ((¬ P ∧ r = d ∧ V1 = V) ∨ (P ∧ r = x ∧ V1 = X1)) := by
  rcases h with ⟨a, b, rfl⟩ | ⟨a, b, rfl⟩
  · exact ⟨V, rfl, Or.inl ⟨a, b, rfl⟩⟩
  · exact ⟨X1, rfl, Or.inr ⟨a, b, rfl⟩⟩
theorem cvS {P : Prop} {r d : Int32} {w : va_W} {V : VV} {S : Int32 → VV → Prop} (h : (¬ P ∧ r = d ∧ w = gw ad ct V) ∨ (P ∧ ∃ X', S r X' ∧ w = gw ad ct X')) : ∃ V1, w = gw ad ct V1 ∧ ((¬ P ∧ r = d ∧ V1 = V) ∨ (P ∧ S r V1)) := by
  rcases h with ⟨a, b, rfl⟩ | ⟨a, X', b, rfl⟩
  · exact ⟨V, rfl, Or.inl ⟨a, b, rfl⟩⟩
  · exact ⟨X', rfl, Or.inr ⟨a, b⟩⟩
theorem cvF {r : Int32} {w : va_W} {S : Int32 → VV → Prop} (h : ∃ X', S r X' ∧ w = gw ad ct X') : ∃ V1, w = gw ad ct V1 ∧ S r V1 := by
  obtain ⟨X', b, rfl⟩ := h
  exact ⟨X', rfl, b⟩
end CV
section LW
variable {V V1 V2 : VV} {r1 r2 : Int32}
theorem law_fn {P : Prop} {d : Int32} {f : VV → Int32 × VV} {g : VV → Int32 × VV} (h : Rel V V) (hfc : P → ∀ c k, 69 ≤ c → (f V).2 c k = V c k) (hfr : ∀ Y : VV, P → ∀ c k, c < 69 → (g Y).2 c k = Y c k) (hs : P → ∀ X Y, Rel X Y → (f X).1 = (g Y).1 ∧ Rel (f X).2 (g Y).2)
    (hc : (¬ P ∧ r1 = d ∧ V1 = V) ∨ (P ∧ r1 = (f V).1 ∧ V1 = (f V).2)) (hr : (¬ P ∧ r2 = d ∧ V2 = V1) ∨ (P ∧ r2 = (g V1).1 ∧ V2 = (g V1).2)) : r1 = r2 ∧ Rel V2 V2 := by
  rcases hc with ⟨a, rfl, rfl⟩ | ⟨a, rfl, rfl⟩ <;> rcases hr with ⟨b, rfl, rfl⟩ | ⟨b, rfl, rfl⟩
  · exact ⟨rfl, h⟩
  · exact absurd b a
  · exact absurd a b
  · obtain ⟨e1, e2⟩ := hs a V (f V).2 (h.mid (hfc a))
    exact ⟨e1, e2.fin (hfr _ a)⟩
theorem mid_fn {P : Prop} {d : Int32} {f : VV → Int32 × VV} (h : Rel V V) (hfc : P → ∀ c k, 69 ≤ c → (f V).2 c k = V c k) (hc : (¬ P ∧ r1 = d ∧ V1 = V) ∨ (P ∧ r1 = (f V).1 ∧ V1 = (f V).2)) : Rel V V1 := by
  rcases hc with ⟨-, -, rfl⟩ | ⟨a, -, rfl⟩
  · exact h
  · exact h.mid (hfc a)
theorem mid_ob {P : Prop} {d x : Int32} (h : Rel V V) (hc : (¬ P ∧ r1 = d ∧ V1 = V) ∨ (P ∧ r1 = x ∧ V1 = V)) : Rel V V1 := by
  rcases hc with ⟨-, -, rfl⟩ | ⟨a, -, rfl⟩ <;> exact h
theorem law_ob {P : Prop} {P' : VV → Prop} {d : Int32} {a : Nat} {b : VV → Nat} (h : Rel V V) (hP : P ↔ P' V) (hab : P → a = b V) (hc : (¬ P ∧ r1 = d ∧ V1 = V) ∨ (P ∧ r1 = nI a ∧ V1 = V)) (hr : (¬ P' V1 ∧ r2 = d ∧ V2 = V1) ∨ (P' V1 ∧ r2 = nI (b V1) ∧ V2 = V1)) : r1 = r2 ∧ Rel V2 V2 := by
  rcases hc with ⟨a1, rfl, rfl⟩ | ⟨a1, rfl, rfl⟩ <;> rcases hr with ⟨b1, rfl, rfl⟩ | ⟨b1, rfl, rfl⟩
  · exact ⟨rfl, h⟩
  · exact absurd (hP.mpr b1) a1
  · exact absurd (hP.mp a1) b1
  · exact ⟨by rw [hab a1], h⟩
theorem mid_form {set : Nat} (h : Rel V V) (hc : cForm V set r1 V1) : Rel V V1 := h.mid (fun _ _ z => fc_form hc z)
theorem law_form {set : Nat} (h : Rel V V) (hc : cForm V set r1 V1) (hr : rForm V1 set r2 V2) : r1 = r2 ∧ Rel V2 V2 := by
  obtain ⟨e1, e2⟩ := sim_form (mid_form h hc) hc hr
  exact ⟨e1, e2.fin (fun _ _ z => fr_form hr z)⟩
theorem mid_step {n : Nat} (h : Rel V V) (hc : (¬ n < 4 ∧ r1 = -1 ∧ V1 = V) ∨ (n < 4 ∧ cStep V n r1 V1)) : Rel V V1 := by
  rcases hc with ⟨-, -, rfl⟩ | ⟨a, b⟩
  · exact h
  · exact h.mid (fun _ _ z => fc_step a b z)
theorem law_step {n : Nat} (h : Rel V V) (hc : (¬ n < 4 ∧ r1 = -1 ∧ V1 = V) ∨ (n < 4 ∧ cStep V n r1 V1)) (hr : (¬ n < 4 ∧ r2 = -1 ∧ V2 = V1) ∨ (n < 4 ∧ rStep V1 n r2 V2)) : r1 = r2 ∧ Rel V2 V2 := by
  have hm := mid_step h hc
  rcases hc with ⟨a, rfl, rfl⟩ | ⟨a, a2⟩ <;> rcases hr with ⟨b, rfl, rfl⟩ | ⟨b, b2⟩
  · exact ⟨rfl, h⟩
  · exact absurd b a
  · exact absurd a b
  · obtain ⟨e1, e2⟩ := sim_step hm a a2 b2
    exact ⟨e1, e2.fin (fun _ _ z => fr_step hm.rb.1 b2 z)⟩
theorem popc_eq {X Y : VV} (h : Rel X Y) {p v q : Nat} (hp : p < 4) (hv : v < 16) (hq : q < 4) : popc (X (5 + 8 * p + 1) (v * 4 + q)) = rcn Y (256 * p + 16 * v + 4 * q) 4 := by
  obtain ⟨k1, k2, k3⟩ := h.2.2.1 p v q hp hv hq
  have a0 := k3 0 (by decide)
  have a1 := k3 1 (by decide)
  have a2 := k3 2 (by decide)
  have a3 := k3 3 (by decide)
  have hb := h.2.2.2.2.2.2.2.2.2.2.2.2.2.2.1
  have b0 := hb (256 * p + 16 * v + 4 * q + 0)
  have b1 := hb (256 * p + 16 * v + 4 * q + 1)
  have b2 := hb (256 * p + 16 * v + 4 * q + 2)
  have b3 := hb (256 * p + 16 * v + 4 * q + 3)
  simp only [Nat.reduceAdd, Nat.reducePow] at a0 a1 a2 a3
  unfold popc
  simp only [rcn]
  rw [k2, a0, a1, a2, a3]
  generalize Y 84 (256 * p + 16 * v + 4 * q + 0) = x0 at *
  generalize Y 84 (256 * p + 16 * v + 4 * q + 1) = x1 at *
  generalize Y 84 (256 * p + 16 * v + 4 * q + 2) = x2 at *
  generalize Y 84 (256 * p + 16 * v + 4 * q + 3) = x3 at *
  split <;> split <;> split <;> split <;> omega
end LW
/-- an int by its 32 bits -/
def cd (x : Int32) : Nat := x.toBitVec.toNat
theorem cd_lt (x : Int32) : cd x < 2 ^ 32 := x.toBitVec.isLt
theorem cd_eq (x : Int32) : x = nI (cd x) := by
  apply Int32.toBitVec_inj.mp
  unfold nI cd
  simp [Int32.toBitVec_ofNat']
theorem q_le3 {L i : Nat} (hL : L < 2 ^ 30) (hi : i < 2 ^ 30) : (nI L - nI 3 < nI i) ↔ L < i + 3 := by
  rw [Int32.lt_iff_toInt_lt, pk_sub_toInt hL (by decide), nI_toInt (by omega)]
  omega
section GS
variable {p : Program} {l : Launch} {e : Env} {R : Room} {s : State} {m : MethodId} {args : Array Value} {below : List Frame} {meth : Method} {c : Code} {D : va_G} {cl : List vw_C} {A : Nat → Prop} {k n : Nat} {Q : State → Prop} {w : va_W} {L : List (Option Value)} {pc : Nat} {st : List Value} {cc : ByteArray}
theorem g_sld (hx : p.tables.exec = Jvm.exec) (hb : c.code = cc) {b N j : Nat} {xs : Nat → Int32} (hX : va_X b N xs s s.heap) (hbl : b < s.heap.size) (hbA : ¬ A b) (hj : j < N) (hN : N < 2 ^ 31) (hd : decode cc pc = .ok (.iaload, 1)) (kk : G p l e R s m args below meth c D cl A k n Q w L (pc + 1) (.int (nI (cd (xs j))) :: st)) : G p l e R s m args below meth c D cl A k n Q w L pc (.int (nI j) :: .ref b :: st) :=
  fun H locs ls hP hS hl => va_sld hx hb hX hbl hbA hS (q_in hj hN) hd (by rw [nI_clamp (Nat.lt_trans hj hN), cd_eq (xs j)]; exact kk H locs ls hP hS hl)
theorem g_slen (hx : p.tables.exec = Jvm.exec) (hb : c.code = cc) {b N : Nat} {xs : Nat → Int32} (hX : va_X b N xs s s.heap) (hbl : b < s.heap.size) (hbA : ¬ A b) (hd : decode cc pc = .ok (.arraylength, 1)) (kk : G p l e R s m args below meth c D cl A k n Q w L (pc + 1) (.int (nI N) :: st)) : G p l e R s m args below meth c D cl A k n Q w L pc (.ref b :: st) :=
  fun H locs ls hP hS hl => va_slen hx hb hX hbl hbA hS hd (kk H locs ls hP hS hl)
end GS
