/-- what the law's walk stands on -/
def LC (p : Program) (s : State) (m : MethodId) (c : Code) (D : va_G) (ct : Nat → ClassId) (ad : Nat → Nat) (b L : Nat) (xs : Nat → Int32) : Prop := p.tables.exec = Jvm.exec ∧ c.code = code ∧ c.maxLocals = 4 ∧ s.vm.findClass "GroupViewsLaw" = some m.cls ∧ (∀ w ∈ Cond.initialized "GroupViewsLaw" :: tblG, w.before #[Value.ref b] s = true) ∧ gK D ct s ∧ adOk ad ∧ (∀ c, c < 91 → s.heap.size ≤ ad c) ∧ va_X b L xs s s.heap ∧ b < s.heap.size ∧ L ≤ 1536
set_option maxRecDepth 100000 in
set_option maxHeartbeats 4000000 in
theorem case_0 {p : Program} {l : Launch} {e : Env} {s : State} {m : MethodId} {below : List Frame} {meth : Method} {c : Code} {D : va_G} {ct : Nat → ClassId} {ad : Nat → Nat} {b L : Nat} {xs : Nat → Int32} {Q : State → Prop} (C : LC p s m c D ct ad b L xs) {V : VV} (h : Rel V V) {t : Nat} (ht : 3 * t + 3 ≤ L) (cont : ∀ V', Rel V' V' → G p l e room_1 s m #[Value.ref b] below meth c D vcl (fun q => s.heap.size ≤ q) 91 6692 Q (gw ad ct V') [some (.ref b), some (.ref (ad 0)), some (.ref (ad 69)), some (.int (nI (3 * t)))] 597 []) : G p l e room_1 s m #[Value.ref b] below meth c D vcl (fun q => s.heap.size ≤ q) 91 6692 Q (gw ad ct V) [some (.ref b), some (.ref (ad 0)), some (.ref (ad 69)), some (.int (nI (3 * t)))] 116 [] := by
  obtain ⟨hx, hb, hml, hown, hts, hK, had, hAd, hX, hbl, hL⟩ := C
  have hbA : ¬ (fun q => s.heap.size ≤ q) b := Nat.not_le.mpr hbl
  have hAA : ∀ q, gA ad q → (fun q => s.heap.size ≤ q) q := fun q hq => by obtain ⟨c, h1, rfl⟩ := hq; exact hAd c h1
  refine g_aload_n hx hb d_LW_law_116 rfl rfl ?_
  refine g_aload_n hx hb d_LW_law_117 rfl rfl ?_
  refine g_iload_n hx hb d_LW_law_118 rfl rfl ?_
  refine g_iconst hx hb d_LW_law_119 k_iconst_1 ?_
  refine n_iadd hx hb d_LW_law_120 ?_
  refine g_sld hx hb hX hbl hbA (by omega) (by omega) d_LW_law_121 ?_
  refine g_aload_n hx hb d_LW_law_122 rfl rfl ?_
  refine g_iload_n hx hb d_LW_law_123 rfl rfl ?_
  refine g_iconst hx hb d_LW_law_124 k_iconst_2 ?_
  refine n_iadd hx hb d_LW_law_125 ?_
  refine g_sld hx hb hX hbl hbA (by omega) (by omega) d_LW_law_126 ?_
  refine g_callVi (C := "GroupViews") (nn := 2) ⟨hx, hb, hml.trans rfl, hown, hts⟩ (ct_GV_send l D ad ct had _ _ _ (cd_lt _) h.cb) (mk_V hts t_115 t_116 t_117 t_1 t_118 rfl rfl (by decide +kernel) ⟨Nat.le_of_ble_eq_true rfl, Nat.le_of_ble_eq_true rfl⟩) hK.1 rfl w_0 rfl hAA (gK_ok D ct) hK (Nat.le_of_ble_eq_true rfl) ⟨Nat.le_of_ble_eq_true rfl, Nat.le_of_ble_eq_true rfl⟩ rfl rfl d_LW_law_127 ?_
  intro r1 w1 h1
  obtain ⟨V1, rfl, hc⟩ := cv h1
  have hm : Rel V V1 := mid_fn (f := fun V => cSend V (cd (xs (3 * t + 1))) (cd (xs (3 * t + 2)))) h (fun a c k z => fc_send a z) hc
  refine g_aload_n hx hb d_LW_law_130 rfl rfl ?_
  refine g_aload_n hx hb d_LW_law_131 rfl rfl ?_
  refine g_iload_n hx hb d_LW_law_132 rfl rfl ?_
  refine g_iconst hx hb d_LW_law_133 k_iconst_1 ?_
  refine n_iadd hx hb d_LW_law_134 ?_
  refine g_sld hx hb hX hbl hbA (by omega) (by omega) d_LW_law_135 ?_
  refine g_aload_n hx hb d_LW_law_136 rfl rfl ?_
  refine g_iload_n hx hb d_LW_law_137 rfl rfl ?_
  refine g_iconst hx hb d_LW_law_138 k_iconst_2 ?_
  refine n_iadd hx hb d_LW_law_139 ?_
  refine g_sld hx hb hX hbl hbA (by omega) (by omega) d_LW_law_140 ?_
  refine g_callVi (C := "GroupViewsModel") (nn := 2) ⟨hx, hb, hml.trans rfl, hown, hts⟩ (ct_MD_send l D ad ct had _ _ _ (cd_lt _) hm.rb) (mk_V hts t_386 t_387 t_388 t_4 t_389 rfl rfl (by decide +kernel) ⟨Nat.le_of_ble_eq_true rfl, Nat.le_of_ble_eq_true rfl⟩) hK.1 rfl w_M rfl hAA (gK_ok D ct) hK (Nat.le_of_ble_eq_true rfl) ⟨Nat.le_of_ble_eq_true rfl, Nat.le_of_ble_eq_true rfl⟩ rfl rfl d_LW_law_141 ?_
  intro r2 w2 h2
  obtain ⟨V2, rfl, hr⟩ := cv h2
  obtain ⟨e12, h'⟩ := law_fn (f := fun V => cSend V (cd (xs (3 * t + 1))) (cd (xs (3 * t + 2)))) (g := fun V => rSend V (cd (xs (3 * t + 1))) (cd (xs (3 * t + 2)))) h (fun a c k z => fc_send a z) (fun Y a c k z => fr_send z) (fun a X Y hXY => sim_send hXY a _) hc hr
  exact g_icmp_eq (tgt := 597) hx hb d_LW_law_144 (by decide) (fun _ => cont V2 h') (fun z => absurd e12 z)
set_option maxRecDepth 100000 in
set_option maxHeartbeats 4000000 in
theorem case_1 {p : Program} {l : Launch} {e : Env} {s : State} {m : MethodId} {below : List Frame} {meth : Method} {c : Code} {D : va_G} {ct : Nat → ClassId} {ad : Nat → Nat} {b L : Nat} {xs : Nat → Int32} {Q : State → Prop} (C : LC p s m c D ct ad b L xs) {V : VV} (h : Rel V V) {t : Nat} (ht : 3 * t + 3 ≤ L) (cont : ∀ V', Rel V' V' → G p l e room_1 s m #[Value.ref b] below meth c D vcl (fun q => s.heap.size ≤ q) 91 6692 Q (gw ad ct V') [some (.ref b), some (.ref (ad 0)), some (.ref (ad 69)), some (.int (nI (3 * t)))] 597 []) : G p l e room_1 s m #[Value.ref b] below meth c D vcl (fun q => s.heap.size ≤ q) 91 6692 Q (gw ad ct V) [some (.ref b), some (.ref (ad 0)), some (.ref (ad 69)), some (.int (nI (3 * t)))] 149 [] := by
  obtain ⟨hx, hb, hml, hown, hts, hK, had, hAd, hX, hbl, hL⟩ := C
  have hbA : ¬ (fun q => s.heap.size ≤ q) b := Nat.not_le.mpr hbl
  have hAA : ∀ q, gA ad q → (fun q => s.heap.size ≤ q) q := fun q hq => by obtain ⟨c, h1, rfl⟩ := hq; exact hAd c h1
  refine g_aload_n hx hb d_LW_law_149 rfl rfl ?_
  refine g_aload_n hx hb d_LW_law_150 rfl rfl ?_
  refine g_iload_n hx hb d_LW_law_151 rfl rfl ?_
  refine g_iconst hx hb d_LW_law_152 k_iconst_1 ?_
  refine n_iadd hx hb d_LW_law_153 ?_
  refine g_sld hx hb hX hbl hbA (by omega) (by omega) d_LW_law_154 ?_
  refine g_aload_n hx hb d_LW_law_155 rfl rfl ?_
  refine g_iload_n hx hb d_LW_law_156 rfl rfl ?_
  refine g_iconst hx hb d_LW_law_157 k_iconst_2 ?_
  refine n_iadd hx hb d_LW_law_158 ?_
  refine g_sld hx hb hX hbl hbA (by omega) (by omega) d_LW_law_159 ?_
  refine g_callVi (C := "GroupViews") (nn := 2) ⟨hx, hb, hml.trans rfl, hown, hts⟩ (ct_GV_change l D ad ct had _ _ _ (cd_lt _) (cd_lt _) h.cb) (mk_V hts t_150 t_151 t_152 t_1 t_153 rfl rfl (by decide +kernel) ⟨Nat.le_of_ble_eq_true rfl, Nat.le_of_ble_eq_true rfl⟩) hK.1 rfl w_0 rfl hAA (gK_ok D ct) hK (Nat.le_of_ble_eq_true rfl) ⟨Nat.le_of_ble_eq_true rfl, Nat.le_of_ble_eq_true rfl⟩ rfl rfl d_LW_law_160 ?_
  intro r1 w1 h1
  obtain ⟨V1, rfl, hc⟩ := cv h1
  have hm : Rel V V1 := mid_fn (f := fun V => cChange V (cd (xs (3 * t + 1))) (cd (xs (3 * t + 2)))) h (fun a c k z => fc_change a z) hc
  refine g_aload_n hx hb d_LW_law_163 rfl rfl ?_
  refine g_aload_n hx hb d_LW_law_164 rfl rfl ?_
  refine g_iload_n hx hb d_LW_law_165 rfl rfl ?_
  refine g_iconst hx hb d_LW_law_166 k_iconst_1 ?_
  refine n_iadd hx hb d_LW_law_167 ?_
  refine g_sld hx hb hX hbl hbA (by omega) (by omega) d_LW_law_168 ?_
  refine g_aload_n hx hb d_LW_law_169 rfl rfl ?_
  refine g_iload_n hx hb d_LW_law_170 rfl rfl ?_
  refine g_iconst hx hb d_LW_law_171 k_iconst_2 ?_
  refine n_iadd hx hb d_LW_law_172 ?_
  refine g_sld hx hb hX hbl hbA (by omega) (by omega) d_LW_law_173 ?_
  refine g_callVi (C := "GroupViewsModel") (nn := 2) ⟨hx, hb, hml.trans rfl, hown, hts⟩ (ct_MD_change l D ad ct had _ _ _ (cd_lt _) (cd_lt _) hm.rb) (mk_V hts t_401 t_402 t_403 t_4 t_404 rfl rfl (by decide +kernel) ⟨Nat.le_of_ble_eq_true rfl, Nat.le_of_ble_eq_true rfl⟩) hK.1 rfl w_M rfl hAA (gK_ok D ct) hK (Nat.le_of_ble_eq_true rfl) ⟨Nat.le_of_ble_eq_true rfl, Nat.le_of_ble_eq_true rfl⟩ rfl rfl d_LW_law_174 ?_
  intro r2 w2 h2
  obtain ⟨V2, rfl, hr⟩ := cv h2
  obtain ⟨e12, h'⟩ := law_fn (f := fun V => cChange V (cd (xs (3 * t + 1))) (cd (xs (3 * t + 2)))) (g := fun V => rChange V (cd (xs (3 * t + 1))) (cd (xs (3 * t + 2)))) h (fun a c k z => fc_change a z) (fun Y a c k z => fr_change z) (fun a X Y hXY => sim_change hXY a _) hc hr
  exact g_icmp_eq (tgt := 597) hx hb d_LW_law_177 (by decide) (fun _ => cont V2 h') (fun z => absurd e12 z)
set_option maxRecDepth 100000 in
set_option maxHeartbeats 4000000 in
theorem case_2 {p : Program} {l : Launch} {e : Env} {s : State} {m : MethodId} {below : List Frame} {meth : Method} {c : Code} {D : va_G} {ct : Nat → ClassId} {ad : Nat → Nat} {b L : Nat} {xs : Nat → Int32} {Q : State → Prop} (C : LC p s m c D ct ad b L xs) {V : VV} (h : Rel V V) {t : Nat} (ht : 3 * t + 3 ≤ L) (cont : ∀ V', Rel V' V' → G p l e room_1 s m #[Value.ref b] below meth c D vcl (fun q => s.heap.size ≤ q) 91 6692 Q (gw ad ct V') [some (.ref b), some (.ref (ad 0)), some (.ref (ad 69)), some (.int (nI (3 * t)))] 597 []) : G p l e room_1 s m #[Value.ref b] below meth c D vcl (fun q => s.heap.size ≤ q) 91 6692 Q (gw ad ct V) [some (.ref b), some (.ref (ad 0)), some (.ref (ad 69)), some (.int (nI (3 * t)))] 182 [] := by
  obtain ⟨hx, hb, hml, hown, hts, hK, had, hAd, hX, hbl, hL⟩ := C
  have hbA : ¬ (fun q => s.heap.size ≤ q) b := Nat.not_le.mpr hbl
  have hAA : ∀ q, gA ad q → (fun q => s.heap.size ≤ q) q := fun q hq => by obtain ⟨c, h1, rfl⟩ := hq; exact hAd c h1
  refine g_aload_n hx hb d_LW_law_182 rfl rfl ?_
  refine g_aload_n hx hb d_LW_law_183 rfl rfl ?_
  refine g_iload_n hx hb d_LW_law_184 rfl rfl ?_
  refine g_iconst hx hb d_LW_law_185 k_iconst_1 ?_
  refine n_iadd hx hb d_LW_law_186 ?_
  refine g_sld hx hb hX hbl hbA (by omega) (by omega) d_LW_law_187 ?_
  refine g_callVi (C := "GroupViews") (nn := 1) ⟨hx, hb, hml.trans rfl, hown, hts⟩ (ct_GV_form l D ad ct had _ _ (cd_lt _) h.cb) (mk_V hts t_161 t_162 t_163 t_1 t_164 rfl rfl (by decide +kernel) ⟨Nat.le_of_ble_eq_true rfl, Nat.le_of_ble_eq_true rfl⟩) hK.1 rfl w_0 rfl hAA (gK_ok D ct) hK (Nat.le_of_ble_eq_true rfl) ⟨Nat.le_of_ble_eq_true rfl, Nat.le_of_ble_eq_true rfl⟩ rfl rfl d_LW_law_188 ?_
  intro r1 w1 h1
  obtain ⟨V1, rfl, hc⟩ := cvF h1
  have hm : Rel V V1 := mid_form h hc
  refine g_aload_n hx hb d_LW_law_191 rfl rfl ?_
  refine g_aload_n hx hb d_LW_law_192 rfl rfl ?_
  refine g_iload_n hx hb d_LW_law_193 rfl rfl ?_
  refine g_iconst hx hb d_LW_law_194 k_iconst_1 ?_
  refine n_iadd hx hb d_LW_law_195 ?_
  refine g_sld hx hb hX hbl hbA (by omega) (by omega) d_LW_law_196 ?_
  refine g_callVi (C := "GroupViewsModel") (nn := 1) ⟨hx, hb, hml.trans rfl, hown, hts⟩ (ct_MD_form l D ad ct had _ _ (cd_lt _) hm.rb) (mk_V hts t_405 t_406 t_407 t_4 t_408 rfl rfl (by decide +kernel) ⟨Nat.le_of_ble_eq_true rfl, Nat.le_of_ble_eq_true rfl⟩) hK.1 rfl w_M rfl hAA (gK_ok D ct) hK (Nat.le_of_ble_eq_true rfl) ⟨Nat.le_of_ble_eq_true rfl, Nat.le_of_ble_eq_true rfl⟩ rfl rfl d_LW_law_197 ?_
  intro r2 w2 h2
  obtain ⟨V2, rfl, hr⟩ := cvF h2
  obtain ⟨e12, h'⟩ := law_form h hc hr
  exact g_icmp_eq (tgt := 597) hx hb d_LW_law_200 (by decide) (fun _ => cont V2 h') (fun z => absurd e12 z)
set_option maxRecDepth 100000 in
set_option maxHeartbeats 4000000 in
theorem case_3 {p : Program} {l : Launch} {e : Env} {s : State} {m : MethodId} {below : List Frame} {meth : Method} {c : Code} {D : va_G} {ct : Nat → ClassId} {ad : Nat → Nat} {b L : Nat} {xs : Nat → Int32} {Q : State → Prop} (C : LC p s m c D ct ad b L xs) {V : VV} (h : Rel V V) {t : Nat} (ht : 3 * t + 3 ≤ L) (cont : ∀ V', Rel V' V' → G p l e room_1 s m #[Value.ref b] below meth c D vcl (fun q => s.heap.size ≤ q) 91 6692 Q (gw ad ct V') [some (.ref b), some (.ref (ad 0)), some (.ref (ad 69)), some (.int (nI (3 * t)))] 597 []) : G p l e room_1 s m #[Value.ref b] below meth c D vcl (fun q => s.heap.size ≤ q) 91 6692 Q (gw ad ct V) [some (.ref b), some (.ref (ad 0)), some (.ref (ad 69)), some (.int (nI (3 * t)))] 205 [] := by
  obtain ⟨hx, hb, hml, hown, hts, hK, had, hAd, hX, hbl, hL⟩ := C
  have hbA : ¬ (fun q => s.heap.size ≤ q) b := Nat.not_le.mpr hbl
  have hAA : ∀ q, gA ad q → (fun q => s.heap.size ≤ q) q := fun q hq => by obtain ⟨c, h1, rfl⟩ := hq; exact hAd c h1
  refine g_aload_n hx hb d_LW_law_205 rfl rfl ?_
  refine g_aload_n hx hb d_LW_law_206 rfl rfl ?_
  refine g_iload_n hx hb d_LW_law_207 rfl rfl ?_
  refine g_iconst hx hb d_LW_law_208 k_iconst_1 ?_
  refine n_iadd hx hb d_LW_law_209 ?_
  refine g_sld hx hb hX hbl hbA (by omega) (by omega) d_LW_law_210 ?_
  refine g_aload_n hx hb d_LW_law_211 rfl rfl ?_
  refine g_iload_n hx hb d_LW_law_212 rfl rfl ?_
  refine g_iconst hx hb d_LW_law_213 k_iconst_2 ?_
  refine n_iadd hx hb d_LW_law_214 ?_
  refine g_sld hx hb hX hbl hbA (by omega) (by omega) d_LW_law_215 ?_
  refine g_callVi (C := "GroupViews") (nn := 2) ⟨hx, hb, hml.trans rfl, hown, hts⟩ (ct_GV_tell l D ad ct had _ _ _ (cd_lt _) (cd_lt _) h.cb) (mk_V hts t_172 t_173 t_174 t_1 t_175 rfl rfl (by decide +kernel) ⟨Nat.le_of_ble_eq_true rfl, Nat.le_of_ble_eq_true rfl⟩) hK.1 rfl w_0 rfl hAA (gK_ok D ct) hK (Nat.le_of_ble_eq_true rfl) ⟨Nat.le_of_ble_eq_true rfl, Nat.le_of_ble_eq_true rfl⟩ rfl rfl d_LW_law_216 ?_
  intro r1 w1 h1
  obtain ⟨V1, rfl, hc⟩ := cv h1
  have hm : Rel V V1 := mid_fn (f := fun V => cTell V (cd (xs (3 * t + 1))) (cd (xs (3 * t + 2)))) h (fun a c k z => fc_tell a z) hc
  refine g_aload_n hx hb d_LW_law_219 rfl rfl ?_
  refine g_aload_n hx hb d_LW_law_220 rfl rfl ?_
  refine g_iload_n hx hb d_LW_law_221 rfl rfl ?_
  refine g_iconst hx hb d_LW_law_222 k_iconst_1 ?_
  refine n_iadd hx hb d_LW_law_223 ?_
  refine g_sld hx hb hX hbl hbA (by omega) (by omega) d_LW_law_224 ?_
  refine g_aload_n hx hb d_LW_law_225 rfl rfl ?_
  refine g_iload_n hx hb d_LW_law_226 rfl rfl ?_
  refine g_iconst hx hb d_LW_law_227 k_iconst_2 ?_
  refine n_iadd hx hb d_LW_law_228 ?_
  refine g_sld hx hb hX hbl hbA (by omega) (by omega) d_LW_law_229 ?_
  refine g_callVi (C := "GroupViewsModel") (nn := 2) ⟨hx, hb, hml.trans rfl, hown, hts⟩ (ct_MD_tell l D ad ct had _ _ _ (cd_lt _) (cd_lt _) hm.rb) (mk_V hts t_409 t_410 t_411 t_4 t_412 rfl rfl (by decide +kernel) ⟨Nat.le_of_ble_eq_true rfl, Nat.le_of_ble_eq_true rfl⟩) hK.1 rfl w_M rfl hAA (gK_ok D ct) hK (Nat.le_of_ble_eq_true rfl) ⟨Nat.le_of_ble_eq_true rfl, Nat.le_of_ble_eq_true rfl⟩ rfl rfl d_LW_law_230 ?_
  intro r2 w2 h2
  obtain ⟨V2, rfl, hr⟩ := cv h2
  obtain ⟨e12, h'⟩ := law_fn (f := fun V => cTell V (cd (xs (3 * t + 1))) (cd (xs (3 * t + 2)))) (g := fun V => rTell V (cd (xs (3 * t + 1))) (cd (xs (3 * t + 2)))) h (fun a c k z => fc_tell a z) (fun Y a c k z => fr_tell z) (fun a X Y hXY => sim_tell hXY a _) hc hr
  exact g_icmp_eq (tgt := 597) hx hb d_LW_law_233 (by decide) (fun _ => cont V2 h') (fun z => absurd e12 z)
set_option maxRecDepth 100000 in
set_option maxHeartbeats 4000000 in
theorem case_4 {p : Program} {l : Launch} {e : Env} {s : State} {m : MethodId} {below : List Frame} {meth : Method} {c : Code} {D : va_G} {ct : Nat → ClassId} {ad : Nat → Nat} {b L : Nat} {xs : Nat → Int32} {Q : State → Prop} (C : LC p s m c D ct ad b L xs) {V : VV} (h : Rel V V) {t : Nat} (ht : 3 * t + 3 ≤ L) (cont : ∀ V', Rel V' V' → G p l e room_1 s m #[Value.ref b] below meth c D vcl (fun q => s.heap.size ≤ q) 91 6692 Q (gw ad ct V') [some (.ref b), some (.ref (ad 0)), some (.ref (ad 69)), some (.int (nI (3 * t)))] 597 []) : G p l e room_1 s m #[Value.ref b] below meth c D vcl (fun q => s.heap.size ≤ q) 91 6692 Q (gw ad ct V) [some (.ref b), some (.ref (ad 0)), some (.ref (ad 69)), some (.int (nI (3 * t)))] 238 [] := by
  obtain ⟨hx, hb, hml, hown, hts, hK, had, hAd, hX, hbl, hL⟩ := C
  have hbA : ¬ (fun q => s.heap.size ≤ q) b := Nat.not_le.mpr hbl
  have hAA : ∀ q, gA ad q → (fun q => s.heap.size ≤ q) q := fun q hq => by obtain ⟨c, h1, rfl⟩ := hq; exact hAd c h1
  refine g_aload_n hx hb d_LW_law_238 rfl rfl ?_
  refine g_aload_n hx hb d_LW_law_239 rfl rfl ?_
  refine g_iload_n hx hb d_LW_law_240 rfl rfl ?_
  refine g_iconst hx hb d_LW_law_241 k_iconst_1 ?_
  refine n_iadd hx hb d_LW_law_242 ?_
  refine g_sld hx hb hX hbl hbA (by omega) (by omega) d_LW_law_243 ?_
  refine g_aload_n hx hb d_LW_law_244 rfl rfl ?_
  refine g_iload_n hx hb d_LW_law_245 rfl rfl ?_
  refine g_iconst hx hb d_LW_law_246 k_iconst_2 ?_
  refine n_iadd hx hb d_LW_law_247 ?_
  refine g_sld hx hb hX hbl hbA (by omega) (by omega) d_LW_law_248 ?_
  refine g_callVi (C := "GroupViews") (nn := 2) ⟨hx, hb, hml.trans rfl, hown, hts⟩ (ct_GV_carry l D ad ct had _ _ _ (cd_lt _) (cd_lt _) h.cb) (mk_V hts t_180 t_181 t_182 t_1 t_183 rfl rfl (by decide +kernel) ⟨Nat.le_of_ble_eq_true rfl, Nat.le_of_ble_eq_true rfl⟩) hK.1 rfl w_0 rfl hAA (gK_ok D ct) hK (Nat.le_of_ble_eq_true rfl) ⟨Nat.le_of_ble_eq_true rfl, Nat.le_of_ble_eq_true rfl⟩ rfl rfl d_LW_law_249 ?_
  intro r1 w1 h1
  obtain ⟨V1, rfl, hc⟩ := cv h1
  have hm : Rel V V1 := mid_fn (f := fun V => cCarry V (cd (xs (3 * t + 1))) (cd (xs (3 * t + 2)))) h (fun a c k z => fc_carry a.1 a.2.1 z) hc
  refine g_aload_n hx hb d_LW_law_252 rfl rfl ?_
  refine g_aload_n hx hb d_LW_law_253 rfl rfl ?_
  refine g_iload_n hx hb d_LW_law_254 rfl rfl ?_
  refine g_iconst hx hb d_LW_law_255 k_iconst_1 ?_
  refine n_iadd hx hb d_LW_law_256 ?_
  refine g_sld hx hb hX hbl hbA (by omega) (by omega) d_LW_law_257 ?_
  refine g_aload_n hx hb d_LW_law_258 rfl rfl ?_
  refine g_iload_n hx hb d_LW_law_259 rfl rfl ?_
  refine g_iconst hx hb d_LW_law_260 k_iconst_2 ?_
  refine n_iadd hx hb d_LW_law_261 ?_
  refine g_sld hx hb hX hbl hbA (by omega) (by omega) d_LW_law_262 ?_
  refine g_callVi (C := "GroupViewsModel") (nn := 2) ⟨hx, hb, hml.trans rfl, hown, hts⟩ (ct_MD_carry l D ad ct had _ _ _ (cd_lt _) (cd_lt _) hm.rb) (mk_V hts t_413 t_414 t_415 t_4 t_416 rfl rfl (by decide +kernel) ⟨Nat.le_of_ble_eq_true rfl, Nat.le_of_ble_eq_true rfl⟩) hK.1 rfl w_M rfl hAA (gK_ok D ct) hK (Nat.le_of_ble_eq_true rfl) ⟨Nat.le_of_ble_eq_true rfl, Nat.le_of_ble_eq_true rfl⟩ rfl rfl d_LW_law_263 ?_
  intro r2 w2 h2
  obtain ⟨V2, rfl, hr⟩ := cv h2
  obtain ⟨e12, h'⟩ := law_fn (f := fun V => cCarry V (cd (xs (3 * t + 1))) (cd (xs (3 * t + 2)))) (g := fun V => rCarry V (cd (xs (3 * t + 1))) (cd (xs (3 * t + 2)))) h (fun a c k z => fc_carry a.1 a.2.1 z) (fun Y a c k z => fr_carry z) (fun a X Y hXY => sim_carry hXY a.1 a.2.1) hc hr
  exact g_icmp_eq (tgt := 597) hx hb d_LW_law_266 (by decide) (fun _ => cont V2 h') (fun z => absurd e12 z)
set_option maxRecDepth 100000 in
set_option maxHeartbeats 4000000 in
theorem case_5 {p : Program} {l : Launch} {e : Env} {s : State} {m : MethodId} {below : List Frame} {meth : Method} {c : Code} {D : va_G} {ct : Nat → ClassId} {ad : Nat → Nat} {b L : Nat} {xs : Nat → Int32} {Q : State → Prop} (C : LC p s m c D ct ad b L xs) {V : VV} (h : Rel V V) {t : Nat} (ht : 3 * t + 3 ≤ L) (cont : ∀ V', Rel V' V' → G p l e room_1 s m #[Value.ref b] below meth c D vcl (fun q => s.heap.size ≤ q) 91 6692 Q (gw ad ct V') [some (.ref b), some (.ref (ad 0)), some (.ref (ad 69)), some (.int (nI (3 * t)))] 597 []) : G p l e room_1 s m #[Value.ref b] below meth c D vcl (fun q => s.heap.size ≤ q) 91 6692 Q (gw ad ct V) [some (.ref b), some (.ref (ad 0)), some (.ref (ad 69)), some (.int (nI (3 * t)))] 271 [] := by
  obtain ⟨hx, hb, hml, hown, hts, hK, had, hAd, hX, hbl, hL⟩ := C
  have hbA : ¬ (fun q => s.heap.size ≤ q) b := Nat.not_le.mpr hbl
  have hAA : ∀ q, gA ad q → (fun q => s.heap.size ≤ q) q := fun q hq => by obtain ⟨c, h1, rfl⟩ := hq; exact hAd c h1
  refine g_aload_n hx hb d_LW_law_271 rfl rfl ?_
  refine g_aload_n hx hb d_LW_law_272 rfl rfl ?_
  refine g_iload_n hx hb d_LW_law_273 rfl rfl ?_
  refine g_iconst hx hb d_LW_law_274 k_iconst_1 ?_
  refine n_iadd hx hb d_LW_law_275 ?_
  refine g_sld hx hb hX hbl hbA (by omega) (by omega) d_LW_law_276 ?_
  refine g_callVi (C := "GroupViews") (nn := 1) ⟨hx, hb, hml.trans rfl, hown, hts⟩ (ct_GV_step l D ad ct had _ _ (cd_lt _) h.cb) (mk_V hts t_204 t_205 t_206 t_1 t_207 rfl rfl (by decide +kernel) ⟨Nat.le_of_ble_eq_true rfl, Nat.le_of_ble_eq_true rfl⟩) hK.1 rfl w_0 rfl hAA (gK_ok D ct) hK (Nat.le_of_ble_eq_true rfl) ⟨Nat.le_of_ble_eq_true rfl, Nat.le_of_ble_eq_true rfl⟩ rfl rfl d_LW_law_277 ?_
  intro r1 w1 h1
  obtain ⟨V1, rfl, hc⟩ := cvS h1
  have hm : Rel V V1 := mid_step h hc
  refine g_aload_n hx hb d_LW_law_280 rfl rfl ?_
  refine g_aload_n hx hb d_LW_law_281 rfl rfl ?_
  refine g_iload_n hx hb d_LW_law_282 rfl rfl ?_
  refine g_iconst hx hb d_LW_law_283 k_iconst_1 ?_
  refine n_iadd hx hb d_LW_law_284 ?_
  refine g_sld hx hb hX hbl hbA (by omega) (by omega) d_LW_law_285 ?_
  refine g_callVi (C := "GroupViewsModel") (nn := 1) ⟨hx, hb, hml.trans rfl, hown, hts⟩ (ct_MD_step l D ad ct had _ _ (cd_lt _) hm.rb) (mk_V hts t_417 t_418 t_419 t_4 t_420 rfl rfl (by decide +kernel) ⟨Nat.le_of_ble_eq_true rfl, Nat.le_of_ble_eq_true rfl⟩) hK.1 rfl w_M rfl hAA (gK_ok D ct) hK (Nat.le_of_ble_eq_true rfl) ⟨Nat.le_of_ble_eq_true rfl, Nat.le_of_ble_eq_true rfl⟩ rfl rfl d_LW_law_286 ?_
  intro r2 w2 h2
  obtain ⟨V2, rfl, hr⟩ := cvS h2
  obtain ⟨e12, h'⟩ := law_step h hc hr
  exact g_icmp_eq (tgt := 597) hx hb d_LW_law_289 (by decide) (fun _ => cont V2 h') (fun z => absurd e12 z)
set_option maxRecDepth 100000 in
set_option maxHeartbeats 4000000 in
theorem case_6 {p : Program} {l : Launch} {e : Env} {s : State} {m : MethodId} {below : List Frame} {meth : Method} {c : Code} {D : va_G} {ct : Nat → ClassId} {ad : Nat → Nat} {b L : Nat} {xs : Nat → Int32} {Q : State → Prop} (C : LC p s m c D ct ad b L xs) {V : VV} (h : Rel V V) {t : Nat} (ht : 3 * t + 3 ≤ L) (cont : ∀ V', Rel V' V' → G p l e room_1 s m #[Value.ref b] below meth c D vcl (fun q => s.heap.size ≤ q) 91 6692 Q (gw ad ct V') [some (.ref b), some (.ref (ad 0)), some (.ref (ad 69)), some (.int (nI (3 * t)))] 597 []) : G p l e room_1 s m #[Value.ref b] below meth c D vcl (fun q => s.heap.size ≤ q) 91 6692 Q (gw ad ct V) [some (.ref b), some (.ref (ad 0)), some (.ref (ad 69)), some (.int (nI (3 * t)))] 294 [] := by
  obtain ⟨hx, hb, hml, hown, hts, hK, had, hAd, hX, hbl, hL⟩ := C
  have hbA : ¬ (fun q => s.heap.size ≤ q) b := Nat.not_le.mpr hbl
  have hAA : ∀ q, gA ad q → (fun q => s.heap.size ≤ q) q := fun q hq => by obtain ⟨c, h1, rfl⟩ := hq; exact hAd c h1
  refine g_aload_n hx hb d_LW_law_294 rfl rfl ?_
  refine g_aload_n hx hb d_LW_law_295 rfl rfl ?_
  refine g_iload_n hx hb d_LW_law_296 rfl rfl ?_
  refine g_iconst hx hb d_LW_law_297 k_iconst_1 ?_
  refine n_iadd hx hb d_LW_law_298 ?_
  refine g_sld hx hb hX hbl hbA (by omega) (by omega) d_LW_law_299 ?_
  refine g_aload_n hx hb d_LW_law_300 rfl rfl ?_
  refine g_iload_n hx hb d_LW_law_301 rfl rfl ?_
  refine g_iconst hx hb d_LW_law_302 k_iconst_2 ?_
  refine n_iadd hx hb d_LW_law_303 ?_
  refine g_sld hx hb hX hbl hbA (by omega) (by omega) d_LW_law_304 ?_
  refine g_callVi (C := "GroupViews") (nn := 2) ⟨hx, hb, hml.trans rfl, hown, hts⟩ (ct_GV_event l D ad ct had _ _ _ (cd_lt _) (cd_lt _)) (mk_V hts t_251 t_252 t_253 t_1 t_254 rfl rfl (by decide +kernel) ⟨Nat.le_of_ble_eq_true rfl, Nat.le_of_ble_eq_true rfl⟩) hK.1 rfl w_0 rfl hAA (gK_ok D ct) hK (Nat.le_of_ble_eq_true rfl) ⟨Nat.le_of_ble_eq_true rfl, Nat.le_of_ble_eq_true rfl⟩ rfl rfl d_LW_law_305 ?_
  intro r1 w1 h1
  obtain ⟨V1, rfl, hc⟩ := cv h1
  have hm : Rel V V1 := mid_ob h hc
  refine g_aload_n hx hb d_LW_law_308 rfl rfl ?_
  refine g_aload_n hx hb d_LW_law_309 rfl rfl ?_
  refine g_iload_n hx hb d_LW_law_310 rfl rfl ?_
  refine g_iconst hx hb d_LW_law_311 k_iconst_1 ?_
  refine n_iadd hx hb d_LW_law_312 ?_
  refine g_sld hx hb hX hbl hbA (by omega) (by omega) d_LW_law_313 ?_
  refine g_aload_n hx hb d_LW_law_314 rfl rfl ?_
  refine g_iload_n hx hb d_LW_law_315 rfl rfl ?_
  refine g_iconst hx hb d_LW_law_316 k_iconst_2 ?_
  refine n_iadd hx hb d_LW_law_317 ?_
  refine g_sld hx hb hX hbl hbA (by omega) (by omega) d_LW_law_318 ?_
  refine g_callVi (C := "GroupViewsModel") (nn := 2) ⟨hx, hb, hml.trans rfl, hown, hts⟩ (ct_MD_event l D ad ct had _ _ _ (cd_lt _) (cd_lt _)) (mk_V hts t_433 t_434 t_435 t_4 t_436 rfl rfl (by decide +kernel) ⟨Nat.le_of_ble_eq_true rfl, Nat.le_of_ble_eq_true rfl⟩) hK.1 rfl w_M rfl hAA (gK_ok D ct) hK (Nat.le_of_ble_eq_true rfl) ⟨Nat.le_of_ble_eq_true rfl, Nat.le_of_ble_eq_true rfl⟩ rfl rfl d_LW_law_319 ?_
  intro r2 w2 h2
  obtain ⟨V2, rfl, hr⟩ := cv h2
  obtain ⟨e12, h'⟩ := law_ob (P' := fun Y => (cd (xs (3 * t + 1))) < 4 ∧ (cd (xs (3 * t + 2))) < 4) (a := V (5 + 8 * (cd (xs (3 * t + 1))) + 7) (cd (xs (3 * t + 2)))) (b := fun Y => Y 79 (4 * (cd (xs (3 * t + 1))) + (cd (xs (3 * t + 2))))) h Iff.rfl (fun a => h.2.2.2.2.2.2.1 _ _ a.1 a.2) hc hr
  exact g_icmp_eq (tgt := 597) hx hb d_LW_law_322 (by decide) (fun _ => cont V2 h') (fun z => absurd e12 z)
set_option maxRecDepth 100000 in
set_option maxHeartbeats 4000000 in
theorem case_7 {p : Program} {l : Launch} {e : Env} {s : State} {m : MethodId} {below : List Frame} {meth : Method} {c : Code} {D : va_G} {ct : Nat → ClassId} {ad : Nat → Nat} {b L : Nat} {xs : Nat → Int32} {Q : State → Prop} (C : LC p s m c D ct ad b L xs) {V : VV} (h : Rel V V) {t : Nat} (ht : 3 * t + 3 ≤ L) (cont : ∀ V', Rel V' V' → G p l e room_1 s m #[Value.ref b] below meth c D vcl (fun q => s.heap.size ≤ q) 91 6692 Q (gw ad ct V') [some (.ref b), some (.ref (ad 0)), some (.ref (ad 69)), some (.int (nI (3 * t)))] 597 []) : G p l e room_1 s m #[Value.ref b] below meth c D vcl (fun q => s.heap.size ≤ q) 91 6692 Q (gw ad ct V) [some (.ref b), some (.ref (ad 0)), some (.ref (ad 69)), some (.int (nI (3 * t)))] 327 [] := by
  obtain ⟨hx, hb, hml, hown, hts, hK, had, hAd, hX, hbl, hL⟩ := C
  have hbA : ¬ (fun q => s.heap.size ≤ q) b := Nat.not_le.mpr hbl
  have hAA : ∀ q, gA ad q → (fun q => s.heap.size ≤ q) q := fun q hq => by obtain ⟨c, h1, rfl⟩ := hq; exact hAd c h1
  refine g_aload_n hx hb d_LW_law_327 rfl rfl ?_
  refine g_aload_n hx hb d_LW_law_328 rfl rfl ?_
  refine g_iload_n hx hb d_LW_law_329 rfl rfl ?_
  refine g_iconst hx hb d_LW_law_330 k_iconst_1 ?_
  refine n_iadd hx hb d_LW_law_331 ?_
  refine g_sld hx hb hX hbl hbA (by omega) (by omega) d_LW_law_332 ?_
  refine g_callVi (C := "GroupViews") (nn := 1) ⟨hx, hb, hml.trans rfl, hown, hts⟩ (ct_GV_view l D ad ct had _ _ (cd_lt _)) (mk_V hts t_255 t_256 t_257 t_1 t_258 rfl rfl (by decide +kernel) ⟨Nat.le_of_ble_eq_true rfl, Nat.le_of_ble_eq_true rfl⟩) hK.1 rfl w_0 rfl hAA (gK_ok D ct) hK (Nat.le_of_ble_eq_true rfl) ⟨Nat.le_of_ble_eq_true rfl, Nat.le_of_ble_eq_true rfl⟩ rfl rfl d_LW_law_333 ?_
  intro r1 w1 h1
  obtain ⟨V1, rfl, hc⟩ := cv h1
  have hm : Rel V V1 := mid_ob h hc
  refine g_aload_n hx hb d_LW_law_336 rfl rfl ?_
  refine g_aload_n hx hb d_LW_law_337 rfl rfl ?_
  refine g_iload_n hx hb d_LW_law_338 rfl rfl ?_
  refine g_iconst hx hb d_LW_law_339 k_iconst_1 ?_
  refine n_iadd hx hb d_LW_law_340 ?_
  refine g_sld hx hb hX hbl hbA (by omega) (by omega) d_LW_law_341 ?_
  refine g_callVi (C := "GroupViewsModel") (nn := 1) ⟨hx, hb, hml.trans rfl, hown, hts⟩ (ct_MD_view l D ad ct had _ _ (cd_lt _)) (mk_V hts t_437 t_438 t_439 t_4 t_440 rfl rfl (by decide +kernel) ⟨Nat.le_of_ble_eq_true rfl, Nat.le_of_ble_eq_true rfl⟩) hK.1 rfl w_M rfl hAA (gK_ok D ct) hK (Nat.le_of_ble_eq_true rfl) ⟨Nat.le_of_ble_eq_true rfl, Nat.le_of_ble_eq_true rfl⟩ rfl rfl d_LW_law_342 ?_
  intro r2 w2 h2
  obtain ⟨V2, rfl, hr⟩ := cv h2
  obtain ⟨e12, h'⟩ := law_ob (P' := fun Y => (cd (xs (3 * t + 1))) < 4) (a := V (5 + 8 * (cd (xs (3 * t + 1)))) 0) (b := fun Y => Y 70 (cd (xs (3 * t + 1)))) h Iff.rfl (fun a => (h.1 _ a).1) hc hr
  exact g_icmp_eq (tgt := 597) hx hb d_LW_law_345 (by decide) (fun _ => cont V2 h') (fun z => absurd e12 z)
set_option maxRecDepth 100000 in
set_option maxHeartbeats 4000000 in
theorem case_8 {p : Program} {l : Launch} {e : Env} {s : State} {m : MethodId} {below : List Frame} {meth : Method} {c : Code} {D : va_G} {ct : Nat → ClassId} {ad : Nat → Nat} {b L : Nat} {xs : Nat → Int32} {Q : State → Prop} (C : LC p s m c D ct ad b L xs) {V : VV} (h : Rel V V) {t : Nat} (ht : 3 * t + 3 ≤ L) (cont : ∀ V', Rel V' V' → G p l e room_1 s m #[Value.ref b] below meth c D vcl (fun q => s.heap.size ≤ q) 91 6692 Q (gw ad ct V') [some (.ref b), some (.ref (ad 0)), some (.ref (ad 69)), some (.int (nI (3 * t)))] 597 []) : G p l e room_1 s m #[Value.ref b] below meth c D vcl (fun q => s.heap.size ≤ q) 91 6692 Q (gw ad ct V) [some (.ref b), some (.ref (ad 0)), some (.ref (ad 69)), some (.int (nI (3 * t)))] 350 [] := by
  obtain ⟨hx, hb, hml, hown, hts, hK, had, hAd, hX, hbl, hL⟩ := C
  have hbA : ¬ (fun q => s.heap.size ≤ q) b := Nat.not_le.mpr hbl
  have hAA : ∀ q, gA ad q → (fun q => s.heap.size ≤ q) q := fun q hq => by obtain ⟨c, h1, rfl⟩ := hq; exact hAd c h1
  refine g_aload_n hx hb d_LW_law_350 rfl rfl ?_
  refine g_aload_n hx hb d_LW_law_351 rfl rfl ?_
  refine g_iload_n hx hb d_LW_law_352 rfl rfl ?_
  refine g_iconst hx hb d_LW_law_353 k_iconst_1 ?_
  refine n_iadd hx hb d_LW_law_354 ?_
  refine g_sld hx hb hX hbl hbA (by omega) (by omega) d_LW_law_355 ?_
  refine g_callVi (C := "GroupViews") (nn := 1) ⟨hx, hb, hml.trans rfl, hown, hts⟩ (ct_GV_members l D ad ct had _ _ (cd_lt _) h.cb) (mk_V hts t_259 t_260 t_261 t_1 t_262 rfl rfl (by decide +kernel) ⟨Nat.le_of_ble_eq_true rfl, Nat.le_of_ble_eq_true rfl⟩) hK.1 rfl w_0 rfl hAA (gK_ok D ct) hK (Nat.le_of_ble_eq_true rfl) ⟨Nat.le_of_ble_eq_true rfl, Nat.le_of_ble_eq_true rfl⟩ rfl rfl d_LW_law_356 ?_
  intro r1 w1 h1
  obtain ⟨V1, rfl, hc⟩ := cv h1
  have hm : Rel V V1 := mid_ob h hc
  refine g_aload_n hx hb d_LW_law_359 rfl rfl ?_
  refine g_aload_n hx hb d_LW_law_360 rfl rfl ?_
  refine g_iload_n hx hb d_LW_law_361 rfl rfl ?_
  refine g_iconst hx hb d_LW_law_362 k_iconst_1 ?_
  refine n_iadd hx hb d_LW_law_363 ?_
  refine g_sld hx hb hX hbl hbA (by omega) (by omega) d_LW_law_364 ?_
  refine g_callVi (C := "GroupViewsModel") (nn := 1) ⟨hx, hb, hml.trans rfl, hown, hts⟩ (ct_MD_members l D ad ct had _ _ (cd_lt _) hm.rb) (mk_V hts t_441 t_442 t_443 t_4 t_444 rfl rfl (by decide +kernel) ⟨Nat.le_of_ble_eq_true rfl, Nat.le_of_ble_eq_true rfl⟩) hK.1 rfl w_M rfl hAA (gK_ok D ct) hK (Nat.le_of_ble_eq_true rfl) ⟨Nat.le_of_ble_eq_true rfl, Nat.le_of_ble_eq_true rfl⟩ rfl rfl d_LW_law_365 ?_
  intro r2 w2 h2
  obtain ⟨V2, rfl, hr⟩ := cv h2
  obtain ⟨e12, h'⟩ := law_ob (P' := fun Y => 1 ≤ (cd (xs (3 * t + 1))) ∧ (cd (xs (3 * t + 1))) ≤ Y 69 10) (a := V 3 (cd (xs (3 * t + 1)))) (b := fun Y => Y 80 (cd (xs (3 * t + 1)))) h (by rw [h.2.1.1]) (fun a => h.2.1.2.1 _ (by have := h.cb.f; omega)) hc hr
  exact g_icmp_eq (tgt := 597) hx hb d_LW_law_368 (by decide) (fun _ => cont V2 h') (fun z => absurd e12 z)
set_option maxRecDepth 100000 in
set_option maxHeartbeats 4000000 in
theorem case_9 {p : Program} {l : Launch} {e : Env} {s : State} {m : MethodId} {below : List Frame} {meth : Method} {c : Code} {D : va_G} {ct : Nat → ClassId} {ad : Nat → Nat} {b L : Nat} {xs : Nat → Int32} {Q : State → Prop} (C : LC p s m c D ct ad b L xs) {V : VV} (h : Rel V V) {t : Nat} (ht : 3 * t + 3 ≤ L) (cont : ∀ V', Rel V' V' → G p l e room_1 s m #[Value.ref b] below meth c D vcl (fun q => s.heap.size ≤ q) 91 6692 Q (gw ad ct V') [some (.ref b), some (.ref (ad 0)), some (.ref (ad 69)), some (.int (nI (3 * t)))] 597 []) : G p l e room_1 s m #[Value.ref b] below meth c D vcl (fun q => s.heap.size ≤ q) 91 6692 Q (gw ad ct V) [some (.ref b), some (.ref (ad 0)), some (.ref (ad 69)), some (.int (nI (3 * t)))] 373 [] := by
  obtain ⟨hx, hb, hml, hown, hts, hK, had, hAd, hX, hbl, hL⟩ := C
  have hbA : ¬ (fun q => s.heap.size ≤ q) b := Nat.not_le.mpr hbl
  have hAA : ∀ q, gA ad q → (fun q => s.heap.size ≤ q) q := fun q hq => by obtain ⟨c, h1, rfl⟩ := hq; exact hAd c h1
  refine g_aload_n hx hb d_LW_law_373 rfl rfl ?_
  refine g_aload_n hx hb d_LW_law_374 rfl rfl ?_
  refine g_iload_n hx hb d_LW_law_375 rfl rfl ?_
  refine g_iconst hx hb d_LW_law_376 k_iconst_1 ?_
  refine n_iadd hx hb d_LW_law_377 ?_
  refine g_sld hx hb hX hbl hbA (by omega) (by omega) d_LW_law_378 ?_
  refine g_aload_n hx hb d_LW_law_379 rfl rfl ?_
  refine g_iload_n hx hb d_LW_law_380 rfl rfl ?_
  refine g_iconst hx hb d_LW_law_381 k_iconst_2 ?_
  refine n_iadd hx hb d_LW_law_382 ?_
  refine g_sld hx hb hX hbl hbA (by omega) (by omega) d_LW_law_383 ?_
  refine g_callVi (C := "GroupViews") (nn := 2) ⟨hx, hb, hml.trans rfl, hown, hts⟩ (ct_GV_start l D ad ct had _ _ _ (cd_lt _) (cd_lt _) h.cb) (mk_V hts t_263 t_264 t_265 t_1 t_266 rfl rfl (by decide +kernel) ⟨Nat.le_of_ble_eq_true rfl, Nat.le_of_ble_eq_true rfl⟩) hK.1 rfl w_0 rfl hAA (gK_ok D ct) hK (Nat.le_of_ble_eq_true rfl) ⟨Nat.le_of_ble_eq_true rfl, Nat.le_of_ble_eq_true rfl⟩ rfl rfl d_LW_law_384 ?_
  intro r1 w1 h1
  obtain ⟨V1, rfl, hc⟩ := cv h1
  have hm : Rel V V1 := mid_ob h hc
  refine g_aload_n hx hb d_LW_law_387 rfl rfl ?_
  refine g_aload_n hx hb d_LW_law_388 rfl rfl ?_
  refine g_iload_n hx hb d_LW_law_389 rfl rfl ?_
  refine g_iconst hx hb d_LW_law_390 k_iconst_1 ?_
  refine n_iadd hx hb d_LW_law_391 ?_
  refine g_sld hx hb hX hbl hbA (by omega) (by omega) d_LW_law_392 ?_
  refine g_aload_n hx hb d_LW_law_393 rfl rfl ?_
  refine g_iload_n hx hb d_LW_law_394 rfl rfl ?_
  refine g_iconst hx hb d_LW_law_395 k_iconst_2 ?_
  refine n_iadd hx hb d_LW_law_396 ?_
  refine g_sld hx hb hX hbl hbA (by omega) (by omega) d_LW_law_397 ?_
  refine g_callVi (C := "GroupViewsModel") (nn := 2) ⟨hx, hb, hml.trans rfl, hown, hts⟩ (ct_MD_start l D ad ct had _ _ _ (cd_lt _) (cd_lt _) hm.rb) (mk_V hts t_445 t_446 t_447 t_4 t_448 rfl rfl (by decide +kernel) ⟨Nat.le_of_ble_eq_true rfl, Nat.le_of_ble_eq_true rfl⟩) hK.1 rfl w_M rfl hAA (gK_ok D ct) hK (Nat.le_of_ble_eq_true rfl) ⟨Nat.le_of_ble_eq_true rfl, Nat.le_of_ble_eq_true rfl⟩ rfl rfl d_LW_law_398 ?_
  intro r2 w2 h2
  obtain ⟨V2, rfl, hr⟩ := cv h2
  obtain ⟨e12, h'⟩ := law_ob (P' := fun Y => (1 ≤ (cd (xs (3 * t + 1))) ∧ (cd (xs (3 * t + 1))) ≤ Y 69 10) ∧ (cd (xs (3 * t + 2))) < 4) (a := V 4 ((cd (xs (3 * t + 1))) * 4 + (cd (xs (3 * t + 2))))) (b := fun Y => Y 81 (4 * (cd (xs (3 * t + 1))) + (cd (xs (3 * t + 2))))) h (by rw [h.2.1.1]) (fun a => h.2.1.2.2 _ _ (by have := h.cb.f; omega) a.2) hc hr
  exact g_icmp_eq (tgt := 597) hx hb d_LW_law_401 (by decide) (fun _ => cont V2 h') (fun z => absurd e12 z)
set_option maxRecDepth 100000 in
set_option maxHeartbeats 4000000 in
theorem case_10 {p : Program} {l : Launch} {e : Env} {s : State} {m : MethodId} {below : List Frame} {meth : Method} {c : Code} {D : va_G} {ct : Nat → ClassId} {ad : Nat → Nat} {b L : Nat} {xs : Nat → Int32} {Q : State → Prop} (C : LC p s m c D ct ad b L xs) {V : VV} (h : Rel V V) {t : Nat} (ht : 3 * t + 3 ≤ L) (cont : ∀ V', Rel V' V' → G p l e room_1 s m #[Value.ref b] below meth c D vcl (fun q => s.heap.size ≤ q) 91 6692 Q (gw ad ct V') [some (.ref b), some (.ref (ad 0)), some (.ref (ad 69)), some (.int (nI (3 * t)))] 597 []) : G p l e room_1 s m #[Value.ref b] below meth c D vcl (fun q => s.heap.size ≤ q) 91 6692 Q (gw ad ct V) [some (.ref b), some (.ref (ad 0)), some (.ref (ad 69)), some (.int (nI (3 * t)))] 406 [] := by
  obtain ⟨hx, hb, hml, hown, hts, hK, had, hAd, hX, hbl, hL⟩ := C
  have hbA : ¬ (fun q => s.heap.size ≤ q) b := Nat.not_le.mpr hbl
  have hAA : ∀ q, gA ad q → (fun q => s.heap.size ≤ q) q := fun q hq => by obtain ⟨c, h1, rfl⟩ := hq; exact hAd c h1
  refine g_aload_n hx hb d_LW_law_406 rfl rfl ?_
  refine g_aload_n hx hb d_LW_law_407 rfl rfl ?_
  refine g_iload_n hx hb d_LW_law_408 rfl rfl ?_
  refine g_iconst hx hb d_LW_law_409 k_iconst_1 ?_
  refine n_iadd hx hb d_LW_law_410 ?_
  refine g_sld hx hb hX hbl hbA (by omega) (by omega) d_LW_law_411 ?_
  refine g_callVi (C := "GroupViews") (nn := 1) ⟨hx, hb, hml.trans rfl, hown, hts⟩ (ct_GV_blocked l D ad ct had _ _ (cd_lt _) h.cb) (mk_V hts t_267 t_268 t_269 t_1 t_270 rfl rfl (by decide +kernel) ⟨Nat.le_of_ble_eq_true rfl, Nat.le_of_ble_eq_true rfl⟩) hK.1 rfl w_0 rfl hAA (gK_ok D ct) hK (Nat.le_of_ble_eq_true rfl) ⟨Nat.le_of_ble_eq_true rfl, Nat.le_of_ble_eq_true rfl⟩ rfl rfl d_LW_law_412 ?_
  intro r1 w1 h1
  obtain ⟨V1, rfl, hc⟩ := cv h1
  have hm : Rel V V1 := mid_ob h hc
  refine g_aload_n hx hb d_LW_law_415 rfl rfl ?_
  refine g_aload_n hx hb d_LW_law_416 rfl rfl ?_
  refine g_iload_n hx hb d_LW_law_417 rfl rfl ?_
  refine g_iconst hx hb d_LW_law_418 k_iconst_1 ?_
  refine n_iadd hx hb d_LW_law_419 ?_
  refine g_sld hx hb hX hbl hbA (by omega) (by omega) d_LW_law_420 ?_
  refine g_callVi (C := "GroupViewsModel") (nn := 1) ⟨hx, hb, hml.trans rfl, hown, hts⟩ (ct_MD_blocked l D ad ct had _ _ (cd_lt _) hm.rb) (mk_V hts t_449 t_450 t_451 t_4 t_452 rfl rfl (by decide +kernel) ⟨Nat.le_of_ble_eq_true rfl, Nat.le_of_ble_eq_true rfl⟩) hK.1 rfl w_M rfl hAA (gK_ok D ct) hK (Nat.le_of_ble_eq_true rfl) ⟨Nat.le_of_ble_eq_true rfl, Nat.le_of_ble_eq_true rfl⟩ rfl rfl d_LW_law_421 ?_
  intro r2 w2 h2
  obtain ⟨V2, rfl, hr⟩ := cv h2
  obtain ⟨e12, h'⟩ := law_ob (P' := fun Y => (cd (xs (3 * t + 1))) < 4) (a := V (5 + 8 * (cd (xs (3 * t + 1)))) 4) (b := fun Y => Y 74 (cd (xs (3 * t + 1)))) h Iff.rfl (fun a => (h.1 _ a).2.2.2.2.1) hc hr
  exact g_icmp_eq (tgt := 597) hx hb d_LW_law_424 (by decide) (fun _ => cont V2 h') (fun z => absurd e12 z)
set_option maxRecDepth 100000 in
set_option maxHeartbeats 4000000 in
theorem case_11 {p : Program} {l : Launch} {e : Env} {s : State} {m : MethodId} {below : List Frame} {meth : Method} {c : Code} {D : va_G} {ct : Nat → ClassId} {ad : Nat → Nat} {b L : Nat} {xs : Nat → Int32} {Q : State → Prop} (C : LC p s m c D ct ad b L xs) {V : VV} (h : Rel V V) {t : Nat} (ht : 3 * t + 3 ≤ L) (cont : ∀ V', Rel V' V' → G p l e room_1 s m #[Value.ref b] below meth c D vcl (fun q => s.heap.size ≤ q) 91 6692 Q (gw ad ct V') [some (.ref b), some (.ref (ad 0)), some (.ref (ad 69)), some (.int (nI (3 * t)))] 597 []) : G p l e room_1 s m #[Value.ref b] below meth c D vcl (fun q => s.heap.size ≤ q) 91 6692 Q (gw ad ct V) [some (.ref b), some (.ref (ad 0)), some (.ref (ad 69)), some (.int (nI (3 * t)))] 429 [] := by
  obtain ⟨hx, hb, hml, hown, hts, hK, had, hAd, hX, hbl, hL⟩ := C
  have hbA : ¬ (fun q => s.heap.size ≤ q) b := Nat.not_le.mpr hbl
  have hAA : ∀ q, gA ad q → (fun q => s.heap.size ≤ q) q := fun q hq => by obtain ⟨c, h1, rfl⟩ := hq; exact hAd c h1
  refine g_aload_n hx hb d_LW_law_429 rfl rfl ?_
  refine g_aload_n hx hb d_LW_law_430 rfl rfl ?_
  refine g_iload_n hx hb d_LW_law_431 rfl rfl ?_
  refine g_iconst hx hb d_LW_law_432 k_iconst_1 ?_
  refine n_iadd hx hb d_LW_law_433 ?_
  refine g_sld hx hb hX hbl hbA (by omega) (by omega) d_LW_law_434 ?_
  refine g_callVi (C := "GroupViews") (nn := 1) ⟨hx, hb, hml.trans rfl, hown, hts⟩ (ct_GV_pending l D ad ct had _ _ (cd_lt _)) (mk_V hts t_271 t_272 t_273 t_1 t_274 rfl rfl (by decide +kernel) ⟨Nat.le_of_ble_eq_true rfl, Nat.le_of_ble_eq_true rfl⟩) hK.1 rfl w_0 rfl hAA (gK_ok D ct) hK (Nat.le_of_ble_eq_true rfl) ⟨Nat.le_of_ble_eq_true rfl, Nat.le_of_ble_eq_true rfl⟩ rfl rfl d_LW_law_435 ?_
  intro r1 w1 h1
  obtain ⟨V1, rfl, hc⟩ := cv h1
  have hm : Rel V V1 := mid_ob h hc
  refine g_aload_n hx hb d_LW_law_438 rfl rfl ?_
  refine g_aload_n hx hb d_LW_law_439 rfl rfl ?_
  refine g_iload_n hx hb d_LW_law_440 rfl rfl ?_
  refine g_iconst hx hb d_LW_law_441 k_iconst_1 ?_
  refine n_iadd hx hb d_LW_law_442 ?_
  refine g_sld hx hb hX hbl hbA (by omega) (by omega) d_LW_law_443 ?_
  refine g_callVi (C := "GroupViewsModel") (nn := 1) ⟨hx, hb, hml.trans rfl, hown, hts⟩ (ct_MD_pending l D ad ct had _ _ (cd_lt _)) (mk_V hts t_453 t_454 t_455 t_4 t_456 rfl rfl (by decide +kernel) ⟨Nat.le_of_ble_eq_true rfl, Nat.le_of_ble_eq_true rfl⟩) hK.1 rfl w_M rfl hAA (gK_ok D ct) hK (Nat.le_of_ble_eq_true rfl) ⟨Nat.le_of_ble_eq_true rfl, Nat.le_of_ble_eq_true rfl⟩ rfl rfl d_LW_law_444 ?_
  intro r2 w2 h2
  obtain ⟨V2, rfl, hr⟩ := cv h2
  obtain ⟨e12, h'⟩ := law_ob (P' := fun Y => (cd (xs (3 * t + 1))) < 4) (a := V (5 + 8 * (cd (xs (3 * t + 1)))) 5) (b := fun Y => Y 75 (cd (xs (3 * t + 1)))) h Iff.rfl (fun a => (h.1 _ a).2.2.2.2.2.1) hc hr
  exact g_icmp_eq (tgt := 597) hx hb d_LW_law_447 (by decide) (fun _ => cont V2 h') (fun z => absurd e12 z)
set_option maxRecDepth 100000 in
set_option maxHeartbeats 4000000 in
theorem case_12 {p : Program} {l : Launch} {e : Env} {s : State} {m : MethodId} {below : List Frame} {meth : Method} {c : Code} {D : va_G} {ct : Nat → ClassId} {ad : Nat → Nat} {b L : Nat} {xs : Nat → Int32} {Q : State → Prop} (C : LC p s m c D ct ad b L xs) {V : VV} (h : Rel V V) {t : Nat} (ht : 3 * t + 3 ≤ L) (cont : ∀ V', Rel V' V' → G p l e room_1 s m #[Value.ref b] below meth c D vcl (fun q => s.heap.size ≤ q) 91 6692 Q (gw ad ct V') [some (.ref b), some (.ref (ad 0)), some (.ref (ad 69)), some (.int (nI (3 * t)))] 597 []) : G p l e room_1 s m #[Value.ref b] below meth c D vcl (fun q => s.heap.size ≤ q) 91 6692 Q (gw ad ct V) [some (.ref b), some (.ref (ad 0)), some (.ref (ad 69)), some (.int (nI (3 * t)))] 452 [] := by
  obtain ⟨hx, hb, hml, hown, hts, hK, had, hAd, hX, hbl, hL⟩ := C
  have hbA : ¬ (fun q => s.heap.size ≤ q) b := Nat.not_le.mpr hbl
  have hAA : ∀ q, gA ad q → (fun q => s.heap.size ≤ q) q := fun q hq => by obtain ⟨c, h1, rfl⟩ := hq; exact hAd c h1
  refine g_aload_n hx hb d_LW_law_452 rfl rfl ?_
  refine g_aload_n hx hb d_LW_law_453 rfl rfl ?_
  refine g_iload_n hx hb d_LW_law_454 rfl rfl ?_
  refine g_iconst hx hb d_LW_law_455 k_iconst_1 ?_
  refine n_iadd hx hb d_LW_law_456 ?_
  refine g_sld hx hb hX hbl hbA (by omega) (by omega) d_LW_law_457 ?_
  refine g_callVi (C := "GroupViews") (nn := 1) ⟨hx, hb, hml.trans rfl, hown, hts⟩ (ct_GV_changes l D ad ct had _ _ (cd_lt _)) (mk_V hts t_275 t_276 t_277 t_1 t_278 rfl rfl (by decide +kernel) ⟨Nat.le_of_ble_eq_true rfl, Nat.le_of_ble_eq_true rfl⟩) hK.1 rfl w_0 rfl hAA (gK_ok D ct) hK (Nat.le_of_ble_eq_true rfl) ⟨Nat.le_of_ble_eq_true rfl, Nat.le_of_ble_eq_true rfl⟩ rfl rfl d_LW_law_458 ?_
  intro r1 w1 h1
  obtain ⟨V1, rfl, hc⟩ := cv h1
  have hm : Rel V V1 := mid_ob h hc
  refine g_aload_n hx hb d_LW_law_461 rfl rfl ?_
  refine g_aload_n hx hb d_LW_law_462 rfl rfl ?_
  refine g_iload_n hx hb d_LW_law_463 rfl rfl ?_
  refine g_iconst hx hb d_LW_law_464 k_iconst_1 ?_
  refine n_iadd hx hb d_LW_law_465 ?_
  refine g_sld hx hb hX hbl hbA (by omega) (by omega) d_LW_law_466 ?_
  refine g_callVi (C := "GroupViewsModel") (nn := 1) ⟨hx, hb, hml.trans rfl, hown, hts⟩ (ct_MD_changes l D ad ct had _ _ (cd_lt _)) (mk_V hts t_457 t_458 t_459 t_4 t_460 rfl rfl (by decide +kernel) ⟨Nat.le_of_ble_eq_true rfl, Nat.le_of_ble_eq_true rfl⟩) hK.1 rfl w_M rfl hAA (gK_ok D ct) hK (Nat.le_of_ble_eq_true rfl) ⟨Nat.le_of_ble_eq_true rfl, Nat.le_of_ble_eq_true rfl⟩ rfl rfl d_LW_law_467 ?_
  intro r2 w2 h2
  obtain ⟨V2, rfl, hr⟩ := cv h2
  obtain ⟨e12, h'⟩ := law_ob (P' := fun Y => (cd (xs (3 * t + 1))) < 4) (a := V (5 + 8 * (cd (xs (3 * t + 1)))) 1) (b := fun Y => Y 71 (cd (xs (3 * t + 1)))) h Iff.rfl (fun a => (h.1 _ a).2.1) hc hr
  exact g_icmp_eq (tgt := 597) hx hb d_LW_law_470 (by decide) (fun _ => cont V2 h') (fun z => absurd e12 z)
set_option maxRecDepth 100000 in
set_option maxHeartbeats 4000000 in
theorem case_13 {p : Program} {l : Launch} {e : Env} {s : State} {m : MethodId} {below : List Frame} {meth : Method} {c : Code} {D : va_G} {ct : Nat → ClassId} {ad : Nat → Nat} {b L : Nat} {xs : Nat → Int32} {Q : State → Prop} (C : LC p s m c D ct ad b L xs) {V : VV} (h : Rel V V) {t : Nat} (ht : 3 * t + 3 ≤ L) (cont : ∀ V', Rel V' V' → G p l e room_1 s m #[Value.ref b] below meth c D vcl (fun q => s.heap.size ≤ q) 91 6692 Q (gw ad ct V') [some (.ref b), some (.ref (ad 0)), some (.ref (ad 69)), some (.int (nI (3 * t)))] 597 []) : G p l e room_1 s m #[Value.ref b] below meth c D vcl (fun q => s.heap.size ≤ q) 91 6692 Q (gw ad ct V) [some (.ref b), some (.ref (ad 0)), some (.ref (ad 69)), some (.int (nI (3 * t)))] 475 [] := by
  obtain ⟨hx, hb, hml, hown, hts, hK, had, hAd, hX, hbl, hL⟩ := C
  have hbA : ¬ (fun q => s.heap.size ≤ q) b := Nat.not_le.mpr hbl
  have hAA : ∀ q, gA ad q → (fun q => s.heap.size ≤ q) q := fun q hq => by obtain ⟨c, h1, rfl⟩ := hq; exact hAd c h1
  refine g_aload_n hx hb d_LW_law_475 rfl rfl ?_
  refine g_aload_n hx hb d_LW_law_476 rfl rfl ?_
  refine g_iload_n hx hb d_LW_law_477 rfl rfl ?_
  refine g_iconst hx hb d_LW_law_478 k_iconst_1 ?_
  refine n_iadd hx hb d_LW_law_479 ?_
  refine g_sld hx hb hX hbl hbA (by omega) (by omega) d_LW_law_480 ?_
  refine g_callVi (C := "GroupViews") (nn := 1) ⟨hx, hb, hml.trans rfl, hown, hts⟩ (ct_GV_sent l D ad ct had _ _ (cd_lt _)) (mk_V hts t_279 t_280 t_281 t_1 t_282 rfl rfl (by decide +kernel) ⟨Nat.le_of_ble_eq_true rfl, Nat.le_of_ble_eq_true rfl⟩) hK.1 rfl w_0 rfl hAA (gK_ok D ct) hK (Nat.le_of_ble_eq_true rfl) ⟨Nat.le_of_ble_eq_true rfl, Nat.le_of_ble_eq_true rfl⟩ rfl rfl d_LW_law_481 ?_
  intro r1 w1 h1
  obtain ⟨V1, rfl, hc⟩ := cv h1
  have hm : Rel V V1 := mid_ob h hc
  refine g_aload_n hx hb d_LW_law_484 rfl rfl ?_
  refine g_aload_n hx hb d_LW_law_485 rfl rfl ?_
  refine g_iload_n hx hb d_LW_law_486 rfl rfl ?_
  refine g_iconst hx hb d_LW_law_487 k_iconst_1 ?_
  refine n_iadd hx hb d_LW_law_488 ?_
  refine g_sld hx hb hX hbl hbA (by omega) (by omega) d_LW_law_489 ?_
  refine g_callVi (C := "GroupViewsModel") (nn := 1) ⟨hx, hb, hml.trans rfl, hown, hts⟩ (ct_MD_sent l D ad ct had _ _ (cd_lt _)) (mk_V hts t_461 t_462 t_463 t_4 t_464 rfl rfl (by decide +kernel) ⟨Nat.le_of_ble_eq_true rfl, Nat.le_of_ble_eq_true rfl⟩) hK.1 rfl w_M rfl hAA (gK_ok D ct) hK (Nat.le_of_ble_eq_true rfl) ⟨Nat.le_of_ble_eq_true rfl, Nat.le_of_ble_eq_true rfl⟩ rfl rfl d_LW_law_490 ?_
  intro r2 w2 h2
  obtain ⟨V2, rfl, hr⟩ := cv h2
  obtain ⟨e12, h'⟩ := law_ob (P' := fun Y => (cd (xs (3 * t + 1))) < 4) (a := V (5 + 8 * (cd (xs (3 * t + 1)))) 7) (b := fun Y => Y 77 (cd (xs (3 * t + 1)))) h Iff.rfl (fun a => (h.1 _ a).2.2.2.2.2.2.2.1) hc hr
  exact g_icmp_eq (tgt := 597) hx hb d_LW_law_493 (by decide) (fun _ => cont V2 h') (fun z => absurd e12 z)
set_option maxRecDepth 100000 in
set_option maxHeartbeats 4000000 in
theorem case_14 {p : Program} {l : Launch} {e : Env} {s : State} {m : MethodId} {below : List Frame} {meth : Method} {c : Code} {D : va_G} {ct : Nat → ClassId} {ad : Nat → Nat} {b L : Nat} {xs : Nat → Int32} {Q : State → Prop} (C : LC p s m c D ct ad b L xs) {V : VV} (h : Rel V V) {t : Nat} (ht : 3 * t + 3 ≤ L) (cont : ∀ V', Rel V' V' → G p l e room_1 s m #[Value.ref b] below meth c D vcl (fun q => s.heap.size ≤ q) 91 6692 Q (gw ad ct V') [some (.ref b), some (.ref (ad 0)), some (.ref (ad 69)), some (.int (nI (3 * t)))] 597 []) : G p l e room_1 s m #[Value.ref b] below meth c D vcl (fun q => s.heap.size ≤ q) 91 6692 Q (gw ad ct V) [some (.ref b), some (.ref (ad 0)), some (.ref (ad 69)), some (.int (nI (3 * t)))] 498 [] := by
  obtain ⟨hx, hb, hml, hown, hts, hK, had, hAd, hX, hbl, hL⟩ := C
  have hbA : ¬ (fun q => s.heap.size ≤ q) b := Nat.not_le.mpr hbl
  have hAA : ∀ q, gA ad q → (fun q => s.heap.size ≤ q) q := fun q hq => by obtain ⟨c, h1, rfl⟩ := hq; exact hAd c h1
  refine g_aload_n hx hb d_LW_law_498 rfl rfl ?_
  refine g_aload_n hx hb d_LW_law_499 rfl rfl ?_
  refine g_iload_n hx hb d_LW_law_500 rfl rfl ?_
  refine g_iconst hx hb d_LW_law_501 k_iconst_1 ?_
  refine n_iadd hx hb d_LW_law_502 ?_
  refine g_sld hx hb hX hbl hbA (by omega) (by omega) d_LW_law_503 ?_
  refine g_aload_n hx hb d_LW_law_504 rfl rfl ?_
  refine g_iload_n hx hb d_LW_law_505 rfl rfl ?_
  refine g_iconst hx hb d_LW_law_506 k_iconst_2 ?_
  refine n_iadd hx hb d_LW_law_507 ?_
  refine g_sld hx hb hX hbl hbA (by omega) (by omega) d_LW_law_508 ?_
  refine g_callVi (C := "GroupViews") (nn := 2) ⟨hx, hb, hml.trans rfl, hown, hts⟩ (ct_GV_delivered l D ad ct had _ _ _ (cd_lt _) (cd_lt _) h.cb) (mk_V hts t_283 t_284 t_285 t_1 t_286 rfl rfl (by decide +kernel) ⟨Nat.le_of_ble_eq_true rfl, Nat.le_of_ble_eq_true rfl⟩) hK.1 rfl w_0 rfl hAA (gK_ok D ct) hK (Nat.le_of_ble_eq_true rfl) ⟨Nat.le_of_ble_eq_true rfl, Nat.le_of_ble_eq_true rfl⟩ rfl rfl d_LW_law_509 ?_
  intro r1 w1 h1
  obtain ⟨V1, rfl, hc⟩ := cv h1
  have hm : Rel V V1 := mid_ob h hc
  refine g_aload_n hx hb d_LW_law_512 rfl rfl ?_
  refine g_aload_n hx hb d_LW_law_513 rfl rfl ?_
  refine g_iload_n hx hb d_LW_law_514 rfl rfl ?_
  refine g_iconst hx hb d_LW_law_515 k_iconst_1 ?_
  refine n_iadd hx hb d_LW_law_516 ?_
  refine g_sld hx hb hX hbl hbA (by omega) (by omega) d_LW_law_517 ?_
  refine g_aload_n hx hb d_LW_law_518 rfl rfl ?_
  refine g_iload_n hx hb d_LW_law_519 rfl rfl ?_
  refine g_iconst hx hb d_LW_law_520 k_iconst_2 ?_
  refine n_iadd hx hb d_LW_law_521 ?_
  refine g_sld hx hb hX hbl hbA (by omega) (by omega) d_LW_law_522 ?_
  refine g_callVi (C := "GroupViewsModel") (nn := 2) ⟨hx, hb, hml.trans rfl, hown, hts⟩ (ct_MD_delivered l D ad ct had _ _ _ (cd_lt _) (cd_lt _)) (mk_V hts t_465 t_466 t_467 t_4 t_468 rfl rfl (by decide +kernel) ⟨Nat.le_of_ble_eq_true rfl, Nat.le_of_ble_eq_true rfl⟩) hK.1 rfl w_M rfl hAA (gK_ok D ct) hK (Nat.le_of_ble_eq_true rfl) ⟨Nat.le_of_ble_eq_true rfl, Nat.le_of_ble_eq_true rfl⟩ rfl rfl d_LW_law_523 ?_
  intro r2 w2 h2
  obtain ⟨V2, rfl, hr⟩ := cv h2
  obtain ⟨e12, h'⟩ := law_ob (P' := fun Y => (cd (xs (3 * t + 1))) < 4 ∧ (cd (xs (3 * t + 2))) < 4) (a := cnt (V (5 + 8 * (cd (xs (3 * t + 1)))) 8) (cd (xs (3 * t + 2)))) (b := fun Y => Y 78 (4 * (cd (xs (3 * t + 1))) + (cd (xs (3 * t + 2))))) h Iff.rfl (fun a => (h.1 _ a.1).2.2.2.2.2.2.2.2.2 _ a.2) hc hr
  exact g_icmp_eq (tgt := 597) hx hb d_LW_law_526 (by decide) (fun _ => cont V2 h') (fun z => absurd e12 z)
set_option maxRecDepth 100000 in
set_option maxHeartbeats 4000000 in
theorem case_15 {p : Program} {l : Launch} {e : Env} {s : State} {m : MethodId} {below : List Frame} {meth : Method} {c : Code} {D : va_G} {ct : Nat → ClassId} {ad : Nat → Nat} {b L : Nat} {xs : Nat → Int32} {Q : State → Prop} (C : LC p s m c D ct ad b L xs) {V : VV} (h : Rel V V) {t : Nat} (ht : 3 * t + 3 ≤ L) (cont : ∀ V', Rel V' V' → G p l e room_1 s m #[Value.ref b] below meth c D vcl (fun q => s.heap.size ≤ q) 91 6692 Q (gw ad ct V') [some (.ref b), some (.ref (ad 0)), some (.ref (ad 69)), some (.int (nI (3 * t)))] 597 []) : G p l e room_1 s m #[Value.ref b] below meth c D vcl (fun q => s.heap.size ≤ q) 91 6692 Q (gw ad ct V) [some (.ref b), some (.ref (ad 0)), some (.ref (ad 69)), some (.int (nI (3 * t)))] 531 [] := by
  obtain ⟨hx, hb, hml, hown, hts, hK, had, hAd, hX, hbl, hL⟩ := C
  have hbA : ¬ (fun q => s.heap.size ≤ q) b := Nat.not_le.mpr hbl
  have hAA : ∀ q, gA ad q → (fun q => s.heap.size ≤ q) q := fun q hq => by obtain ⟨c, h1, rfl⟩ := hq; exact hAd c h1
  refine g_aload_n hx hb d_LW_law_531 rfl rfl ?_
  refine g_aload_n hx hb d_LW_law_532 rfl rfl ?_
  refine g_iload_n hx hb d_LW_law_533 rfl rfl ?_
  refine g_iconst hx hb d_LW_law_534 k_iconst_1 ?_
  refine n_iadd hx hb d_LW_law_535 ?_
  refine g_sld hx hb hX hbl hbA (by omega) (by omega) d_LW_law_536 ?_
  refine g_aload_n hx hb d_LW_law_537 rfl rfl ?_
  refine g_iload_n hx hb d_LW_law_538 rfl rfl ?_
  refine g_iconst hx hb d_LW_law_539 k_iconst_2 ?_
  refine n_iadd hx hb d_LW_law_540 ?_
  refine g_sld hx hb hX hbl hbA (by omega) (by omega) d_LW_law_541 ?_
  refine g_callVi (C := "GroupViews") (nn := 2) ⟨hx, hb, hml.trans rfl, hown, hts⟩ (ct_GV_known l D ad ct had _ _ _ (cd_lt _) (cd_lt _) h.cb) (mk_V hts t_287 t_288 t_289 t_1 t_290 rfl rfl (by decide +kernel) ⟨Nat.le_of_ble_eq_true rfl, Nat.le_of_ble_eq_true rfl⟩) hK.1 rfl w_0 rfl hAA (gK_ok D ct) hK (Nat.le_of_ble_eq_true rfl) ⟨Nat.le_of_ble_eq_true rfl, Nat.le_of_ble_eq_true rfl⟩ rfl rfl d_LW_law_542 ?_
  intro r1 w1 h1
  obtain ⟨V1, rfl, hc⟩ := cv h1
  have hm : Rel V V1 := mid_ob h hc
  refine g_aload_n hx hb d_LW_law_545 rfl rfl ?_
  refine g_aload_n hx hb d_LW_law_546 rfl rfl ?_
  refine g_iload_n hx hb d_LW_law_547 rfl rfl ?_
  refine g_iconst hx hb d_LW_law_548 k_iconst_1 ?_
  refine n_iadd hx hb d_LW_law_549 ?_
  refine g_sld hx hb hX hbl hbA (by omega) (by omega) d_LW_law_550 ?_
  refine g_aload_n hx hb d_LW_law_551 rfl rfl ?_
  refine g_iload_n hx hb d_LW_law_552 rfl rfl ?_
  refine g_iconst hx hb d_LW_law_553 k_iconst_2 ?_
  refine n_iadd hx hb d_LW_law_554 ?_
  refine g_sld hx hb hX hbl hbA (by omega) (by omega) d_LW_law_555 ?_
  refine g_callVi (C := "GroupViewsModel") (nn := 2) ⟨hx, hb, hml.trans rfl, hown, hts⟩ (ct_MD_known l D ad ct had _ _ _ (cd_lt _) (cd_lt _) hm.rb) (mk_V hts t_469 t_470 t_471 t_4 t_472 rfl rfl (by decide +kernel) ⟨Nat.le_of_ble_eq_true rfl, Nat.le_of_ble_eq_true rfl⟩) hK.1 rfl w_M rfl hAA (gK_ok D ct) hK (Nat.le_of_ble_eq_true rfl) ⟨Nat.le_of_ble_eq_true rfl, Nat.le_of_ble_eq_true rfl⟩ rfl rfl d_LW_law_556 ?_
  intro r2 w2 h2
  obtain ⟨V2, rfl, hr⟩ := cv h2
  obtain ⟨e12, h'⟩ := law_ob (P' := fun Y => (cd (xs (3 * t + 1))) < 4 ∧ (cd (xs (3 * t + 2))) < 4) (a := popc (V (5 + 8 * (cd (xs (3 * t + 1))) + 1) (V (5 + 8 * (cd (xs (3 * t + 1)))) 0 * 4 + (cd (xs (3 * t + 2)))))) (b := fun Y => rcn Y (256 * (cd (xs (3 * t + 1))) + 16 * Y 70 (cd (xs (3 * t + 1))) + 4 * (cd (xs (3 * t + 2)))) 4) h Iff.rfl (fun a => by have hv := (h.cb.p _ a.1).1; rw [(h.1 _ a.1).1] at hv ⊢; exact popc_eq h a.1 (by omega) a.2) hc hr
  exact g_icmp_eq (tgt := 597) hx hb d_LW_law_559 (by decide) (fun _ => cont V2 h') (fun z => absurd e12 z)
set_option maxRecDepth 100000 in
set_option maxHeartbeats 4000000 in
theorem case_16 {p : Program} {l : Launch} {e : Env} {s : State} {m : MethodId} {below : List Frame} {meth : Method} {c : Code} {D : va_G} {ct : Nat → ClassId} {ad : Nat → Nat} {b L : Nat} {xs : Nat → Int32} {Q : State → Prop} (C : LC p s m c D ct ad b L xs) {V : VV} (h : Rel V V) {t : Nat} (ht : 3 * t + 3 ≤ L) (cont : ∀ V', Rel V' V' → G p l e room_1 s m #[Value.ref b] below meth c D vcl (fun q => s.heap.size ≤ q) 91 6692 Q (gw ad ct V') [some (.ref b), some (.ref (ad 0)), some (.ref (ad 69)), some (.int (nI (3 * t)))] 597 []) : G p l e room_1 s m #[Value.ref b] below meth c D vcl (fun q => s.heap.size ≤ q) 91 6692 Q (gw ad ct V) [some (.ref b), some (.ref (ad 0)), some (.ref (ad 69)), some (.int (nI (3 * t)))] 564 [] := by
  obtain ⟨hx, hb, hml, hown, hts, hK, had, hAd, hX, hbl, hL⟩ := C
  have hbA : ¬ (fun q => s.heap.size ≤ q) b := Nat.not_le.mpr hbl
  have hAA : ∀ q, gA ad q → (fun q => s.heap.size ≤ q) q := fun q hq => by obtain ⟨c, h1, rfl⟩ := hq; exact hAd c h1
  refine g_aload_n hx hb d_LW_law_564 rfl rfl ?_
  refine g_aload_n hx hb d_LW_law_565 rfl rfl ?_
  refine g_iload_n hx hb d_LW_law_566 rfl rfl ?_
  refine g_iconst hx hb d_LW_law_567 k_iconst_1 ?_
  refine n_iadd hx hb d_LW_law_568 ?_
  refine g_sld hx hb hX hbl hbA (by omega) (by omega) d_LW_law_569 ?_
  refine g_aload_n hx hb d_LW_law_570 rfl rfl ?_
  refine g_iload_n hx hb d_LW_law_571 rfl rfl ?_
  refine g_iconst hx hb d_LW_law_572 k_iconst_2 ?_
  refine n_iadd hx hb d_LW_law_573 ?_
  refine g_sld hx hb hX hbl hbA (by omega) (by omega) d_LW_law_574 ?_
  refine g_callVi (C := "GroupViews") (nn := 2) ⟨hx, hb, hml.trans rfl, hown, hts⟩ (ct_GV_waiting l D ad ct had _ _ _ (cd_lt _) (cd_lt _) h.cb) (mk_V hts t_301 t_302 t_303 t_1 t_304 rfl rfl (by decide +kernel) ⟨Nat.le_of_ble_eq_true rfl, Nat.le_of_ble_eq_true rfl⟩) hK.1 rfl w_0 rfl hAA (gK_ok D ct) hK (Nat.le_of_ble_eq_true rfl) ⟨Nat.le_of_ble_eq_true rfl, Nat.le_of_ble_eq_true rfl⟩ rfl rfl d_LW_law_575 ?_
  intro r1 w1 h1
  obtain ⟨V1, rfl, hc⟩ := cv h1
  have hm : Rel V V1 := mid_ob h hc
  refine g_aload_n hx hb d_LW_law_578 rfl rfl ?_
  refine g_aload_n hx hb d_LW_law_579 rfl rfl ?_
  refine g_iload_n hx hb d_LW_law_580 rfl rfl ?_
  refine g_iconst hx hb d_LW_law_581 k_iconst_1 ?_
  refine n_iadd hx hb d_LW_law_582 ?_
  refine g_sld hx hb hX hbl hbA (by omega) (by omega) d_LW_law_583 ?_
  refine g_aload_n hx hb d_LW_law_584 rfl rfl ?_
  refine g_iload_n hx hb d_LW_law_585 rfl rfl ?_
  refine g_iconst hx hb d_LW_law_586 k_iconst_2 ?_
  refine n_iadd hx hb d_LW_law_587 ?_
  refine g_sld hx hb hX hbl hbA (by omega) (by omega) d_LW_law_588 ?_
  refine g_callVi (C := "GroupViewsModel") (nn := 2) ⟨hx, hb, hml.trans rfl, hown, hts⟩ (ct_MD_waiting l D ad ct had _ _ _ (cd_lt _) (cd_lt _)) (mk_V hts t_473 t_474 t_475 t_4 t_476 rfl rfl (by decide +kernel) ⟨Nat.le_of_ble_eq_true rfl, Nat.le_of_ble_eq_true rfl⟩) hK.1 rfl w_M rfl hAA (gK_ok D ct) hK (Nat.le_of_ble_eq_true rfl) ⟨Nat.le_of_ble_eq_true rfl, Nat.le_of_ble_eq_true rfl⟩ rfl rfl d_LW_law_589 ?_
  intro r2 w2 h2
  obtain ⟨V2, rfl, hr⟩ := cv h2
  obtain ⟨e12, h'⟩ := law_ob (P' := fun Y => (cd (xs (3 * t + 1))) < 4 ∧ (cd (xs (3 * t + 2))) < 4 ∧ ¬ (cd (xs (3 * t + 1))) = (cd (xs (3 * t + 2)))) (a := V (37 + 2 * ((cd (xs (3 * t + 1))) * 4 + (cd (xs (3 * t + 2))))) 2 - V (37 + 2 * ((cd (xs (3 * t + 1))) * 4 + (cd (xs (3 * t + 2))))) 1) (b := fun Y => Y 89 (4 * (cd (xs (3 * t + 1))) + (cd (xs (3 * t + 2))))) h Iff.rfl (fun a => (h.2.2.2.2.2.2.2.1 _ _ a.1 a.2.1).2.2.1.symm) hc hr
  exact g_icmp_eq (tgt := 597) hx hb d_LW_law_592 (by decide) (fun _ => cont V2 h') (fun z => absurd e12 z)
