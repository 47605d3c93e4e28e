set_option maxRecDepth 100000 in
set_option maxHeartbeats 4000000 in
theorem ct_MD_carry (l : Launch) (D : va_G) (ad : Nat → Nat) (ct : Nat → ClassId) (had : adOk ad) (V : VV) (p q : Nat) (h1 : p < 2 ^ 32) (h2 : q < 2 ^ 32) (hrb : RB V) : CTi l y_MD_carry (mw y_MD_carry c_MD_carry 8 (some .int)) { frames := 1, cells := 0, slots := 0, locals := 22 } (gK D ct) D vcl (gA ad) [.ref (ad 69), .int (nI p), .int (nI q)] (gw ad ct V) (fun r w => (¬ (p < 4 ∧ q < 4 ∧ ¬ p = q) ∧ r = -1 ∧ w = gw ad ct V) ∨ ((p < 4 ∧ q < 4 ∧ ¬ p = q) ∧ r = (rCarry V p q).1 ∧ w = gw ad ct (rCarry V p q).2)) := by
  refine ct_i (by decide) rfl rfl (Nat.le_of_ble_eq_true rfl) ?_
  intro pg en sx mx blw mth cdx hx hb hr hts hown hlk hml hK
  refine g_L (L' := [_, _, _, _, _, _, _, _]) rfl ?_
  refine g_iload_n hx hb d_MD_carry_0 rfl rfl ?_
  refine g_iconst hx hb d_MD_carry_1 k_iconst_0 ?_
  refine g_iconst hx hb d_MD_carry_2 k_iconst_3 ?_
  refine g_callSi (nn := 3) ⟨hx, hb, hml.trans rfl, hown, hts⟩ (ct_MD_within l D ad ct had _ _ _ _ (by omega) (by omega) (by omega)) (mk_S hts t_390 t_391 t_4 t_392 rfl rfl (by decide +kernel) ⟨Nat.le_of_ble_eq_true rfl, Nat.le_of_ble_eq_true rfl⟩) (fun _ h => h) (gK_ok D ct) hK (Nat.le_of_ble_eq_true rfl) ⟨Nat.zero_le _, Nat.zero_le _⟩ rfl rfl d_MD_carry_3 ?_
  rintro _ _ ⟨rfl, rfl⟩
  refine n_if_eq (tgt := 23) hx hb d_MD_carry_6 (by decide) bN_lt (fun hp => ?_) (fun hp => ?_)
  · have hp := bN_0.mp hp
    refine g_iconst hx hb d_MD_carry_23 k_iconst_m1 ?_
    exact g_iret hx hb hr hlk d_MD_carry_24 (Or.inl ⟨by omega, rfl, rfl⟩)
  · have hp := bN_n0.mp hp
    refine g_iload_n hx hb d_MD_carry_9 rfl rfl ?_
    refine g_iconst hx hb d_MD_carry_10 k_iconst_0 ?_
    refine g_iconst hx hb d_MD_carry_11 k_iconst_3 ?_
    refine g_callSi (nn := 3) ⟨hx, hb, hml.trans rfl, hown, hts⟩ (ct_MD_within l D ad ct had _ _ _ _ (by omega) (by omega) (by omega)) (mk_S hts t_390 t_391 t_4 t_392 rfl rfl (by decide +kernel) ⟨Nat.le_of_ble_eq_true rfl, Nat.le_of_ble_eq_true rfl⟩) (fun _ h => h) (gK_ok D ct) hK (Nat.le_of_ble_eq_true rfl) ⟨Nat.zero_le _, Nat.zero_le _⟩ rfl rfl d_MD_carry_12 ?_
    rintro _ _ ⟨rfl, rfl⟩
    refine n_if_eq (tgt := 23) hx hb d_MD_carry_15 (by decide) bN_lt (fun hq => ?_) (fun hq => ?_)
    · have hq := bN_0.mp hq
      refine g_iconst hx hb d_MD_carry_23 k_iconst_m1 ?_
      exact g_iret hx hb hr hlk d_MD_carry_24 (Or.inl ⟨by omega, rfl, rfl⟩)
    · have hq := bN_n0.mp hq
      refine g_iload_n hx hb d_MD_carry_18 rfl rfl ?_
      refine g_iload_n hx hb d_MD_carry_19 rfl rfl ?_
      refine n_icmp_ne (tgt := 25) hx hb d_MD_carry_20 (by decide) (by omega) (by omega) (fun hpq => ?_) (fun hpq => ?_)
      · have hn : p < 4 ∧ q < 4 ∧ ¬ p = q := ⟨by omega, by omega, hpq⟩
        have hl := hrb.2 (4 * p + q) (by omega)
        refine g_iconst hx hb d_MD_carry_25 k_iconst_4 ?_
        refine g_iload_n hx hb d_MD_carry_26 rfl rfl ?_
        refine n_imul hx hb d_MD_carry_27 ?_
        refine g_iload_n hx hb d_MD_carry_28 rfl rfl ?_
        refine n_iadd hx hb d_MD_carry_29 ?_
        refine g_istore_n (L' := [_, _, _, _, _, _, _, _]) hx hb d_MD_carry_30 rfl (Nat.le_of_ble_eq_true rfl) rfl ?_
        refine g_aload_n hx hb d_MD_carry_31 rfl rfl ?_
        refine g_get hx hb hts (in_mw in_MD) hown hK.1 w_M rfl 20 (by decide) (hts _ (List.mem_cons_of_mem _ t_335)) rfl d_MD_carry_32 ?_
        refine g_iload_n hx hb d_MD_carry_35 rfl rfl ?_
        refine g_iald hx hb hK.1 (w_Ma (c := 89) (by decide) (by decide)) 0 rfl (show _ < 16 by omega) (by decide) rfl d_MD_carry_36 ?_
        refine n_if_ne (tgt := 42) hx hb d_MD_carry_37 (by decide) (by omega) (fun hl0 => ?_) (fun hl0 => ?_)
        · have hw := hl.2 (by omega)
          refine g_aload_n hx hb d_MD_carry_42 rfl rfl ?_
          refine g_get hx hb hts (in_mw in_MD) hown hK.1 w_M rfl 19 (by decide) (hts _ (List.mem_cons_of_mem _ t_334)) rfl d_MD_carry_43 ?_
          refine g_bipush hx hb d_MD_carry_46 k_bipush_80 ?_
          refine g_iload_n hx hb d_MD_carry_48 rfl rfl ?_
          refine n_imul hx hb d_MD_carry_49 ?_
          refine g_iald hx hb hK.1 (w_Ma (c := 88) (by decide) (by decide)) 0 rfl (show _ < 1280 by omega) (by decide) rfl d_MD_carry_50 ?_
          refine g_istore (L' := [_, _, _, _, _, _, _, _]) hx hb d_MD_carry_51 (Nat.le_of_ble_eq_true rfl) rfl ?_
          refine g_aload_n hx hb d_MD_carry_53 rfl rfl ?_
          refine g_get hx hb hts (in_mw in_MD) hown hK.1 w_M rfl 20 (by decide) (hts _ (List.mem_cons_of_mem _ t_335)) rfl d_MD_carry_54 ?_
          refine g_iload_n hx hb d_MD_carry_57 rfl rfl ?_
          refine g_dup2 hx hb d_MD_carry_58 rfl rfl ?_
          refine g_iald hx hb hK.1 (w_Ma (c := 89) (by decide) (by decide)) 0 rfl (show _ < 16 by omega) (by decide) rfl d_MD_carry_59 ?_
          refine g_iconst hx hb d_MD_carry_60 k_iconst_1 ?_
          refine n_isub hx hb d_MD_carry_61 (by omega) ?_
          refine g_iast hx hb hK.1 (gw_D had) (w_Ma (c := 89) (by decide) (by decide)) 0 rfl (show _ < 16 by omega) (by decide) d_MD_carry_62 (s_Ma (c := 89) (by decide) (by decide) _ _) ?_
          refine g_iconst hx hb d_MD_carry_63 k_iconst_0 ?_
          refine g_istore (L' := [_, _, _, _, _, _, _, _]) hx hb d_MD_carry_64 (Nat.le_of_ble_eq_true rfl) rfl ?_
          refine g_loop (V 89 (4 * p + q) - 1) (fun k => gw ad ct (rsh (pt V 89 (4 * p + q) (V 89 (4 * p + q) - 1)) (4 * p + q) k)) (fun k => [some (.ref (ad 69)), some (.int (nI p)), some (.int (nI q)), some (.int (nI ((4 * p) + q))), some (.int (nI (V 88 (80 * ((4 * p) + q))))), some (.int (nI k)), none, none]) (fun k => True) 0 (by omega) trivial rfl rfl ?_
          intro k hq0_k hqE_k hI_k ih_k
          try dsimp only
          refine g_iload hx hb d_MD_carry_66 rfl ?_
          refine g_aload_n hx hb d_MD_carry_68 rfl rfl ?_
          refine g_get hx hb hts (in_mw in_MD) hown hK.1 w_M rfl 20 (by decide) (hts _ (List.mem_cons_of_mem _ t_335)) rfl d_MD_carry_69 ?_
          refine g_iload_n hx hb d_MD_carry_72 rfl rfl ?_
          refine g_iald hx hb hK.1 (w_Ma (c := 89) (by decide) (by decide)) 0 rfl (show _ < 16 by omega) (by decide) rfl d_MD_carry_73 ?_
          refine g_val (show nI _ = nI (V 89 (4 * p + q) - 1) from congrArg nI (by rw [rsh_ne (by decide), pt_eq rfl rfl])) ?_
          refine n_icmp_ge (tgt := 109) hx hb d_MD_carry_74 (by decide) (by omega) (by omega) (fun hk => ?_) (fun hk => ?_)
          · have hk : k = V 89 (4 * p + q) - 1 := by omega
            subst hk
            refine g_iload hx hb d_MD_carry_109 rfl ?_
            refine g_sipush hx hb d_MD_carry_111 k_sipush_256 ?_
            refine n_icmp_ge (tgt := 133) hx hb d_MD_carry_114 (by decide) (by omega) (by omega) (fun h256 => ?_) (fun h256 => ?_)
            · refine g_iload hx hb d_MD_carry_133 rfl ?_
              refine g_sipush hx hb d_MD_carry_135 k_sipush_256 ?_
              refine n_isub hx hb d_MD_carry_138 (by omega) ?_
              refine g_istore (L' := [_, _, _, _, _, _, _, _]) hx hb d_MD_carry_139 (Nat.le_of_ble_eq_true rfl) rfl ?_
              refine g_aload_n hx hb d_MD_carry_141 rfl rfl ?_
              refine g_get hx hb hts (in_mw in_MD) hown hK.1 w_M rfl 18 (by decide) (hts _ (List.mem_cons_of_mem _ t_333)) rfl d_MD_carry_142 ?_
              refine g_bipush hx hb d_MD_carry_145 k_bipush_64 ?_
              refine g_iload_n hx hb d_MD_carry_147 rfl rfl ?_
              refine n_imul hx hb d_MD_carry_148 ?_
              refine g_iload hx hb d_MD_carry_149 rfl ?_
              refine n_iadd hx hb d_MD_carry_151 ?_
              refine g_iconst hx hb d_MD_carry_152 k_iconst_1 ?_
              refine g_zast hx hb hK.1 (gw_D had) (w_Ma (c := 87) (by decide) (by decide)) 1 rfl (show _ < 256 by omega) (by decide) d_MD_carry_153 (by decide +kernel) (s_Ma (c := 87) (by decide) (by decide) _ _) ?_
              refine g_aload_n hx hb d_MD_carry_154 rfl rfl ?_
              refine g_get hx hb hts (in_mw in_MD) hown hK.1 w_M rfl 16 (by decide) (hts _ (List.mem_cons_of_mem _ t_331)) rfl d_MD_carry_155 ?_
              refine g_iload hx hb d_MD_carry_158 rfl ?_
              refine g_iald hx hb hK.1 (w_Ma (c := 85) (by decide) (by decide)) 0 rfl (show _ < 64 by omega) (by decide) rfl d_MD_carry_160 ?_
              refine g_val (show nI _ = nI (V 85 (V 88 (80 * (4 * p + q)) - 256)) from congrArg nI (by rw [pt_ne (by decide), rsh_ne (by decide), pt_ne (by decide)])) ?_
              refine g_if_le (tgt := 235) hx hb d_MD_carry_161 (by decide) (fun hsv => ?_) (fun hsv => ?_)
              · have hsv := (q_le0 (by have := hrb.1.sv (V 88 (80 * (4 * p + q)) - 256); omega)).mp hsv
                refine g_iconst hx hb d_MD_carry_235 k_iconst_2 ?_
                have hS : rCarry V p q = (2, pt (rsh (pt V 89 (4 * p + q) (V 89 (4 * p + q) - 1)) (4 * p + q) (V 89 (4 * p + q) - 1)) 87 (64 * q + (V 88 (80 * (4 * p + q)) - 256)) 1) := by unfold rCarry; rw [if_neg hl0, if_neg (by omega), if_pos hsv]
                exact g_iret hx hb hr hlk d_MD_carry_236 (Or.inr ⟨hn, by rw [hS] <;> first | exact n0_eq | exact n1_eq | exact n2_eq, by rw [hS]⟩)
              · have hsv : ¬ V 85 (V 88 (80 * (4 * p + q)) - 256) = 0 := fun z => hsv ((q_le0 (by have := hrb.1.sv (V 88 (80 * (4 * p + q)) - 256); omega)).mpr z)
                obtain ⟨B, hB⟩ : ∃ B : VV, B = pt (rsh (pt V 89 (4 * p + q) (V 89 (4 * p + q) - 1)) (4 * p + q) (V 89 (4 * p + q) - 1)) 87 (64 * q + (V 88 (80 * (4 * p + q)) - 256)) 1 := ⟨_, rfl⟩
                refine g_w (congrArg (gw ad ct) hB.symm) ?_
                have b85 : ∀ k, B 85 k = V 85 k := fun k => by rw [hB, pt_ne (by decide), rsh_ne (by decide), pt_ne (by decide)]
                have b86 : ∀ k, B 86 k = V 86 k := fun k => by rw [hB, pt_ne (by decide), rsh_ne (by decide), pt_ne (by decide)]
                refine g_iconst hx hb d_MD_carry_164 k_iconst_0 ?_
                refine g_istore (L' := [_, _, _, _, _, _, _, _]) hx hb d_MD_carry_165 (Nat.le_of_ble_eq_true rfl) rfl ?_
                refine g_loop 4 (fun r => gw ad ct (rkl B q (V 88 (80 * (4 * p + q)) - 256) r)) (fun r => [some (.ref (ad 69)), some (.int (nI p)), some (.int (nI q)), some (.int (nI ((4 * p) + q))), some (.int (nI (V 88 (80 * ((4 * p) + q))))), some (.int (nI ((V 88 (80 * ((4 * p) + q))) - 256))), some (.int (nI r)), none]) (fun r => True) 0 (by omega) trivial rfl rfl ?_
                intro r hq0_r hqE_r hI_r ih_r
                try dsimp only
                refine g_iload hx hb d_MD_carry_167 rfl ?_
                refine g_iconst hx hb d_MD_carry_169 k_iconst_4 ?_
                refine n_icmp_ge (tgt := 235) hx hb d_MD_carry_170 (by decide) (by omega) (by omega) (fun hr4 => ?_) (fun hr4 => ?_)
                · have hr4 : r = 4 := by omega
                  subst hr4
                  refine g_iconst hx hb d_MD_carry_235 k_iconst_2 ?_
                  have hS : rCarry V p q = (2, rkl B q (V 88 (80 * (4 * p + q)) - 256) 4) := by unfold rCarry; rw [if_neg hl0, if_neg (by omega), if_neg hsv, hB]
                  exact g_iret hx hb hr hlk d_MD_carry_236 (Or.inr ⟨hn, by rw [hS] <;> first | exact n0_eq | exact n1_eq | exact n2_eq, by rw [hS]⟩)
                · have hc4 : B 86 (4 * (V 88 (80 * (4 * p + q)) - 256) + r) ≤ 4 := by rw [b86]; exact hrb.1.cu _
                  have hs15 : B 85 (V 88 (80 * (4 * p + q)) - 256) ≤ 15 := by rw [b85]; exact hrb.1.sv _
                  refine g_iconst hx hb d_MD_carry_173 k_iconst_0 ?_
                  refine g_istore (L' := [_, _, _, _, _, _, _, _]) hx hb d_MD_carry_174 (Nat.le_of_ble_eq_true rfl) rfl ?_
                  refine g_loop (B 86 (4 * (V 88 (80 * (4 * p + q)) - 256) + r)) (fun n => gw ad ct (rkn (rkl B q (V 88 (80 * (4 * p + q)) - 256) r) (256 * q + 16 * B 85 (V 88 (80 * (4 * p + q)) - 256) + 4 * r) n)) (fun n => [some (.ref (ad 69)), some (.int (nI p)), some (.int (nI q)), some (.int (nI ((4 * p) + q))), some (.int (nI (V 88 (80 * ((4 * p) + q))))), some (.int (nI ((V 88 (80 * ((4 * p) + q))) - 256))), some (.int (nI r)), some (.int (nI n))]) (fun n => True) 0 (Nat.zero_le _) trivial rfl rfl ?_
                  intro n hq0_n hqE_n hI_n ih_n
                  try dsimp only
                  refine g_iload hx hb d_MD_carry_176 rfl ?_
                  refine g_aload_n hx hb d_MD_carry_178 rfl rfl ?_
                  refine g_get hx hb hts (in_mw in_MD) hown hK.1 w_M rfl 17 (by decide) (hts _ (List.mem_cons_of_mem _ t_332)) rfl d_MD_carry_179 ?_
                  refine g_iconst hx hb d_MD_carry_182 k_iconst_4 ?_
                  refine g_iload hx hb d_MD_carry_183 rfl ?_
                  refine n_imul hx hb d_MD_carry_185 ?_
                  refine g_iload hx hb d_MD_carry_186 rfl ?_
                  refine n_iadd hx hb d_MD_carry_188 ?_
                  refine g_iald hx hb hK.1 (w_Ma (c := 86) (by decide) (by decide)) 0 rfl (show _ < 256 by omega) (by decide) rfl d_MD_carry_189 ?_
                  refine g_val (show nI _ = nI (B 86 (4 * (V 88 (80 * (4 * p + q)) - 256) + r)) from congrArg nI (by rw [rkn_ne (by decide), rkl_ne (by decide)])) ?_
                  refine n_icmp_ge (tgt := 229) hx hb d_MD_carry_190 (by decide) (by omega) (by omega) (fun hn4 => ?_) (fun hn4 => ?_)
                  · have hn2 : n = B 86 (4 * (V 88 (80 * (4 * p + q)) - 256) + r) := by omega
                    subst hn2
                    refine n_iinc (L' := [_, _, _, _, _, _, _, _]) hx hb d_MD_carry_229 rfl rfl ?_
                    refine g_goto (tgt := 167) hx hb d_MD_carry_232 (by decide) ?_
                    refine g_sub (L' := [_, _, _, _, _, _, _, none]) ⟨Or.inr rfl, Or.inr rfl, Or.inr rfl, Or.inr rfl, Or.inr rfl, Or.inr rfl, Or.inr rfl, Or.inl rfl, trivial⟩ ?_
                    exact ih_r (by omega) trivial
                  · refine g_aload_n hx hb d_MD_carry_193 rfl rfl ?_
                    refine g_get hx hb hts (in_mw in_MD) hown hK.1 w_M rfl 15 (by decide) (hts _ (List.mem_cons_of_mem _ t_330)) rfl d_MD_carry_194 ?_
                    refine g_sipush hx hb d_MD_carry_197 k_sipush_256 ?_
                    refine g_iload_n hx hb d_MD_carry_200 rfl rfl ?_
                    refine n_imul hx hb d_MD_carry_201 ?_
                    refine g_bipush hx hb d_MD_carry_202 k_bipush_16 ?_
                    refine g_aload_n hx hb d_MD_carry_204 rfl rfl ?_
                    refine g_get hx hb hts (in_mw in_MD) hown hK.1 w_M rfl 16 (by decide) (hts _ (List.mem_cons_of_mem _ t_331)) rfl d_MD_carry_205 ?_
                    refine g_iload hx hb d_MD_carry_208 rfl ?_
                    refine g_iald hx hb hK.1 (w_Ma (c := 85) (by decide) (by decide)) 0 rfl (show _ < 64 by omega) (by decide) rfl d_MD_carry_210 ?_
                    refine g_val (show nI _ = nI (B 85 (V 88 (80 * (4 * p + q)) - 256)) from congrArg nI (by rw [rkn_ne (by decide), rkl_ne (by decide)])) ?_
                    refine n_imul hx hb d_MD_carry_211 ?_
                    refine n_iadd hx hb d_MD_carry_212 ?_
                    refine g_iconst hx hb d_MD_carry_213 k_iconst_4 ?_
                    refine g_iload hx hb d_MD_carry_214 rfl ?_
                    refine n_imul hx hb d_MD_carry_216 ?_
                    refine n_iadd hx hb d_MD_carry_217 ?_
                    refine g_iload hx hb d_MD_carry_218 rfl ?_
                    refine n_iadd hx hb d_MD_carry_220 ?_
                    refine g_iconst hx hb d_MD_carry_221 k_iconst_1 ?_
                    refine g_zast hx hb hK.1 (gw_D had) (w_Ma (c := 84) (by decide) (by decide)) 1 rfl (show _ < 1024 by omega) (by decide) d_MD_carry_222 (by decide +kernel) (s_Ma (c := 84) (by decide) (by decide) _ _) ?_
                    refine n_iinc (L' := [_, _, _, _, _, _, _, _]) hx hb d_MD_carry_223 rfl rfl ?_
                    refine g_goto (tgt := 176) hx hb d_MD_carry_226 (by decide) ?_
                    exact ih_n (by omega) trivial
            · refine g_aload_n hx hb d_MD_carry_117 rfl rfl ?_
              refine g_get hx hb hts (in_mw in_MD) hown hK.1 w_M rfl 15 (by decide) (hts _ (List.mem_cons_of_mem _ t_330)) rfl d_MD_carry_118 ?_
              refine g_sipush hx hb d_MD_carry_121 k_sipush_256 ?_
              refine g_iload_n hx hb d_MD_carry_124 rfl rfl ?_
              refine n_imul hx hb d_MD_carry_125 ?_
              refine g_iload hx hb d_MD_carry_126 rfl ?_
              refine n_iadd hx hb d_MD_carry_128 ?_
              refine g_iconst hx hb d_MD_carry_129 k_iconst_1 ?_
              refine g_zast hx hb hK.1 (gw_D had) (w_Ma (c := 84) (by decide) (by decide)) 1 rfl (show _ < 1024 by omega) (by decide) d_MD_carry_130 (by decide +kernel) (s_Ma (c := 84) (by decide) (by decide) _ _) ?_
              refine g_iconst hx hb d_MD_carry_131 k_iconst_1 ?_
              have hS : rCarry V p q = (1, pt (rsh (pt V 89 (4 * p + q) (V 89 (4 * p + q) - 1)) (4 * p + q) (V 89 (4 * p + q) - 1)) 84 (256 * q + V 88 (80 * (4 * p + q))) 1) := by unfold rCarry; rw [if_neg hl0, if_pos h256]
              exact g_iret hx hb hr hlk d_MD_carry_132 (Or.inr ⟨hn, by rw [hS] <;> first | exact n0_eq | exact n1_eq | exact n2_eq, by rw [hS]⟩)
          · refine g_aload_n hx hb d_MD_carry_77 rfl rfl ?_
            refine g_get hx hb hts (in_mw in_MD) hown hK.1 w_M rfl 19 (by decide) (hts _ (List.mem_cons_of_mem _ t_334)) rfl d_MD_carry_78 ?_
            refine g_bipush hx hb d_MD_carry_81 k_bipush_80 ?_
            refine g_iload_n hx hb d_MD_carry_83 rfl rfl ?_
            refine n_imul hx hb d_MD_carry_84 ?_
            refine g_iload hx hb d_MD_carry_85 rfl ?_
            refine n_iadd hx hb d_MD_carry_87 ?_
            refine g_aload_n hx hb d_MD_carry_88 rfl rfl ?_
            refine g_get hx hb hts (in_mw in_MD) hown hK.1 w_M rfl 19 (by decide) (hts _ (List.mem_cons_of_mem _ t_334)) rfl d_MD_carry_89 ?_
            refine g_bipush hx hb d_MD_carry_92 k_bipush_80 ?_
            refine g_iload_n hx hb d_MD_carry_94 rfl rfl ?_
            refine n_imul hx hb d_MD_carry_95 ?_
            refine g_iload hx hb d_MD_carry_96 rfl ?_
            refine n_iadd hx hb d_MD_carry_98 ?_
            refine g_iconst hx hb d_MD_carry_99 k_iconst_1 ?_
            refine n_iadd hx hb d_MD_carry_100 ?_
            refine g_iald hx hb hK.1 (w_Ma (c := 88) (by decide) (by decide)) 0 rfl (show _ < 1280 by omega) (by decide) rfl d_MD_carry_101 ?_
            refine g_iast hx hb hK.1 (gw_D had) (w_Ma (c := 88) (by decide) (by decide)) 0 rfl (show _ < 1280 by omega) (by decide) d_MD_carry_102 (s_Ma (c := 88) (by decide) (by decide) _ _) ?_
            refine n_iinc (L' := [_, _, _, _, _, _, _, _]) hx hb d_MD_carry_103 rfl rfl ?_
            refine g_goto (tgt := 66) hx hb d_MD_carry_106 (by decide) ?_
            exact ih_k (by omega) trivial
        · refine g_iconst hx hb d_MD_carry_40 k_iconst_0 ?_
          have hS : rCarry V p q = (0, V) := by unfold rCarry; rw [if_pos hl0]
          exact g_iret hx hb hr hlk d_MD_carry_41 (Or.inr ⟨hn, by rw [hS] <;> first | exact n0_eq | exact n1_eq | exact n2_eq, by rw [hS]⟩)
      · refine g_iconst hx hb d_MD_carry_23 k_iconst_m1 ?_
        exact g_iret hx hb hr hlk d_MD_carry_24 (Or.inl ⟨by omega, rfl, rfl⟩)
set_option maxRecDepth 100000 in
set_option maxHeartbeats 4000000 in
theorem ct_MD_deliverable (l : Launch) (D : va_G) (ad : Nat → Nat) (ct : Nat → ClassId) (had : adOk ad) (V : VV) (p q : Nat) (hp : p < 4) (hq : q < 4) (hb0 : BD V) (h90 : ∀ j, j < 4 → V 90 j ≤ 4) : CTi l y_MD_deliverable (mw y_MD_deliverable c_MD_deliverable 6 (some .boolean)) { frames := 0, cells := 0, slots := 0, locals := 0 } (gK D ct) D vcl (gA ad) [.ref (ad 69), .int (nI p), .int (nI q)] (gw ad ct V) (fun r w => r = nI (bC (rdl V p q)) ∧ w = gw ad ct V) := by
  refine ct_i (by decide) rfl rfl (Nat.le_of_ble_eq_true rfl) ?_
  intro pg en sx mx blw mth cdx hx hb hr hts hown hlk hml hK
  refine g_L (L' := [_, _, _, _, _, _]) rfl ?_
  have hd4 := hb0.d (4 * p + q)
  have hl4 := h90 q hq
  have hpa := hb0.p p hp
  have hv15 := hb0.v
  refine g_aload_n hx hb d_MD_deliverable_0 rfl rfl ?_
  refine g_get hx hb hts (in_mw in_MD) hown hK.1 w_M rfl 8 (by decide) (hts _ (List.mem_cons_of_mem _ t_323)) rfl d_MD_deliverable_1 ?_
  refine g_iconst hx hb d_MD_deliverable_4 k_iconst_4 ?_
  refine g_iload_n hx hb d_MD_deliverable_5 rfl rfl ?_
  refine n_imul hx hb d_MD_deliverable_6 ?_
  refine g_iload_n hx hb d_MD_deliverable_7 rfl rfl ?_
  refine n_iadd hx hb d_MD_deliverable_8 ?_
  refine g_iald hx hb hK.1 (w_Ma (c := 78) (by decide) (by decide)) 0 rfl (show _ < 16 by omega) (by decide) rfl d_MD_deliverable_9 ?_
  refine g_istore_n (L' := [_, _, _, _, _, _]) hx hb d_MD_deliverable_10 rfl (Nat.le_of_ble_eq_true rfl) rfl ?_
  refine g_iload_n hx hb d_MD_deliverable_11 rfl rfl ?_
  refine g_aload_n hx hb d_MD_deliverable_12 rfl rfl ?_
  refine g_get hx hb hts (in_mw in_MD) hown hK.1 w_M rfl 21 (by decide) (hts _ (List.mem_cons_of_mem _ t_336)) rfl d_MD_deliverable_13 ?_
  refine g_iload_n hx hb d_MD_deliverable_16 rfl rfl ?_
  refine g_iald hx hb hK.1 (w_Ma (c := 90) (by decide) (by decide)) 0 rfl (show _ < 4 by omega) (by decide) rfl d_MD_deliverable_17 ?_
  refine n_icmp_lt (tgt := 23) hx hb d_MD_deliverable_18 (by decide) (by omega) (by omega) (fun hlt => ?_) (fun hlt => ?_)
  · have hk1 := hb0.kn (256 * p + (16 * V 70 p + 4 * q + V 78 (4 * p + q)))
    refine g_bipush hx hb d_MD_deliverable_23 k_bipush_16 ?_
    refine g_aload_n hx hb d_MD_deliverable_25 rfl rfl ?_
    refine g_get hx hb hts (in_mw in_MD) hown hK.1 w_M rfl 0 (by decide) (hts _ (List.mem_cons_of_mem _ t_315)) rfl d_MD_deliverable_26 ?_
    refine g_iload_n hx hb d_MD_deliverable_29 rfl rfl ?_
    refine g_iald hx hb hK.1 (w_Ma (c := 70) (by decide) (by decide)) 0 rfl (show _ < 4 by omega) (by decide) rfl d_MD_deliverable_30 ?_
    refine n_imul hx hb d_MD_deliverable_31 ?_
    refine g_iconst hx hb d_MD_deliverable_32 k_iconst_4 ?_
    refine g_iload_n hx hb d_MD_deliverable_33 rfl rfl ?_
    refine n_imul hx hb d_MD_deliverable_34 ?_
    refine n_iadd hx hb d_MD_deliverable_35 ?_
    refine g_iload_n hx hb d_MD_deliverable_36 rfl rfl ?_
    refine n_iadd hx hb d_MD_deliverable_37 ?_
    refine g_istore (L' := [_, _, _, _, _, _]) hx hb d_MD_deliverable_38 (Nat.le_of_ble_eq_true rfl) rfl ?_
    refine g_aload_n hx hb d_MD_deliverable_40 rfl rfl ?_
    refine g_get hx hb hts (in_mw in_MD) hown hK.1 w_M rfl 15 (by decide) (hts _ (List.mem_cons_of_mem _ t_330)) rfl d_MD_deliverable_41 ?_
    refine g_sipush hx hb d_MD_deliverable_44 k_sipush_256 ?_
    refine g_iload_n hx hb d_MD_deliverable_47 rfl rfl ?_
    refine n_imul hx hb d_MD_deliverable_48 ?_
    refine g_iload hx hb d_MD_deliverable_49 rfl ?_
    refine n_iadd hx hb d_MD_deliverable_51 ?_
    refine g_zald hx hb hK.1 (w_Ma (c := 84) (by decide) (by decide)) 1 rfl (show _ < 1024 by omega) (by decide) rfl d_MD_deliverable_52 ?_
    refine n_if_ne (tgt := 58) hx hb d_MD_deliverable_53 (by decide) (by omega) (fun hkn => ?_) (fun hkn => ?_)
    · refine g_iconst hx hb d_MD_deliverable_58 k_iconst_0 ?_
      refine g_istore (L' := [_, _, _, _, _, _]) hx hb d_MD_deliverable_59 (Nat.le_of_ble_eq_true rfl) rfl ?_
      refine g_loop 4 (fun j => gw ad ct V) (fun j => [some (.ref (ad 69)), some (.int (nI p)), some (.int (nI q)), some (.int (nI (V 78 ((4 * p) + q)))), some (.int (nI (((16 * (V 70 p)) + (4 * q)) + (V 78 ((4 * p) + q))))), some (.int (nI j))]) (fun j => ∀ i, i < j → ¬ i = q → V 83 (4 * (16 * V 70 p + 4 * q + V 78 (4 * p + q)) + i) ≤ V 78 (4 * p + i)) 0 (by omega) (fun i hi => absurd hi (Nat.not_lt_zero i)) rfl rfl ?_
      intro j hq0_j hqE_j hI_j ih_j
      try dsimp only
      refine g_iload hx hb d_MD_deliverable_61 rfl ?_
      refine g_iconst hx hb d_MD_deliverable_63 k_iconst_4 ?_
      refine n_icmp_ge (tgt := 107) hx hb d_MD_deliverable_64 (by decide) (by omega) (by omega) (fun hr4 => ?_) (fun hr4 => ?_)
      · refine g_iconst hx hb d_MD_deliverable_107 k_iconst_1 ?_
        exact g_zret hx hb hr hlk (by decide +kernel) d_MD_deliverable_108 (⟨by rw [bC_t (show rdl V p q from ⟨hlt, hkn, fun i hi hiq => hI_j i (by omega) hiq⟩)], rfl⟩)
      · have x1 := hb0.d (4 * p + j)
        have x2 := hb0.vc (4 * (16 * V 70 p + 4 * q + V 78 (4 * p + q)) + j)
        refine g_iload hx hb d_MD_deliverable_67 rfl ?_
        refine g_iload_n hx hb d_MD_deliverable_69 rfl rfl ?_
        refine n_icmp_eq (tgt := 101) hx hb d_MD_deliverable_70 (by decide) (by omega) (by omega) (fun hrq => ?_) (fun hrq => ?_)
        · refine n_iinc (L' := [_, _, _, _, _, _]) hx hb d_MD_deliverable_101 rfl rfl ?_
          refine g_goto (tgt := 61) hx hb d_MD_deliverable_104 (by decide) ?_
          refine ih_j (by omega) (fun i hi hiq => ?_)
          rcases Nat.lt_succ_iff_lt_or_eq.mp hi with z | z
          · exact hI_j i z hiq
          · subst z
            first | exact absurd hrq hiq | exact hle
        · refine g_aload_n hx hb d_MD_deliverable_73 rfl rfl ?_
          refine g_get hx hb hts (in_mw in_MD) hown hK.1 w_M rfl 8 (by decide) (hts _ (List.mem_cons_of_mem _ t_323)) rfl d_MD_deliverable_74 ?_
          refine g_iconst hx hb d_MD_deliverable_77 k_iconst_4 ?_
          refine g_iload_n hx hb d_MD_deliverable_78 rfl rfl ?_
          refine n_imul hx hb d_MD_deliverable_79 ?_
          refine g_iload hx hb d_MD_deliverable_80 rfl ?_
          refine n_iadd hx hb d_MD_deliverable_82 ?_
          refine g_iald hx hb hK.1 (w_Ma (c := 78) (by decide) (by decide)) 0 rfl (show _ < 16 by omega) (by decide) rfl d_MD_deliverable_83 ?_
          refine g_aload_n hx hb d_MD_deliverable_84 rfl rfl ?_
          refine g_get hx hb hts (in_mw in_MD) hown hK.1 w_M rfl 14 (by decide) (hts _ (List.mem_cons_of_mem _ t_329)) rfl d_MD_deliverable_85 ?_
          refine g_iconst hx hb d_MD_deliverable_88 k_iconst_4 ?_
          refine g_iload hx hb d_MD_deliverable_89 rfl ?_
          refine n_imul hx hb d_MD_deliverable_91 ?_
          refine g_iload hx hb d_MD_deliverable_92 rfl ?_
          refine n_iadd hx hb d_MD_deliverable_94 ?_
          refine g_iald hx hb hK.1 (w_Ma (c := 83) (by decide) (by decide)) 0 rfl (show _ < 1024 by omega) (by decide) rfl d_MD_deliverable_95 ?_
          refine n_icmp_ge (tgt := 101) hx hb d_MD_deliverable_96 (by decide) (by omega) (by omega) (fun hle => ?_) (fun hle => ?_)
          · refine n_iinc (L' := [_, _, _, _, _, _]) hx hb d_MD_deliverable_101 rfl rfl ?_
            refine g_goto (tgt := 61) hx hb d_MD_deliverable_104 (by decide) ?_
            refine ih_j (by omega) (fun i hi hiq => ?_)
            rcases Nat.lt_succ_iff_lt_or_eq.mp hi with z | z
            · exact hI_j i z hiq
            · subst z
              first | exact absurd hrq hiq | exact hle
          · refine g_iconst hx hb d_MD_deliverable_99 k_iconst_0 ?_
            exact g_zret hx hb hr hlk (by decide +kernel) d_MD_deliverable_100 (⟨by rw [bC_f (show ¬ rdl V p q from fun z => by have := z.2.2 j (by omega) hrq; omega)], rfl⟩)
    · refine g_iconst hx hb d_MD_deliverable_56 k_iconst_0 ?_
      exact g_zret hx hb hr hlk (by decide +kernel) d_MD_deliverable_57 (⟨by rw [bC_f (show ¬ rdl V p q from fun z => z.2.1 hkn)], rfl⟩)
  · refine g_iconst hx hb d_MD_deliverable_21 k_iconst_0 ?_
    exact g_zret hx hb hr hlk (by decide +kernel) d_MD_deliverable_22 (⟨by rw [bC_f (show ¬ rdl V p q from fun z => by have := z.1; omega)], rfl⟩)
set_option maxRecDepth 100000 in
set_option maxHeartbeats 4000000 in
theorem ct_MD_limits (l : Launch) (D : va_G) (ad : Nat → Nat) (ct : Nat → ClassId) (had : adOk ad) (V : VV) (n : Nat) (hn : n < 4) (hb0 : BD V) : CTi l y_MD_limits (mw y_MD_limits c_MD_limits 7 (some .int)) { frames := 1, cells := 0, slots := 0, locals := 21 } (gK D ct) D vcl (gA ad) [.ref (ad 69), .int (nI n)] (gw ad ct V) (fun r w => ∃ h Z, rlim V n h Z ∧ r = nI h ∧ w = gw ad ct Z) := by
  refine ct_i (by decide) rfl rfl (Nat.le_of_ble_eq_true rfl) ?_
  intro pg en sx mx blw mth cdx hx hb hr hts hown hlk hml hK
  refine g_L (L' := [_, _, _, _, _, _, _]) rfl ?_
  have hpa := hb0.p n hn
  have hv15 := hb0.v
  refine g_aload_n hx hb d_MD_limits_0 rfl rfl ?_
  refine g_iconst hx hb d_MD_limits_1 k_iconst_0 ?_
  refine g_put (ty := .int) hx hb hts (in_mw in_MD) ty_MD tyo_MD nm_MD hown hK.1 (gw_D had) w_M rfl 22 (by decide) (hts _ (List.mem_cons_of_mem _ t_337)) rfl (by decide +kernel) rfl rfl (Nat.le_of_ble_eq_true rfl) d_MD_limits_2 (s_M22 _) ?_
  refine g_iconst hx hb d_MD_limits_5 k_iconst_0 ?_
  refine g_istore_n (L' := [_, _, _, _, _, _, _]) hx hb d_MD_limits_6 rfl (Nat.le_of_ble_eq_true rfl) rfl ?_
  refine g_loop 4 (fun r => gw ad ct (rl0 (pt V 69 22 0) (if V 74 n = 0 then 4 else 0) r)) (fun r => [some (.ref (ad 69)), some (.int (nI n)), some (.int (nI r)), none, none, none, none]) (fun r => True) 0 (by omega) trivial rfl rfl ?_
  intro r hq0_r hqE_r hI_r ih_r
  try dsimp only
  refine g_iload_n hx hb d_MD_limits_7 rfl rfl ?_
  refine g_iconst hx hb d_MD_limits_8 k_iconst_4 ?_
  refine n_icmp_ge (tgt := 38) hx hb d_MD_limits_9 (by decide) (by omega) (by omega) (fun hc1 => ?_) (fun hc1 => ?_)
  · have hr4 : r = 4 := by omega
    subst hr4
    refine g_aload_n hx hb d_MD_limits_38 rfl rfl ?_
    refine g_get hx hb hts (in_mw in_MD) hown hK.1 w_M rfl 4 (by decide) (hts _ (List.mem_cons_of_mem _ t_319)) rfl d_MD_limits_39 ?_
    refine g_iload_n hx hb d_MD_limits_42 rfl rfl ?_
    refine g_zald hx hb hK.1 (w_Ma (c := 74) (by decide) (by decide)) 1 rfl (show _ < 4 by omega) (by decide) rfl d_MD_limits_43 ?_
    refine g_val (show nI _ = nI (V 74 n) from congrArg nI (by rw [rl0_ne (by decide), pt_ne (by decide)])) ?_
    refine n_if_ne (tgt := 49) hx hb d_MD_limits_44 (by decide) (by omega) (fun hb2 => ?_) (fun hb2 => ?_)
    · refine g_aload_n hx hb d_MD_limits_49 rfl rfl ?_
      refine g_get hx hb hts (in_mw in_MD) hown hK.1 w_M rfl 5 (by decide) (hts _ (List.mem_cons_of_mem _ t_320)) rfl d_MD_limits_50 ?_
      refine g_iload_n hx hb d_MD_limits_53 rfl rfl ?_
      refine g_iald hx hb hK.1 (w_Ma (c := 75) (by decide) (by decide)) 0 rfl (show _ < 4 by omega) (by decide) rfl d_MD_limits_54 ?_
      refine g_val (show nI _ = nI (V 75 n) from congrArg nI (by rw [rl0_ne (by decide), pt_ne (by decide)])) ?_
      refine g_istore_n (L' := [_, _, _, _, _, _, _]) hx hb d_MD_limits_55 rfl (Nat.le_of_ble_eq_true rfl) rfl ?_
      refine g_iload_n hx hb d_MD_limits_56 rfl rfl ?_
      refine n_if_ne (tgt := 62) hx hb d_MD_limits_57 (by decide) (by omega) (fun hv0 => ?_) (fun hv0 => ?_)
      · obtain ⟨Z, hZ⟩ : ∃ Z : VV, Z = rl0 (pt V 69 22 0) 0 4 := ⟨_, rfl⟩
        refine g_w (congrArg (gw ad ct) (show _ = Z by rw [hZ, if_neg hb2])) ?_
        have zc : ∀ c k, c ≠ 90 → ¬ (c = 69 ∧ k = 22) → Z c k = V c k := fun c k z1 z2 => by
          rw [hZ, rl0_ne z1]
          exact (rsm.rfl'.put69 0) c k z1 z2
        have hbo : (V 80 (V 75 n) &&& rps V n) < 16 := Nat.lt_of_le_of_lt Nat.and_le_left (hb0.m _)
        refine g_aload_n hx hb d_MD_limits_62 rfl rfl ?_
        refine g_get hx hb hts (in_mw in_MD) hown hK.1 w_M rfl 11 (by decide) (hts _ (List.mem_cons_of_mem _ t_326)) rfl d_MD_limits_63 ?_
        refine g_iload_n hx hb d_MD_limits_66 rfl rfl ?_
        refine g_iald hx hb hK.1 (w_Ma (c := 80) (by decide) (by decide)) 0 rfl (show _ < 16 by omega) (by decide) rfl d_MD_limits_67 ?_
        refine g_val (show nI _ = nI (V 80 (V 75 n)) from congrArg nI (zc 80 _ (by decide) (by omega))) ?_
        refine g_aload_n hx hb d_MD_limits_68 rfl rfl ?_
        refine g_iload_n hx hb d_MD_limits_69 rfl rfl ?_
        refine g_callVi (C := "GroupViewsModel") (nn := 1) ⟨hx, hb, hml.trans rfl, hown, hts⟩ (ct_MD_present l D ad ct had _ _ (by omega) (by rw [zc 70 n (by decide) (by omega)]; omega)) (mk_V hts t_393 t_395 ts_MD_present t_4 t_396 rfl rfl (by decide +kernel) ⟨Nat.le_of_ble_eq_true rfl, Nat.le_of_ble_eq_true rfl⟩) hK.1 rfl w_M rfl (fun _ h => h) (gK_ok D ct) hK (Nat.le_of_ble_eq_true rfl) ⟨Nat.zero_le _, Nat.zero_le _⟩ rfl rfl d_MD_limits_70 ?_
        rintro _ _ ⟨rfl, rfl⟩
        refine g_val (show nI _ = nI (rps V n) from congrArg nI (by unfold rps; simp (disch := omega) only [zc])) ?_
        refine n_iand hx hb d_MD_limits_73 ?_
        refine g_istore_n (L' := [_, _, _, _, _, _, _]) hx hb d_MD_limits_74 rfl (Nat.le_of_ble_eq_true rfl) rfl ?_
        refine g_iconst hx hb d_MD_limits_75 k_iconst_0 ?_
        refine g_istore (L' := [_, _, _, _, _, _, _]) hx hb d_MD_limits_76 (Nat.le_of_ble_eq_true rfl) rfl ?_
        refine g_loop 4 (fun q => gw ad ct (rlq Z n (V 75 n) (V 80 (V 75 n) &&& rps V n) q)) (fun q => [some (.ref (ad 69)), some (.int (nI n)), some (.int (nI (V 75 n))), some (.int (nI ((V 80 (V 75 n)) &&& (rps V n)))), some (.int (nI q)), none, none]) (fun q => ∀ j, j < q → ¬ (V 80 (V 75 n) &&& rps V n) / 2 ^ j % 2 = 0 → ¬ Z 87 (64 * n + (16 * j + Z 81 (4 * V 75 n + j))) = 0) 0 (by omega) (fun j hj => absurd hj (Nat.not_lt_zero j)) rfl rfl ?_
        intro q hq0_q hqE_q hI_q ih_q
        try dsimp only
        refine g_iload hx hb d_MD_limits_78 rfl ?_
        refine g_iconst hx hb d_MD_limits_80 k_iconst_4 ?_
        refine n_icmp_ge (tgt := 241) hx hb d_MD_limits_81 (by decide) (by omega) (by omega) (fun hc2 => ?_) (fun hc2 => ?_)
        · have hq4 : q = 4 := by omega
          subst hq4
          refine g_iconst hx hb d_MD_limits_241 k_iconst_2 ?_
          exact g_iret hx hb hr hlk d_MD_limits_242 (⟨2, _, Or.inr (Or.inr (Or.inr ⟨rfl, hb2, hv0, fun j hj hb => (by have z := hI_q j (by omega) hb; rw [zc 87 _ (by decide) (by omega), zc 81 _ (by decide) (by omega)] at z; exact z), by rw [hZ]⟩)), rfl, rfl⟩)
        · have hq : q < 4 := by omega
          have hst : Z 81 (4 * V 75 n + q) ≤ 15 := by rw [zc 81 _ (by decide) (by omega)]; exact hb0.s _
          have hz87 : Z 87 (64 * n + (16 * q + Z 81 (4 * V 75 n + q))) ≤ 1 := by rw [zc 87 _ (by decide) (by omega)]; exact hb0.he _
          have hz85 : Z 85 (16 * q + Z 81 (4 * V 75 n + q)) ≤ 15 := by rw [zc 85 _ (by decide) (by omega)]; exact hb0.sv _
          have hz70 : Z 70 n ≤ 15 := by rw [zc 70 _ (by decide) (by omega)]; omega
          refine g_bipush hx hb d_MD_limits_84 k_bipush_16 ?_
          refine g_iload hx hb d_MD_limits_86 rfl ?_
          refine n_imul hx hb d_MD_limits_88 ?_
          refine g_aload_n hx hb d_MD_limits_89 rfl rfl ?_
          refine g_get hx hb hts (in_mw in_MD) hown hK.1 w_M rfl 12 (by decide) (hts _ (List.mem_cons_of_mem _ t_327)) rfl d_MD_limits_90 ?_
          refine g_iconst hx hb d_MD_limits_93 k_iconst_4 ?_
          refine g_iload_n hx hb d_MD_limits_94 rfl rfl ?_
          refine n_imul hx hb d_MD_limits_95 ?_
          refine g_iload hx hb d_MD_limits_96 rfl ?_
          refine n_iadd hx hb d_MD_limits_98 ?_
          refine g_iald hx hb hK.1 (w_Ma (c := 81) (by decide) (by decide)) 0 rfl (show _ < 64 by omega) (by decide) rfl d_MD_limits_99 ?_
          refine g_val (show nI _ = nI (Z 81 (4 * V 75 n + q)) from congrArg nI (rlq_ne (by decide) (by omega) q)) ?_
          refine n_iadd hx hb d_MD_limits_100 ?_
          refine g_istore (L' := [_, _, _, _, _, _, _]) hx hb d_MD_limits_101 (Nat.le_of_ble_eq_true rfl) rfl ?_
          refine g_iload_n hx hb d_MD_limits_103 rfl rfl ?_
          refine g_iload hx hb d_MD_limits_104 rfl ?_
          refine n_ishr hx hb d_MD_limits_106 (by omega) (by omega) ?_
          refine g_iconst hx hb d_MD_limits_107 k_iconst_1 ?_
          refine n_iand hx hb d_MD_limits_108 ?_
          refine g_val (show nI _ = nI ((V 80 (V 75 n) &&& rps V n) / 2 ^ q % 2) from congrArg nI (Nat.and_one_is_mod _)) ?_
          refine n_if_ne (tgt := 115) hx hb d_MD_limits_109 (by decide) (by omega) (fun hbit => ?_) (fun hbit => ?_)
          · refine g_aload_n hx hb d_MD_limits_115 rfl rfl ?_
            refine g_get hx hb hts (in_mw in_MD) hown hK.1 w_M rfl 18 (by decide) (hts _ (List.mem_cons_of_mem _ t_333)) rfl d_MD_limits_116 ?_
            refine g_bipush hx hb d_MD_limits_119 k_bipush_64 ?_
            refine g_iload_n hx hb d_MD_limits_121 rfl rfl ?_
            refine n_imul hx hb d_MD_limits_122 ?_
            refine g_iload hx hb d_MD_limits_123 rfl ?_
            refine n_iadd hx hb d_MD_limits_125 ?_
            refine g_zald hx hb hK.1 (w_Ma (c := 87) (by decide) (by decide)) 1 rfl (show _ < 256 by omega) (by decide) rfl d_MD_limits_126 ?_
            refine g_val (show nI _ = nI (Z 87 (64 * n + (16 * q + Z 81 (4 * V 75 n + q)))) from congrArg nI (rlq_ne (by decide) (by omega) q)) ?_
            refine n_if_ne (tgt := 132) hx hb d_MD_limits_127 (by decide) (by omega) (fun hkn => ?_) (fun hkn => ?_)
            · refine g_aload_n hx hb d_MD_limits_132 rfl rfl ?_
              refine g_get hx hb hts (in_mw in_MD) hown hK.1 w_M rfl 16 (by decide) (hts _ (List.mem_cons_of_mem _ t_331)) rfl d_MD_limits_133 ?_
              refine g_iload hx hb d_MD_limits_136 rfl ?_
              refine g_iald hx hb hK.1 (w_Ma (c := 85) (by decide) (by decide)) 0 rfl (show _ < 64 by omega) (by decide) rfl d_MD_limits_138 ?_
              refine g_val (show nI _ = nI (Z 85 (16 * q + Z 81 (4 * V 75 n + q))) from congrArg nI (rlq_ne (by decide) (by omega) q)) ?_
              refine g_aload_n hx hb d_MD_limits_139 rfl rfl ?_
              refine g_get hx hb hts (in_mw in_MD) hown hK.1 w_M rfl 0 (by decide) (hts _ (List.mem_cons_of_mem _ t_315)) rfl d_MD_limits_140 ?_
              refine g_iload_n hx hb d_MD_limits_143 rfl rfl ?_
              refine g_iald hx hb hK.1 (w_Ma (c := 70) (by decide) (by decide)) 0 rfl (show _ < 4 by omega) (by decide) rfl d_MD_limits_144 ?_
              refine g_val (show nI _ = nI (Z 70 n) from congrArg nI (rlq_ne (by decide) (by omega) q)) ?_
              refine n_icmp_ne (tgt := 235) hx hb d_MD_limits_145 (by decide) (by omega) (by omega) (fun hsv => ?_) (fun hsv => ?_)
              · refine n_iinc (L' := [_, _, _, _, _, _, _]) hx hb d_MD_limits_235 rfl rfl ?_
                refine g_goto (tgt := 78) hx hb d_MD_limits_238 (by decide) ?_
                refine g_sub (L' := [_, _, _, _, _, none, none]) ⟨Or.inr rfl, Or.inr rfl, Or.inr rfl, Or.inr rfl, Or.inr rfl, Or.inl rfl, Or.inl rfl, trivial⟩ ?_
                refine g_w (congrArg (gw ad ct) (show _ = rlq Z n (V 75 n) (V 80 (V 75 n) &&& rps V n) (q + 1) from by rw [rlq, if_pos (Or.inr (Or.inl hsv))])) ?_
                exact ih_q (by omega) (fun j hj hb => by
                  rcases Nat.lt_succ_iff_lt_or_eq.mp hj with z | z
                  · exact hI_q j z hb
                  · rw [z]; exact hkn)
              · refine g_aload_n hx hb d_MD_limits_148 rfl rfl ?_
                refine g_get hx hb hts (in_mw in_MD) hown hK.1 w_M rfl 0 (by decide) (hts _ (List.mem_cons_of_mem _ t_315)) rfl d_MD_limits_149 ?_
                refine g_iload_n hx hb d_MD_limits_152 rfl rfl ?_
                refine g_iald hx hb hK.1 (w_Ma (c := 70) (by decide) (by decide)) 0 rfl (show _ < 4 by omega) (by decide) rfl d_MD_limits_153 ?_
                refine g_val (show nI _ = nI (Z 70 n) from congrArg nI (rlq_ne (by decide) (by omega) q)) ?_
                refine n_if_ne (tgt := 166) hx hb d_MD_limits_154 (by decide) (by omega) (fun hvw => ?_) (fun hvw => ?_)
                · refine g_aload_n hx hb d_MD_limits_166 rfl rfl ?_
                  refine g_aload_n hx hb d_MD_limits_167 rfl rfl ?_
                  refine g_get hx hb hts (in_mw in_MD) hown hK.1 w_M rfl 22 (by decide) (hts _ (List.mem_cons_of_mem _ t_337)) rfl d_MD_limits_168 ?_
                  refine g_iconst hx hb d_MD_limits_171 k_iconst_1 ?_
                  refine g_iload hx hb d_MD_limits_172 rfl ?_
                  refine n_ishl hx hb d_MD_limits_174 (by omega) (q_p32 (by omega)) ?_
                  refine g_val (show nI _ = nI (2 ^ q) from congrArg nI (Nat.one_mul _)) ?_
                  refine n_ior hx hb d_MD_limits_175 ?_
                  refine g_put (ty := .int) hx hb hts (in_mw in_MD) ty_MD tyo_MD nm_MD hown hK.1 (gw_D had) w_M rfl 22 (by decide) (hts _ (List.mem_cons_of_mem _ t_337)) rfl (by decide +kernel) rfl rfl (Nat.le_of_ble_eq_true rfl) d_MD_limits_176 (s_M22 _) ?_
                  have hcond : ¬ ((V 80 (V 75 n) &&& rps V n) / 2 ^ q % 2 = 0 ∨ ¬ Z 85 (16 * q + Z 81 (4 * V 75 n + q)) = Z 70 n ∨ (Z 70 n = 0 ∧ ¬ q = n)) := fun z => by
                    rcases z with z | z | z
                    · exact hbit z
                    · exact z hsv
                    · exact hvw z.1
                  obtain ⟨U, hU⟩ : ∃ U : VV, U = pt (rlq Z n (V 75 n) (V 80 (V 75 n) &&& rps V n) q) 69 22 ((rlq Z n (V 75 n) (V 80 (V 75 n) &&& rps V n) q) 69 22 ||| 2 ^ q) := ⟨_, rfl⟩
                  refine g_w (congrArg (gw ad ct) hU.symm) ?_
                  have u86 : ∀ k, U 86 k ≤ 4 := fun k => by rw [hU, pt_ne (by decide), rlq_ne (by decide) (by omega), zc 86 k (by decide) (by omega)]; exact hb0.cu k
                  have u90 : ∀ j, j < 4 → U 90 j ≤ 4 := fun j hj => by
                    rw [hU, pt_ne (by decide)]
                    exact rlq_le (fun i => by rw [zc 86 i (by decide) (by omega)]; exact hb0.cu i) (fun i hi => by rw [hZ, rl0_at, if_pos hi]; exact Nat.zero_le _) q j hj
                  refine g_iconst hx hb d_MD_limits_179 k_iconst_0 ?_
                  refine g_istore (L' := [_, _, _, _, _, _, _]) hx hb d_MD_limits_180 (Nat.le_of_ble_eq_true rfl) rfl ?_
                  refine g_loop 4 (fun r => gw ad ct (rlr U (16 * q + Z 81 (4 * V 75 n + q)) r)) (fun r => [some (.ref (ad 69)), some (.int (nI n)), some (.int (nI (V 75 n))), some (.int (nI ((V 80 (V 75 n)) &&& (rps V n)))), some (.int (nI q)), some (.int (nI ((16 * q) + (Z 81 (4 * V 75 n + q))))), some (.int (nI r))]) (fun r => True) 0 (by omega) trivial rfl rfl ?_
                  intro r hq0_r hqE_r hI_r ih_r
                  try dsimp only
                  refine g_iload hx hb d_MD_limits_182 rfl ?_
                  refine g_iconst hx hb d_MD_limits_184 k_iconst_4 ?_
                  refine n_icmp_ge (tgt := 235) hx hb d_MD_limits_185 (by decide) (by omega) (by omega) (fun hr4b => ?_) (fun hr4b => ?_)
                  · have hr4 : r = 4 := by omega
                    subst hr4
                    refine n_iinc (L' := [_, _, _, _, _, _, _]) hx hb d_MD_limits_235 rfl rfl ?_
                    refine g_goto (tgt := 78) hx hb d_MD_limits_238 (by decide) ?_
                    refine g_sub (L' := [_, _, _, _, _, none, none]) ⟨Or.inr rfl, Or.inr rfl, Or.inr rfl, Or.inr rfl, Or.inr rfl, Or.inl rfl, Or.inl rfl, trivial⟩ ?_
                    refine g_w (congrArg (gw ad ct) (show _ = rlq Z n (V 75 n) (V 80 (V 75 n) &&& rps V n) (q + 1) from by rw [rlq, if_neg hcond, hU])) ?_
                    exact ih_q (by omega) (fun j hj hb => by
                      rcases Nat.lt_succ_iff_lt_or_eq.mp hj with z | z
                      · exact hI_q j z hb
                      · rw [z]; exact hkn)
                  · have hcu := u86 (4 * (16 * q + Z 81 (4 * V 75 n + q)) + r)
                    have hli : rlr U (16 * q + Z 81 (4 * V 75 n + q)) r 90 r ≤ 4 := by
                      rw [rlr_at]
                      split
                      · exact u86 _
                      · exact u90 r (by omega)
                    refine g_aload_n hx hb d_MD_limits_188 rfl rfl ?_
                    refine g_get hx hb hts (in_mw in_MD) hown hK.1 w_M rfl 17 (by decide) (hts _ (List.mem_cons_of_mem _ t_332)) rfl d_MD_limits_189 ?_
                    refine g_iconst hx hb d_MD_limits_192 k_iconst_4 ?_
                    refine g_iload hx hb d_MD_limits_193 rfl ?_
                    refine n_imul hx hb d_MD_limits_195 ?_
                    refine g_iload hx hb d_MD_limits_196 rfl ?_
                    refine n_iadd hx hb d_MD_limits_198 ?_
                    refine g_iald hx hb hK.1 (w_Ma (c := 86) (by decide) (by decide)) 0 rfl (show _ < 256 by omega) (by decide) rfl d_MD_limits_199 ?_
                    refine g_val (show nI _ = nI (U 86 (4 * (16 * q + Z 81 (4 * V 75 n + q)) + r)) from congrArg nI (rlr_ne (by decide) r)) ?_
                    refine g_aload_n hx hb d_MD_limits_200 rfl rfl ?_
                    refine g_get hx hb hts (in_mw in_MD) hown hK.1 w_M rfl 21 (by decide) (hts _ (List.mem_cons_of_mem _ t_336)) rfl d_MD_limits_201 ?_
                    refine g_iload hx hb d_MD_limits_204 rfl ?_
                    refine g_iald hx hb hK.1 (w_Ma (c := 90) (by decide) (by decide)) 0 rfl (show _ < 4 by omega) (by decide) rfl d_MD_limits_206 ?_
                    refine n_icmp_le (tgt := 229) hx hb d_MD_limits_207 (by decide) (by omega) (by omega) (fun hle => ?_) (fun hle => ?_)
                    · refine n_iinc (L' := [_, _, _, _, _, _, _]) hx hb d_MD_limits_229 rfl rfl ?_
                      refine g_goto (tgt := 182) hx hb d_MD_limits_232 (by decide) ?_
                      refine g_w (congrArg (gw ad ct) (show _ = rlr U (16 * q + Z 81 (4 * V 75 n + q)) (r + 1) from by rw [rlr, if_neg (by omega)])) ?_
                      exact ih_r (by omega) trivial
                    · refine g_aload_n hx hb d_MD_limits_210 rfl rfl ?_
                      refine g_get hx hb hts (in_mw in_MD) hown hK.1 w_M rfl 21 (by decide) (hts _ (List.mem_cons_of_mem _ t_336)) rfl d_MD_limits_211 ?_
                      refine g_iload hx hb d_MD_limits_214 rfl ?_
                      refine g_aload_n hx hb d_MD_limits_216 rfl rfl ?_
                      refine g_get hx hb hts (in_mw in_MD) hown hK.1 w_M rfl 17 (by decide) (hts _ (List.mem_cons_of_mem _ t_332)) rfl d_MD_limits_217 ?_
                      refine g_iconst hx hb d_MD_limits_220 k_iconst_4 ?_
                      refine g_iload hx hb d_MD_limits_221 rfl ?_
                      refine n_imul hx hb d_MD_limits_223 ?_
                      refine g_iload hx hb d_MD_limits_224 rfl ?_
                      refine n_iadd hx hb d_MD_limits_226 ?_
                      refine g_iald hx hb hK.1 (w_Ma (c := 86) (by decide) (by decide)) 0 rfl (show _ < 256 by omega) (by decide) rfl d_MD_limits_227 ?_
                      refine g_val (show nI _ = nI (U 86 (4 * (16 * q + Z 81 (4 * V 75 n + q)) + r)) from congrArg nI (rlr_ne (by decide) r)) ?_
                      refine g_iast hx hb hK.1 (gw_D had) (w_Ma (c := 90) (by decide) (by decide)) 0 rfl (show _ < 4 by omega) (by decide) d_MD_limits_228 (s_Ma (c := 90) (by decide) (by decide) _ _) ?_
                      refine n_iinc (L' := [_, _, _, _, _, _, _]) hx hb d_MD_limits_229 rfl rfl ?_
                      refine g_goto (tgt := 182) hx hb d_MD_limits_232 (by decide) ?_
                      refine g_w (congrArg (gw ad ct) (show _ = rlr U (16 * q + Z 81 (4 * V 75 n + q)) (r + 1) from by rw [rlr, if_pos hle])) ?_
                      exact ih_r (by omega) trivial
                · refine g_iload hx hb d_MD_limits_157 rfl ?_
                  refine g_iload_n hx hb d_MD_limits_159 rfl rfl ?_
                  refine n_icmp_eq (tgt := 166) hx hb d_MD_limits_160 (by decide) (by omega) (by omega) (fun hqp => ?_) (fun hqp => ?_)
                  · refine g_aload_n hx hb d_MD_limits_166 rfl rfl ?_
                    refine g_aload_n hx hb d_MD_limits_167 rfl rfl ?_
                    refine g_get hx hb hts (in_mw in_MD) hown hK.1 w_M rfl 22 (by decide) (hts _ (List.mem_cons_of_mem _ t_337)) rfl d_MD_limits_168 ?_
                    refine g_iconst hx hb d_MD_limits_171 k_iconst_1 ?_
                    refine g_iload hx hb d_MD_limits_172 rfl ?_
                    refine n_ishl hx hb d_MD_limits_174 (by omega) (q_p32 (by omega)) ?_
                    refine g_val (show nI _ = nI (2 ^ q) from congrArg nI (Nat.one_mul _)) ?_
                    refine n_ior hx hb d_MD_limits_175 ?_
                    refine g_put (ty := .int) hx hb hts (in_mw in_MD) ty_MD tyo_MD nm_MD hown hK.1 (gw_D had) w_M rfl 22 (by decide) (hts _ (List.mem_cons_of_mem _ t_337)) rfl (by decide +kernel) rfl rfl (Nat.le_of_ble_eq_true rfl) d_MD_limits_176 (s_M22 _) ?_
                    have hcond : ¬ ((V 80 (V 75 n) &&& rps V n) / 2 ^ q % 2 = 0 ∨ ¬ Z 85 (16 * q + Z 81 (4 * V 75 n + q)) = Z 70 n ∨ (Z 70 n = 0 ∧ ¬ q = n)) := fun z => by
                      rcases z with z | z | z
                      · exact hbit z
                      · exact z hsv
                      · exact z.2 hqp
                    obtain ⟨U, hU⟩ : ∃ U : VV, U = pt (rlq Z n (V 75 n) (V 80 (V 75 n) &&& rps V n) q) 69 22 ((rlq Z n (V 75 n) (V 80 (V 75 n) &&& rps V n) q) 69 22 ||| 2 ^ q) := ⟨_, rfl⟩
                    refine g_w (congrArg (gw ad ct) hU.symm) ?_
                    have u86 : ∀ k, U 86 k ≤ 4 := fun k => by rw [hU, pt_ne (by decide), rlq_ne (by decide) (by omega), zc 86 k (by decide) (by omega)]; exact hb0.cu k
                    have u90 : ∀ j, j < 4 → U 90 j ≤ 4 := fun j hj => by
                      rw [hU, pt_ne (by decide)]
                      exact rlq_le (fun i => by rw [zc 86 i (by decide) (by omega)]; exact hb0.cu i) (fun i hi => by rw [hZ, rl0_at, if_pos hi]; exact Nat.zero_le _) q j hj
                    refine g_iconst hx hb d_MD_limits_179 k_iconst_0 ?_
                    refine g_istore (L' := [_, _, _, _, _, _, _]) hx hb d_MD_limits_180 (Nat.le_of_ble_eq_true rfl) rfl ?_
                    refine g_loop 4 (fun r => gw ad ct (rlr U (16 * q + Z 81 (4 * V 75 n + q)) r)) (fun r => [some (.ref (ad 69)), some (.int (nI n)), some (.int (nI (V 75 n))), some (.int (nI ((V 80 (V 75 n)) &&& (rps V n)))), some (.int (nI q)), some (.int (nI ((16 * q) + (Z 81 (4 * V 75 n + q))))), some (.int (nI r))]) (fun r => True) 0 (by omega) trivial rfl rfl ?_
                    intro r hq0_r hqE_r hI_r ih_r
                    try dsimp only
                    refine g_iload hx hb d_MD_limits_182 rfl ?_
                    refine g_iconst hx hb d_MD_limits_184 k_iconst_4 ?_
                    refine n_icmp_ge (tgt := 235) hx hb d_MD_limits_185 (by decide) (by omega) (by omega) (fun hr4b => ?_) (fun hr4b => ?_)
                    · have hr4 : r = 4 := by omega
                      subst hr4
                      refine n_iinc (L' := [_, _, _, _, _, _, _]) hx hb d_MD_limits_235 rfl rfl ?_
                      refine g_goto (tgt := 78) hx hb d_MD_limits_238 (by decide) ?_
                      refine g_sub (L' := [_, _, _, _, _, none, none]) ⟨Or.inr rfl, Or.inr rfl, Or.inr rfl, Or.inr rfl, Or.inr rfl, Or.inl rfl, Or.inl rfl, trivial⟩ ?_
                      refine g_w (congrArg (gw ad ct) (show _ = rlq Z n (V 75 n) (V 80 (V 75 n) &&& rps V n) (q + 1) from by rw [rlq, if_neg hcond, hU])) ?_
                      exact ih_q (by omega) (fun j hj hb => by
                        rcases Nat.lt_succ_iff_lt_or_eq.mp hj with z | z
                        · exact hI_q j z hb
                        · rw [z]; exact hkn)
                    · have hcu := u86 (4 * (16 * q + Z 81 (4 * V 75 n + q)) + r)
                      have hli : rlr U (16 * q + Z 81 (4 * V 75 n + q)) r 90 r ≤ 4 := by
                        rw [rlr_at]
                        split
                        · exact u86 _
                        · exact u90 r (by omega)
                      refine g_aload_n hx hb d_MD_limits_188 rfl rfl ?_
                      refine g_get hx hb hts (in_mw in_MD) hown hK.1 w_M rfl 17 (by decide) (hts _ (List.mem_cons_of_mem _ t_332)) rfl d_MD_limits_189 ?_
                      refine g_iconst hx hb d_MD_limits_192 k_iconst_4 ?_
                      refine g_iload hx hb d_MD_limits_193 rfl ?_
                      refine n_imul hx hb d_MD_limits_195 ?_
                      refine g_iload hx hb d_MD_limits_196 rfl ?_
                      refine n_iadd hx hb d_MD_limits_198 ?_
                      refine g_iald hx hb hK.1 (w_Ma (c := 86) (by decide) (by decide)) 0 rfl (show _ < 256 by omega) (by decide) rfl d_MD_limits_199 ?_
                      refine g_val (show nI _ = nI (U 86 (4 * (16 * q + Z 81 (4 * V 75 n + q)) + r)) from congrArg nI (rlr_ne (by decide) r)) ?_
                      refine g_aload_n hx hb d_MD_limits_200 rfl rfl ?_
                      refine g_get hx hb hts (in_mw in_MD) hown hK.1 w_M rfl 21 (by decide) (hts _ (List.mem_cons_of_mem _ t_336)) rfl d_MD_limits_201 ?_
                      refine g_iload hx hb d_MD_limits_204 rfl ?_
                      refine g_iald hx hb hK.1 (w_Ma (c := 90) (by decide) (by decide)) 0 rfl (show _ < 4 by omega) (by decide) rfl d_MD_limits_206 ?_
                      refine n_icmp_le (tgt := 229) hx hb d_MD_limits_207 (by decide) (by omega) (by omega) (fun hle => ?_) (fun hle => ?_)
                      · refine n_iinc (L' := [_, _, _, _, _, _, _]) hx hb d_MD_limits_229 rfl rfl ?_
                        refine g_goto (tgt := 182) hx hb d_MD_limits_232 (by decide) ?_
                        refine g_w (congrArg (gw ad ct) (show _ = rlr U (16 * q + Z 81 (4 * V 75 n + q)) (r + 1) from by rw [rlr, if_neg (by omega)])) ?_
                        exact ih_r (by omega) trivial
                      · refine g_aload_n hx hb d_MD_limits_210 rfl rfl ?_
                        refine g_get hx hb hts (in_mw in_MD) hown hK.1 w_M rfl 21 (by decide) (hts _ (List.mem_cons_of_mem _ t_336)) rfl d_MD_limits_211 ?_
                        refine g_iload hx hb d_MD_limits_214 rfl ?_
                        refine g_aload_n hx hb d_MD_limits_216 rfl rfl ?_
                        refine g_get hx hb hts (in_mw in_MD) hown hK.1 w_M rfl 17 (by decide) (hts _ (List.mem_cons_of_mem _ t_332)) rfl d_MD_limits_217 ?_
                        refine g_iconst hx hb d_MD_limits_220 k_iconst_4 ?_
                        refine g_iload hx hb d_MD_limits_221 rfl ?_
                        refine n_imul hx hb d_MD_limits_223 ?_
                        refine g_iload hx hb d_MD_limits_224 rfl ?_
                        refine n_iadd hx hb d_MD_limits_226 ?_
                        refine g_iald hx hb hK.1 (w_Ma (c := 86) (by decide) (by decide)) 0 rfl (show _ < 256 by omega) (by decide) rfl d_MD_limits_227 ?_
                        refine g_val (show nI _ = nI (U 86 (4 * (16 * q + Z 81 (4 * V 75 n + q)) + r)) from congrArg nI (rlr_ne (by decide) r)) ?_
                        refine g_iast hx hb hK.1 (gw_D had) (w_Ma (c := 90) (by decide) (by decide)) 0 rfl (show _ < 4 by omega) (by decide) d_MD_limits_228 (s_Ma (c := 90) (by decide) (by decide) _ _) ?_
                        refine n_iinc (L' := [_, _, _, _, _, _, _]) hx hb d_MD_limits_229 rfl rfl ?_
                        refine g_goto (tgt := 182) hx hb d_MD_limits_232 (by decide) ?_
                        refine g_w (congrArg (gw ad ct) (show _ = rlr U (16 * q + Z 81 (4 * V 75 n + q)) (r + 1) from by rw [rlr, if_pos hle])) ?_
                        exact ih_r (by omega) trivial
                  · refine g_goto (tgt := 235) hx hb d_MD_limits_163 (by decide) ?_
                    refine n_iinc (L' := [_, _, _, _, _, _, _]) hx hb d_MD_limits_235 rfl rfl ?_
                    refine g_goto (tgt := 78) hx hb d_MD_limits_238 (by decide) ?_
                    refine g_sub (L' := [_, _, _, _, _, none, none]) ⟨Or.inr rfl, Or.inr rfl, Or.inr rfl, Or.inr rfl, Or.inr rfl, Or.inl rfl, Or.inl rfl, trivial⟩ ?_
                    refine g_w (congrArg (gw ad ct) (show _ = rlq Z n (V 75 n) (V 80 (V 75 n) &&& rps V n) (q + 1) from by rw [rlq, if_pos (Or.inr (Or.inr ⟨hvw, hqp⟩))])) ?_
                    exact ih_q (by omega) (fun j hj hb => by
                      rcases Nat.lt_succ_iff_lt_or_eq.mp hj with z | z
                      · exact hI_q j z hb
                      · rw [z]; exact hkn)
            · refine g_iconst hx hb d_MD_limits_130 k_iconst_0 ?_
              exact g_iret hx hb hr hlk d_MD_limits_131 (⟨0, _, Or.inr (Or.inr (Or.inl ⟨rfl, hb2, hv0, fun z => z q hq hbit (by rw [zc 87 _ (by decide) (by omega), zc 81 _ (by decide) (by omega)] at hkn; exact hkn), fun c k z1 z2 => by rw [rlq_ne z1 z2]; exact zc c k z1 z2⟩)), rfl, rfl⟩)
          · refine g_goto (tgt := 235) hx hb d_MD_limits_112 (by decide) ?_
            refine n_iinc (L' := [_, _, _, _, _, _, _]) hx hb d_MD_limits_235 rfl rfl ?_
            refine g_goto (tgt := 78) hx hb d_MD_limits_238 (by decide) ?_
            refine g_sub (L' := [_, _, _, _, _, none, none]) ⟨Or.inr rfl, Or.inr rfl, Or.inr rfl, Or.inr rfl, Or.inr rfl, Or.inl rfl, Or.inl rfl, trivial⟩ ?_
            refine g_w (congrArg (gw ad ct) (show _ = rlq Z n (V 75 n) (V 80 (V 75 n) &&& rps V n) (q + 1) from by rw [rlq, if_pos (Or.inl hbit)])) ?_
            exact ih_q (by omega) (fun j hj hb => by
              rcases Nat.lt_succ_iff_lt_or_eq.mp hj with z | z
              · exact hI_q j z hb
              · exact absurd (z ▸ hbit) hb)
      · refine g_iconst hx hb d_MD_limits_60 k_iconst_0 ?_
        exact g_iret hx hb hr hlk d_MD_limits_61 (⟨0, _, Or.inr (Or.inl ⟨rfl, hb2, hv0, fun c k z1 z2 => by rw [rl0_ne z1]; exact (rsm.rfl'.put69 0) c k z1 z2⟩), rfl, rfl⟩)
    · refine g_iconst hx hb d_MD_limits_47 k_iconst_1 ?_
      exact g_iret hx hb hr hlk d_MD_limits_48 (⟨1, _, Or.inl ⟨rfl, hb2, by rw [if_pos hb2]⟩, rfl, rfl⟩)
  · refine g_aload_n hx hb d_MD_limits_12 rfl rfl ?_
    refine g_get hx hb hts (in_mw in_MD) hown hK.1 w_M rfl 21 (by decide) (hts _ (List.mem_cons_of_mem _ t_336)) rfl d_MD_limits_13 ?_
    refine g_iload_n hx hb d_MD_limits_16 rfl rfl ?_
    refine g_aload_n hx hb d_MD_limits_17 rfl rfl ?_
    refine g_get hx hb hts (in_mw in_MD) hown hK.1 w_M rfl 4 (by decide) (hts _ (List.mem_cons_of_mem _ t_319)) rfl d_MD_limits_18 ?_
    refine g_iload_n hx hb d_MD_limits_21 rfl rfl ?_
    refine g_zald hx hb hK.1 (w_Ma (c := 74) (by decide) (by decide)) 1 rfl (show _ < 4 by omega) (by decide) rfl d_MD_limits_22 ?_
    refine g_val (show nI _ = nI (V 74 n) from congrArg nI (by rw [rl0_ne (by decide), pt_ne (by decide)])) ?_
    refine n_if_eq (tgt := 30) hx hb d_MD_limits_23 (by decide) (by omega) (fun hbl => ?_) (fun hbl => ?_)
    · refine g_iconst hx hb d_MD_limits_30 k_iconst_4 ?_
      refine g_iast hx hb hK.1 (gw_D had) (w_Ma (c := 90) (by decide) (by decide)) 0 rfl (show _ < 4 by omega) (by decide) d_MD_limits_31 (s_Ma (c := 90) (by decide) (by decide) _ _) ?_
      refine n_iinc (L' := [_, _, _, _, _, _, _]) hx hb d_MD_limits_32 rfl rfl ?_
      refine g_goto (tgt := 7) hx hb d_MD_limits_35 (by decide) ?_
      refine g_w (congrArg (gw ad ct) (show _ = rl0 (pt V 69 22 0) (if V 74 n = 0 then 4 else 0) (r + 1) from by rw [rl0, if_pos hbl])) ?_
      exact ih_r (by omega) trivial
    · refine g_iconst hx hb d_MD_limits_26 k_iconst_0 ?_
      refine g_goto (tgt := 31) hx hb d_MD_limits_27 (by decide) ?_
      refine g_iast hx hb hK.1 (gw_D had) (w_Ma (c := 90) (by decide) (by decide)) 0 rfl (show _ < 4 by omega) (by decide) d_MD_limits_31 (s_Ma (c := 90) (by decide) (by decide) _ _) ?_
      refine n_iinc (L' := [_, _, _, _, _, _, _]) hx hb d_MD_limits_32 rfl rfl ?_
      refine g_goto (tgt := 7) hx hb d_MD_limits_35 (by decide) ?_
      refine g_w (congrArg (gw ad ct) (show _ = rl0 (pt V 69 22 0) (if V 74 n = 0 then 4 else 0) (r + 1) from by rw [rl0, if_neg hbl])) ?_
      exact ih_r (by omega) trivial
set_option maxRecDepth 100000 in
set_option maxHeartbeats 4000000 in
theorem ct_MD_step (l : Launch) (D : va_G) (ad : Nat → Nat) (ct : Nat → ClassId) (had : adOk ad) (V : VV) (n : Nat) (h1 : n < 2 ^ 32) (hrb : RB V) : CTi l y_MD_step (mw y_MD_step c_MD_step 5 (some .int)) { frames := 2, cells := 0, slots := 0, locals := 47 } (gK D ct) D vcl (gA ad) [.ref (ad 69), .int (nI n)] (gw ad ct V) (fun r w => (¬ n < 4 ∧ r = -1 ∧ w = gw ad ct V) ∨ (n < 4 ∧ ∃ X', rStep V n r X' ∧ w = gw ad ct X')) := by
  refine ct_i (by decide) rfl rfl (Nat.le_of_ble_eq_true rfl) ?_
  intro pg en sx mx blw mth cdx hx hb hr hts hown hlk hml hK
  refine g_L (L' := [_, _, _, _, _]) rfl ?_
  refine g_iload_n hx hb d_MD_step_0 rfl rfl ?_
  refine g_iconst hx hb d_MD_step_1 k_iconst_0 ?_
  refine g_iconst hx hb d_MD_step_2 k_iconst_3 ?_
  refine g_callSi (nn := 3) ⟨hx, hb, hml.trans rfl, hown, hts⟩ (ct_MD_within l D ad ct had _ _ _ _ (by omega) (by omega) (by omega)) (mk_S hts t_390 t_391 t_4 t_392 rfl rfl (by decide +kernel) ⟨Nat.le_of_ble_eq_true rfl, Nat.le_of_ble_eq_true rfl⟩) (fun _ h => h) (gK_ok D ct) hK (Nat.le_of_ble_eq_true rfl) ⟨Nat.zero_le _, Nat.zero_le _⟩ rfl rfl d_MD_step_3 ?_
  rintro _ _ ⟨rfl, rfl⟩
  refine n_if_ne (tgt := 11) hx hb d_MD_step_6 (by decide) bN_lt (fun hn => ?_) (fun hn => ?_)
  · have hn := bN_n0.mp hn
    have hn : n < 4 := by omega
    refine g_aload_n hx hb d_MD_step_11 rfl rfl ?_
    refine g_iload_n hx hb d_MD_step_12 rfl rfl ?_
    refine g_callVi (C := "GroupViewsModel") (nn := 1) ⟨hx, hb, hml.trans rfl, hown, hts⟩ (ct_MD_limits l D ad ct had _ _ hn hrb.1) (mk_V hts t_421 t_423 ts_MD_limits t_4 t_424 rfl rfl (by decide +kernel) ⟨Nat.le_of_ble_eq_true rfl, Nat.le_of_ble_eq_true rfl⟩) hK.1 rfl w_M rfl (fun _ h => h) (gK_ok D ct) hK (Nat.le_of_ble_eq_true rfl) ⟨Nat.zero_le _, Nat.zero_le _⟩ rfl rfl d_MD_step_13 ?_
    rintro _ _ ⟨hw, Z, hlm, rfl, rfl⟩
    obtain ⟨hs, hw2, h90⟩ := rlim_ok hrb.1 hlm
    have hbZ := hrb.1.rsm hs
    have hpZ := hbZ.p n hn
    have hvZ := hbZ.v
    refine g_istore_n (L' := [_, _, _, _, _]) hx hb d_MD_step_16 rfl (Nat.le_of_ble_eq_true rfl) rfl ?_
    refine g_iload_n hx hb d_MD_step_17 rfl rfl ?_
    refine n_if_ne (tgt := 23) hx hb d_MD_step_18 (by decide) (by omega) (fun hw0 => ?_) (fun hw0 => ?_)
    · refine g_iconst hx hb d_MD_step_23 k_iconst_0 ?_
      refine g_istore_n (L' := [_, _, _, _, _]) hx hb d_MD_step_24 rfl (Nat.le_of_ble_eq_true rfl) rfl ?_
      refine g_loop 4 (fun q => gw ad ct Z) (fun q => [some (.ref (ad 69)), some (.int (nI n)), some (.int (nI hw)), some (.int (nI q)), none]) (fun q => ∀ j, j < q → ¬ rdl Z n j) 0 (by omega) (fun j hj => absurd hj (Nat.not_lt_zero j)) rfl rfl ?_
      intro q hq0_q hqE_q hI_q ih_q
      try dsimp only
      refine g_iload_n hx hb d_MD_step_25 rfl rfl ?_
      refine g_iconst hx hb d_MD_step_26 k_iconst_4 ?_
      refine n_icmp_ge (tgt := 114) hx hb d_MD_step_27 (by decide) (by omega) (by omega) (fun hc1 => ?_) (fun hc1 => ?_)
      · have hnone : ∀ j, j < 4 → ¬ rdl Z n j := fun j hj => hI_q j (by omega)
        clear hI_q ih_q hqE_q hq0_q
        refine g_iload_n hx hb d_MD_step_114 rfl rfl ?_
        refine g_iconst hx hb d_MD_step_115 k_iconst_1 ?_
        refine n_icmp_ne (tgt := 121) hx hb d_MD_step_116 (by decide) (by omega) (by omega) (fun hw1 => ?_) (fun hw1 => ?_)
        · refine g_iconst hx hb d_MD_step_121 k_iconst_0 ?_
          refine g_istore_n (L' := [_, _, _, _, _]) hx hb d_MD_step_122 rfl (Nat.le_of_ble_eq_true rfl) rfl ?_
          refine g_loop 4 (fun j => gw ad ct Z) (fun j => [some (.ref (ad 69)), some (.int (nI n)), some (.int (nI hw)), some (.int (nI j)), none]) (fun j => ∀ i, i < j → Z 78 (4 * n + i) = Z 90 i) 0 (by omega) (fun i hi => absurd hi (Nat.not_lt_zero i)) rfl rfl ?_
          intro j hq0_j hqE_j hI_j ih_j
          try dsimp only
          refine g_iload_n hx hb d_MD_step_123 rfl rfl ?_
          refine g_iconst hx hb d_MD_step_124 k_iconst_4 ?_
          refine n_icmp_ge (tgt := 155) hx hb d_MD_step_125 (by decide) (by omega) (by omega) (fun hc2 => ?_) (fun hc2 => ?_)
          · have hall : ∀ i, i < 4 → Z 78 (4 * n + i) = Z 90 i := fun i hi => hI_j i (by omega)
            clear hI_j ih_j hqE_j hq0_j
            refine g_aload_n hx hb d_MD_step_155 rfl rfl ?_
            refine g_get hx hb hts (in_mw in_MD) hown hK.1 w_M rfl 0 (by decide) (hts _ (List.mem_cons_of_mem _ t_315)) rfl d_MD_step_156 ?_
            refine g_iload_n hx hb d_MD_step_159 rfl rfl ?_
            refine g_aload_n hx hb d_MD_step_160 rfl rfl ?_
            refine g_get hx hb hts (in_mw in_MD) hown hK.1 w_M rfl 5 (by decide) (hts _ (List.mem_cons_of_mem _ t_320)) rfl d_MD_step_161 ?_
            refine g_iload_n hx hb d_MD_step_164 rfl rfl ?_
            refine g_iald hx hb hK.1 (w_Ma (c := 75) (by decide) (by decide)) 0 rfl (show _ < 4 by omega) (by decide) rfl d_MD_step_165 ?_
            refine g_iast hx hb hK.1 (gw_D had) (w_Ma (c := 70) (by decide) (by decide)) 0 rfl (show _ < 4 by omega) (by decide) d_MD_step_166 (s_Ma (c := 70) (by decide) (by decide) _ _) ?_
            refine g_aload_n hx hb d_MD_step_167 rfl rfl ?_
            refine g_iload_n hx hb d_MD_step_168 rfl rfl ?_
            refine g_iconst hx hb d_MD_step_169 k_iconst_2 ?_
            refine g_aload_n hx hb d_MD_step_170 rfl rfl ?_
            refine g_get hx hb hts (in_mw in_MD) hown hK.1 w_M rfl 0 (by decide) (hts _ (List.mem_cons_of_mem _ t_315)) rfl d_MD_step_171 ?_
            refine g_iload_n hx hb d_MD_step_174 rfl rfl ?_
            refine g_iald hx hb hK.1 (w_Ma (c := 70) (by decide) (by decide)) 0 rfl (show _ < 4 by omega) (by decide) rfl d_MD_step_175 ?_
            refine g_val (show nI _ = nI (Z 75 n) from congrArg nI (by simp (disch := omega) only [pt_eq, pt_ne, pt_nk])) ?_
            refine g_aload_n hx hb d_MD_step_176 rfl rfl ?_
            refine g_get hx hb hts (in_mw in_MD) hown hK.1 w_M rfl 11 (by decide) (hts _ (List.mem_cons_of_mem _ t_326)) rfl d_MD_step_177 ?_
            refine g_aload_n hx hb d_MD_step_180 rfl rfl ?_
            refine g_get hx hb hts (in_mw in_MD) hown hK.1 w_M rfl 0 (by decide) (hts _ (List.mem_cons_of_mem _ t_315)) rfl d_MD_step_181 ?_
            refine g_iload_n hx hb d_MD_step_184 rfl rfl ?_
            refine g_iald hx hb hK.1 (w_Ma (c := 70) (by decide) (by decide)) 0 rfl (show _ < 4 by omega) (by decide) rfl d_MD_step_185 ?_
            refine g_val (show nI _ = nI (Z 75 n) from congrArg nI (by simp (disch := omega) only [pt_eq, pt_ne, pt_nk])) ?_
            refine g_iald hx hb hK.1 (w_Ma (c := 80) (by decide) (by decide)) 0 rfl (show _ < 16 by omega) (by decide) rfl d_MD_step_186 ?_
            refine g_val (show nI _ = nI (Z 80 (Z 75 n)) from congrArg nI (by simp (disch := omega) only [pt_eq, pt_ne, pt_nk])) ?_
            refine g_aload_n hx hb d_MD_step_187 rfl rfl ?_
            refine g_get hx hb hts (in_mw in_MD) hown hK.1 w_M rfl 22 (by decide) (hts _ (List.mem_cons_of_mem _ t_337)) rfl d_MD_step_188 ?_
            refine g_val (show nI _ = nI (Z 69 22) from congrArg nI (by simp (disch := omega) only [pt_eq, pt_ne, pt_nk])) ?_
            refine g_callVv (C := "GroupViewsModel") (nn := 5) ⟨hx, hb, hml.trans rfl, hown, hts⟩ (ct_MD_note l D ad ct had _ _ _ _ _ _ (by omega)) (mk_V hts t_429 t_431 ts_MD_note t_4 t_432 rfl rfl (by decide +kernel) ⟨Nat.le_of_ble_eq_true rfl, Nat.le_of_ble_eq_true rfl⟩) hK.1 rfl w_M rfl (fun _ h => h) (gK_ok D ct) hK (Nat.le_of_ble_eq_true rfl) ⟨Nat.zero_le _, Nat.zero_le _⟩ rfl rfl d_MD_step_191 ?_
            rintro _ rfl
            refine g_aload_n hx hb d_MD_step_194 rfl rfl ?_
            refine g_get hx hb hts (in_mw in_MD) hown hK.1 w_M rfl 5 (by decide) (hts _ (List.mem_cons_of_mem _ t_320)) rfl d_MD_step_195 ?_
            refine g_iload_n hx hb d_MD_step_198 rfl rfl ?_
            refine g_iconst hx hb d_MD_step_199 k_iconst_0 ?_
            refine g_iast hx hb hK.1 (gw_D had) (w_Ma (c := 75) (by decide) (by decide)) 0 rfl (show _ < 4 by omega) (by decide) d_MD_step_200 (s_Ma (c := 75) (by decide) (by decide) _ _) ?_
            refine g_aload_n hx hb d_MD_step_201 rfl rfl ?_
            refine g_get hx hb hts (in_mw in_MD) hown hK.1 w_M rfl 4 (by decide) (hts _ (List.mem_cons_of_mem _ t_319)) rfl d_MD_step_202 ?_
            refine g_iload_n hx hb d_MD_step_205 rfl rfl ?_
            refine g_iconst hx hb d_MD_step_206 k_iconst_0 ?_
            refine g_zast hx hb hK.1 (gw_D had) (w_Ma (c := 74) (by decide) (by decide)) 1 rfl (show _ < 4 by omega) (by decide) d_MD_step_207 (by decide +kernel) (s_Ma (c := 74) (by decide) (by decide) _ _) ?_
            refine g_aload_n hx hb d_MD_step_208 rfl rfl ?_
            refine g_get hx hb hts (in_mw in_MD) hown hK.1 w_M rfl 7 (by decide) (hts _ (List.mem_cons_of_mem _ t_322)) rfl d_MD_step_209 ?_
            refine g_iload_n hx hb d_MD_step_212 rfl rfl ?_
            refine g_iconst hx hb d_MD_step_213 k_iconst_0 ?_
            refine g_iast hx hb hK.1 (gw_D had) (w_Ma (c := 77) (by decide) (by decide)) 0 rfl (show _ < 4 by omega) (by decide) d_MD_step_214 (s_Ma (c := 77) (by decide) (by decide) _ _) ?_
            refine g_iconst hx hb d_MD_step_215 k_iconst_0 ?_
            refine g_istore_n (L' := [_, _, _, _, _]) hx hb d_MD_step_216 rfl (Nat.le_of_ble_eq_true rfl) rfl ?_
            refine g_loop 4 (fun k => gw ad ct (rz4 (pt (pt (pt (rev (pt Z 70 n (Z 75 n)) n 2 (Z 75 n) (Z 80 (Z 75 n)) (Z 69 22)) 75 n 0) 74 n 0) 77 n 0) n k)) (fun k => [some (.ref (ad 69)), some (.int (nI n)), some (.int (nI hw)), some (.int (nI k)), none]) (fun k => True) 0 (by omega) trivial rfl rfl ?_
            intro k hq0_k hqE_k hI_k ih_k
            try dsimp only
            refine g_iload_n hx hb d_MD_step_217 rfl rfl ?_
            refine g_iconst hx hb d_MD_step_218 k_iconst_4 ?_
            refine n_icmp_ge (tgt := 239) hx hb d_MD_step_219 (by decide) (by omega) (by omega) (fun hc3 => ?_) (fun hc3 => ?_)
            · have hk4 : k = 4 := by omega
              subst hk4
              refine g_iconst hx hb d_MD_step_239 k_iconst_2 ?_
              exact g_iret hx hb hr hlk d_MD_step_240 (Or.inr ⟨hn, _, ⟨hw, Z, hlm, Or.inr (Or.inr (Or.inr (Or.inr ⟨by omega, hnone, hall, n2_eq, rfl⟩)))⟩, rfl⟩)
            · refine g_aload_n hx hb d_MD_step_222 rfl rfl ?_
              refine g_get hx hb hts (in_mw in_MD) hown hK.1 w_M rfl 8 (by decide) (hts _ (List.mem_cons_of_mem _ t_323)) rfl d_MD_step_223 ?_
              refine g_iconst hx hb d_MD_step_226 k_iconst_4 ?_
              refine g_iload_n hx hb d_MD_step_227 rfl rfl ?_
              refine n_imul hx hb d_MD_step_228 ?_
              refine g_iload_n hx hb d_MD_step_229 rfl rfl ?_
              refine n_iadd hx hb d_MD_step_230 ?_
              refine g_iconst hx hb d_MD_step_231 k_iconst_0 ?_
              refine g_iast hx hb hK.1 (gw_D had) (w_Ma (c := 78) (by decide) (by decide)) 0 rfl (show _ < 16 by omega) (by decide) d_MD_step_232 (s_Ma (c := 78) (by decide) (by decide) _ _) ?_
              refine n_iinc (L' := [_, _, _, _, _]) hx hb d_MD_step_233 rfl rfl ?_
              refine g_goto (tgt := 217) hx hb d_MD_step_236 (by decide) ?_
              exact ih_k (by omega) trivial
          · have x1 := hbZ.d (4 * n + j)
            have x2 := h90 hw0 j (by omega)
            refine g_aload_n hx hb d_MD_step_128 rfl rfl ?_
            refine g_get hx hb hts (in_mw in_MD) hown hK.1 w_M rfl 8 (by decide) (hts _ (List.mem_cons_of_mem _ t_323)) rfl d_MD_step_129 ?_
            refine g_iconst hx hb d_MD_step_132 k_iconst_4 ?_
            refine g_iload_n hx hb d_MD_step_133 rfl rfl ?_
            refine n_imul hx hb d_MD_step_134 ?_
            refine g_iload_n hx hb d_MD_step_135 rfl rfl ?_
            refine n_iadd hx hb d_MD_step_136 ?_
            refine g_iald hx hb hK.1 (w_Ma (c := 78) (by decide) (by decide)) 0 rfl (show _ < 16 by omega) (by decide) rfl d_MD_step_137 ?_
            refine g_aload_n hx hb d_MD_step_138 rfl rfl ?_
            refine g_get hx hb hts (in_mw in_MD) hown hK.1 w_M rfl 21 (by decide) (hts _ (List.mem_cons_of_mem _ t_336)) rfl d_MD_step_139 ?_
            refine g_iload_n hx hb d_MD_step_142 rfl rfl ?_
            refine g_iald hx hb hK.1 (w_Ma (c := 90) (by decide) (by decide)) 0 rfl (show _ < 4 by omega) (by decide) rfl d_MD_step_143 ?_
            refine n_icmp_eq (tgt := 149) hx hb d_MD_step_144 (by decide) (by omega) (by omega) (fun heq => ?_) (fun heq => ?_)
            · refine n_iinc (L' := [_, _, _, _, _]) hx hb d_MD_step_149 rfl rfl ?_
              refine g_goto (tgt := 123) hx hb d_MD_step_152 (by decide) ?_
              refine ih_j (by omega) (fun i hi => ?_)
              rcases Nat.lt_succ_iff_lt_or_eq.mp hi with z | z
              · exact hI_j i z
              · rw [z]; exact heq
            · refine g_iconst hx hb d_MD_step_147 k_iconst_0 ?_
              exact g_iret hx hb hr hlk d_MD_step_148 (Or.inr ⟨hn, _, ⟨hw, Z, hlm, Or.inr (Or.inr (Or.inr (Or.inl ⟨by omega, hnone, fun z => heq (z j (by omega)), n0_eq, rfl⟩)))⟩, rfl⟩)
        · refine g_iconst hx hb d_MD_step_119 k_iconst_0 ?_
          exact g_iret hx hb hr hlk d_MD_step_120 (Or.inr ⟨hn, _, ⟨hw, Z, hlm, Or.inr (Or.inr (Or.inl ⟨hw1, hnone, n0_eq, rfl⟩))⟩, rfl⟩)
      · have hq : q < 4 := by omega
        refine g_aload_n hx hb d_MD_step_30 rfl rfl ?_
        refine g_iload_n hx hb d_MD_step_31 rfl rfl ?_
        refine g_iload_n hx hb d_MD_step_32 rfl rfl ?_
        refine g_callVi (C := "GroupViewsModel") (nn := 2) ⟨hx, hb, hml.trans rfl, hown, hts⟩ (ct_MD_deliverable l D ad ct had _ _ _ hn hq hbZ (h90 hw0)) (mk_V hts t_425 t_427 ts_MD_deliverable t_4 t_428 rfl rfl (by decide +kernel) ⟨Nat.le_of_ble_eq_true rfl, Nat.le_of_ble_eq_true rfl⟩) hK.1 rfl w_M rfl (fun _ h => h) (gK_ok D ct) hK (Nat.le_of_ble_eq_true rfl) ⟨Nat.zero_le _, Nat.zero_le _⟩ rfl rfl d_MD_step_33 ?_
        rintro _ _ ⟨rfl, rfl⟩
        refine n_if_ne (tgt := 42) hx hb d_MD_step_36 (by decide) bC_lt (fun hdl => ?_) (fun hdl => ?_)
        · have hdl := bC_n0.mp hdl
          have c3 := hdl.1
          have c4 := h90 hw0 q hq
          refine g_bipush hx hb d_MD_step_42 k_bipush_16 ?_
          refine g_aload_n hx hb d_MD_step_44 rfl rfl ?_
          refine g_get hx hb hts (in_mw in_MD) hown hK.1 w_M rfl 0 (by decide) (hts _ (List.mem_cons_of_mem _ t_315)) rfl d_MD_step_45 ?_
          refine g_iload_n hx hb d_MD_step_48 rfl rfl ?_
          refine g_iald hx hb hK.1 (w_Ma (c := 70) (by decide) (by decide)) 0 rfl (show _ < 4 by omega) (by decide) rfl d_MD_step_49 ?_
          refine n_imul hx hb d_MD_step_50 ?_
          refine g_iconst hx hb d_MD_step_51 k_iconst_4 ?_
          refine g_iload_n hx hb d_MD_step_52 rfl rfl ?_
          refine n_imul hx hb d_MD_step_53 ?_
          refine n_iadd hx hb d_MD_step_54 ?_
          refine g_aload_n hx hb d_MD_step_55 rfl rfl ?_
          refine g_get hx hb hts (in_mw in_MD) hown hK.1 w_M rfl 8 (by decide) (hts _ (List.mem_cons_of_mem _ t_323)) rfl d_MD_step_56 ?_
          refine g_iconst hx hb d_MD_step_59 k_iconst_4 ?_
          refine g_iload_n hx hb d_MD_step_60 rfl rfl ?_
          refine n_imul hx hb d_MD_step_61 ?_
          refine g_iload_n hx hb d_MD_step_62 rfl rfl ?_
          refine n_iadd hx hb d_MD_step_63 ?_
          refine g_iald hx hb hK.1 (w_Ma (c := 78) (by decide) (by decide)) 0 rfl (show _ < 16 by omega) (by decide) rfl d_MD_step_64 ?_
          refine n_iadd hx hb d_MD_step_65 ?_
          refine g_istore (L' := [_, _, _, _, _]) hx hb d_MD_step_66 (Nat.le_of_ble_eq_true rfl) rfl ?_
          refine g_aload_n hx hb d_MD_step_68 rfl rfl ?_
          refine g_get hx hb hts (in_mw in_MD) hown hK.1 w_M rfl 8 (by decide) (hts _ (List.mem_cons_of_mem _ t_323)) rfl d_MD_step_69 ?_
          refine g_iconst hx hb d_MD_step_72 k_iconst_4 ?_
          refine g_iload_n hx hb d_MD_step_73 rfl rfl ?_
          refine n_imul hx hb d_MD_step_74 ?_
          refine g_iload_n hx hb d_MD_step_75 rfl rfl ?_
          refine n_iadd hx hb d_MD_step_76 ?_
          refine g_dup2 hx hb d_MD_step_77 rfl rfl ?_
          refine g_iald hx hb hK.1 (w_Ma (c := 78) (by decide) (by decide)) 0 rfl (show _ < 16 by omega) (by decide) rfl d_MD_step_78 ?_
          refine g_iconst hx hb d_MD_step_79 k_iconst_1 ?_
          refine n_iadd hx hb d_MD_step_80 ?_
          refine g_iast hx hb hK.1 (gw_D had) (w_Ma (c := 78) (by decide) (by decide)) 0 rfl (show _ < 16 by omega) (by decide) d_MD_step_81 (s_Ma (c := 78) (by decide) (by decide) _ _) ?_
          refine g_aload_n hx hb d_MD_step_82 rfl rfl ?_
          refine g_iload_n hx hb d_MD_step_83 rfl rfl ?_
          refine g_iconst hx hb d_MD_step_84 k_iconst_1 ?_
          refine g_iload_n hx hb d_MD_step_85 rfl rfl ?_
          refine g_aload_n hx hb d_MD_step_86 rfl rfl ?_
          refine g_get hx hb hts (in_mw in_MD) hown hK.1 w_M rfl 8 (by decide) (hts _ (List.mem_cons_of_mem _ t_323)) rfl d_MD_step_87 ?_
          refine g_iconst hx hb d_MD_step_90 k_iconst_4 ?_
          refine g_iload_n hx hb d_MD_step_91 rfl rfl ?_
          refine n_imul hx hb d_MD_step_92 ?_
          refine g_iload_n hx hb d_MD_step_93 rfl rfl ?_
          refine n_iadd hx hb d_MD_step_94 ?_
          refine g_iald hx hb hK.1 (w_Ma (c := 78) (by decide) (by decide)) 0 rfl (show _ < 16 by omega) (by decide) rfl d_MD_step_95 ?_
          refine g_val (show nI _ = nI ((Z 78 ((4 * n) + q)) + 1) from congrArg nI (by simp (disch := omega) only [pt_eq, pt_ne, pt_nk])) ?_
          refine g_aload_n hx hb d_MD_step_96 rfl rfl ?_
          refine g_get hx hb hts (in_mw in_MD) hown hK.1 w_M rfl 13 (by decide) (hts _ (List.mem_cons_of_mem _ t_328)) rfl d_MD_step_97 ?_
          refine g_iload hx hb d_MD_step_100 rfl ?_
          refine g_iald hx hb hK.1 (w_Ma (c := 82) (by decide) (by decide)) 0 rfl (show _ < 256 by omega) (by decide) rfl d_MD_step_102 ?_
          refine g_val (show nI _ = nI (Z 82 (((16 * (Z 70 n)) + (4 * q)) + (Z 78 ((4 * n) + q)))) from congrArg nI (by simp (disch := omega) only [pt_eq, pt_ne, pt_nk])) ?_
          refine g_callVv (C := "GroupViewsModel") (nn := 5) ⟨hx, hb, hml.trans rfl, hown, hts⟩ (ct_MD_note l D ad ct had _ _ _ _ _ _ (by omega)) (mk_V hts t_429 t_431 ts_MD_note t_4 t_432 rfl rfl (by decide +kernel) ⟨Nat.le_of_ble_eq_true rfl, Nat.le_of_ble_eq_true rfl⟩) hK.1 rfl w_M rfl (fun _ h => h) (gK_ok D ct) hK (Nat.le_of_ble_eq_true rfl) ⟨Nat.zero_le _, Nat.zero_le _⟩ rfl rfl d_MD_step_103 ?_
          rintro _ rfl
          refine g_iconst hx hb d_MD_step_106 k_iconst_1 ?_
          exact g_iret hx hb hr hlk d_MD_step_107 (Or.inr ⟨hn, _, ⟨hw, Z, hlm, Or.inr (Or.inl ⟨hw0, q, hq, hdl, hI_q, n1_eq, rfl⟩)⟩, rfl⟩)
        · have hdl := bC_0.mp hdl
          refine g_goto (tgt := 108) hx hb d_MD_step_39 (by decide) ?_
          refine n_iinc (L' := [_, _, _, _, _]) hx hb d_MD_step_108 rfl rfl ?_
          refine g_goto (tgt := 25) hx hb d_MD_step_111 (by decide) ?_
          refine ih_q (by omega) (fun j hj => ?_)
          rcases Nat.lt_succ_iff_lt_or_eq.mp hj with z | z
          · exact hI_q j z
          · rw [z]; exact hdl
    · refine g_iconst hx hb d_MD_step_21 k_iconst_0 ?_
      exact g_iret hx hb hr hlk d_MD_step_22 (Or.inr ⟨hn, _, ⟨hw, Z, hlm, Or.inl ⟨hw0, n0_eq, rfl⟩⟩, rfl⟩)
  · have hn := bN_0.mp hn
    have hn : ¬ n < 4 := by omega
    refine g_iconst hx hb d_MD_step_9 k_iconst_m1 ?_
    exact g_iret hx hb hr hlk d_MD_step_10 (Or.inl ⟨hn, rfl, rfl⟩)
