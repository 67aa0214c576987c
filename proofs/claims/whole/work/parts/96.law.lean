theorem an31 (x : Int32) : 0 ≤ (x &&& Int32.ofInt 31).toInt ∧ (x &&& Int32.ofInt 31).toInt ≤ 31 := by
  have e1 : (x &&& Int32.ofInt 31).toBitVec = x.toBitVec &&& (Int32.ofInt 31).toBitVec := Int32.toBitVec_and x _
  have hle : (x &&& Int32.ofInt 31).toBitVec.toNat ≤ 31 := by
    rw [e1, BitVec.toNat_and]
    exact Nat.le_trans Nat.and_le_right (by decide +kernel)
  have ht : (x &&& Int32.ofInt 31).toInt = ((x &&& Int32.ofInt 31).toBitVec.toNat : Int) := by
    show (x &&& Int32.ofInt 31).toBitVec.toInt = _
    exact BitVec.toInt_eq_toNat_of_lt (by omega)
  omega
def bC (S : ms_T) (r : Nat) : Nat := r + (16 - S.1 3).toNat + (3200 - S.1 36).toNat
def bS (S : ms_T) (r : Nat) : Nat := 15 * r + 12 * (16 - S.1 3).toNat + 3 * (3200 - S.1 36).toNat
theorem bC_e {S S1 : ms_T} (h3 : S1.1 3 = S.1 3) (h36 : S1.1 36 = S.1 36) (r : Nat) : bC S1 r + 1 = bC S (r + 1) := by
  unfold bC
  rw [h3, h36]
  omega
theorem bS_e {S S1 : ms_T} (h3 : S1.1 3 = S.1 3) (h36 : S1.1 36 = S.1 36) (r : Nat) : bS S1 r + 15 = bS S (r + 1) := by
  unfold bS
  rw [h3, h36]
  omega
theorem bC_h {S S1 : ms_T} (h : S.1 3 ≤ S1.1 3 ∧ S.1 36 ≤ S1.1 36) (h2 : S1.1 3 ≤ 16 ∧ S1.1 36 ≤ 3200) (r : Nat) : ((S1.1 3 - S.1 3).toNat + (S1.1 36 - S.1 36).toNat) + bC S1 r ≤ bC S (r + 1) ∧ (12 * (S1.1 3 - S.1 3).toNat + 3 * (S1.1 36 - S.1 36).toNat) + bS S1 r ≤ bS S (r + 1) := by
  unfold bC bS
  omega
set_option maxHeartbeats 1000000 in
theorem ml_law {w : aw_T} {d : Nat} (hd : 44 ≤ d) (hLs : aw_L w ≤ 2147483648) (hL2 : aw_L w ≤ 3584) {P : ap_T} (hP : ∀ h, P (some (av_i 1)) h) : ∀ (r : Nat), ∀ (k : Nat) (S : ms_T) (G : gh_T) (K : ms_T) (h : ah_T), 7 * k + 7 * r ≤ aw_L w ∧ aw_L w < 7 * k + 7 * r + 7 → LI_ h S G K → aw_W w mm_L_law d P 18 [some (av_s), some (av_r 0), some (av_r 38), some (av_i (((7 * k : Nat) : Int)))] [] h (bC S r) (bS S r) := by
  intro r
  induction r with
  | zero =>
    intro k S G K h hk H
    refine ag_iload_n dd_L_law_18 rfl ?_
    refine ag_aload_s dd_L_law_19 rfl ?_
    refine ag_slen dd_L_law_20 ?_
    refine ag_bipush dd_L_law_21 (by decide +kernel) ?_
    refine ag_isub dd_L_law_23 ?_
    refine ag_icmp_gt (tgt := 877) dd_L_law_24 (by decide) (by omega) (by omega) (fun c1 => ?_) (fun c1 => ?_)
    · refine ag_iconst dd_L_law_877 ?_
      refine ag_zret dd_L_law_878 rfl (by first | exact Or.inl rfl | exact Or.inr rfl | omega) ?_
      exact hP h
    · exfalso; omega
  | succ r ih =>
    intro k S G K h hk H
    have NX : ∀ (S : ms_T) (G : gh_T) (K : ms_T) (h : ah_T), LI_ h S G K → aw_W w mm_L_law d P 871 [some (av_s), some (av_r 0), some (av_r 38), some (av_i (((7 * k : Nat) : Int)))] [] h (bC S r) (bS S r) := by
      intro S G K h H
      refine ag_iincN (Lf := fun y => [some (av_s), some (av_r 0), some (av_r 38), some (av_i (y))]) dd_L_law_871 rfl (fun _ => rfl) rfl (by decide) (fun y1 ey1 => ?_)
      refine ag_goto (tgt := 18) dd_L_law_874 (by decide) ?_
      obtain rfl : y1 = ((7 * (k + 1) : Nat) : Int) := by omega
      exact ih (k + 1) S G K h (by omega) H
    obtain ⟨⟨hI, hT, hW, hord, htp, h39⟩, hsr, htr, hbr, hpy, hfb, hz5, hq0⟩ := id H.2.2.2.2.2
    have hLP := H.2.2.2.2.2
    have ha0 := hI.1.1
    have ha1 := hI.1.2.1
    have ha2 := hI.1.2.2.1
    have ha4 := hI.1.2.2.2.2.1
    have ha21 := hI.1.2.2.2.2.2.2.2.2
    have h43 := htp.1
    have h36 : 0 ≤ S.1 36 ∧ S.1 36 ≤ 4000 := by have := iv_sum hI; have := hI.1.2.2.2.1; omega
    have hC : co_I h h S G := ⟨H.2.1, cf_rf h⟩
    have hM : mo_I h h S := ⟨H.1, mo_F.rf h⟩
    refine ag_iload_n dd_L_law_18 rfl ?_
    refine ag_aload_s dd_L_law_19 rfl ?_
    refine ag_slen dd_L_law_20 ?_
    refine ag_bipush dd_L_law_21 (by decide +kernel) ?_
    refine ag_isub dd_L_law_23 ?_
    refine ag_icmp_gt (tgt := 877) dd_L_law_24 (by decide) (by omega) (by omega) (fun c1 => ?_) (fun c1 => ?_)
    · exfalso; omega
    · refine ag_aload_s dd_L_law_27 rfl ?_
      refine ag_iload_n dd_L_law_28 rfl ?_
      refine ag_sld dd_L_law_29 hLs (by omega) ?_
      refine ag_bipush dd_L_law_30 (by decide +kernel) ?_
      refine ag_iand dd_L_law_32 ?_
      have hz := an31 (Int32.ofInt (aw_y w (((7 * k : Nat) : Int)).toNat))
      generalize (Int32.ofInt (aw_y w (((7 * k : Nat) : Int)).toNat) &&& Int32.ofInt 31).toInt = z at hz ⊢
      rcases (show (z < 0 ∨ 21 < z) ∨ z = 0 ∨ z = 1 ∨ z = 2 ∨ z = 3 ∨ z = 4 ∨ z = 5 ∨ z = 6 ∨ z = 7 ∨ z = 8 ∨ z = 9 ∨ z = 10 ∨ z = 11 ∨ z = 12 ∨ z = 13 ∨ z = 14 ∨ z = 15 ∨ z = 16 ∨ z = 17 ∨ z = 18 ∨ z = 19 ∨ z = 20 ∨ z = 21 by omega) with c2 | c2 | c2 | c2 | c2 | c2 | c2 | c2 | c2 | c2 | c2 | c2 | c2 | c2 | c2 | c2 | c2 | c2 | c2 | c2 | c2 | c2 | c2
      · refine ag_tabOut (tgt := 871) dd_L_law_33 (by omega) c2 (by decide) ?_
        exact ag_room (by have := bC_e (S := S) rfl rfl r; omega) (by have := bS_e (S := S) rfl rfl r; omega) (NX S G K h H)
      · refine ag_tabIn (tgt := 136) (off := 103) dd_L_law_33 (by omega) (by omega) (by omega) (by rw [c2]; rfl) (by decide) ?_
        refine ag_aload_n dd_L_law_136 rfl ?_
        refine ag_aload_s dd_L_law_137 rfl ?_
        refine ag_iload_n dd_L_law_138 rfl ?_
        refine ag_iconst dd_L_law_139 ?_
        refine ag_iadd dd_L_law_140 ?_
        refine ag_sld dd_L_law_141 hLs (by omega) ?_
        refine ag_aload_s dd_L_law_142 rfl ?_
        refine ag_iload_n dd_L_law_143 rfl ?_
        refine ag_iconst dd_L_law_144 ?_
        refine ag_iadd dd_L_law_145 ?_
        refine ag_sld dd_L_law_146 hLs (by omega) ?_
        refine ag_aload_s dd_L_law_147 rfl ?_
        refine ag_iload_n dd_L_law_148 rfl ?_
        refine ag_iconst dd_L_law_149 ?_
        refine ag_iadd dd_L_law_150 ?_
        refine ag_sld dd_L_law_151 hLs (by omega) ?_
        refine ag_aload_s dd_L_law_152 rfl ?_
        refine ag_iload_n dd_L_law_153 rfl ?_
        refine ag_iconst dd_L_law_154 ?_
        refine ag_iadd dd_L_law_155 ?_
        refine ag_sld dd_L_law_156 hLs (by omega) ?_
        obtain ⟨x3, x36, xc, v, hv⟩ := sx_rules S (aw_y w ((((7 * k : Nat) : Int) + 1)).toNat) (aw_y w ((((7 * k : Nat) : Int) + 2)).toNat) (aw_y w ((((7 * k : Nat) : Int) + 3)).toNat) (aw_y w ((((7 * k : Nat) : Int) + 4)).toNat)
        refine ag_wV dd_L_law_157 fi_L_13 (cr_0 hC) rfl (mc_X_rules (d := 43) (by omega) hC (aw_y_in w _) (aw_y_in w _) (aw_y_in w _) (aw_y_in w _) ha0) rfl rfl (by omega) (Nat.le_of_ble_eq_true rfl) (fun r1 h1 hP => ?_)
        obtain ⟨e1, hC1⟩ := hP
        rw [hv] at e1
        subst e1
        have hM1 := LI_mid H hC1.2
        refine ag_aload_n dd_L_law_160 rfl ?_
        refine ag_aload_s dd_L_law_161 rfl ?_
        refine ag_iload_n dd_L_law_162 rfl ?_
        refine ag_iconst dd_L_law_163 ?_
        refine ag_iadd dd_L_law_164 ?_
        refine ag_sld dd_L_law_165 hLs (by omega) ?_
        refine ag_aload_s dd_L_law_166 rfl ?_
        refine ag_iload_n dd_L_law_167 rfl ?_
        refine ag_iconst dd_L_law_168 ?_
        refine ag_iadd dd_L_law_169 ?_
        refine ag_sld dd_L_law_170 hLs (by omega) ?_
        refine ag_aload_s dd_L_law_171 rfl ?_
        refine ag_iload_n dd_L_law_172 rfl ?_
        refine ag_iconst dd_L_law_173 ?_
        refine ag_iadd dd_L_law_174 ?_
        refine ag_sld dd_L_law_175 hLs (by omega) ?_
        refine ag_aload_s dd_L_law_176 rfl ?_
        refine ag_iload_n dd_L_law_177 rfl ?_
        refine ag_iconst dd_L_law_178 ?_
        refine ag_iadd dd_L_law_179 ?_
        refine ag_sld dd_L_law_180 hLs (by omega) ?_
        refine ag_wV dd_L_law_181 fi_L_17 (mr_38 hM1) rfl (mc_M_rules (d := 6) (by omega) hM1 (aw_y_in w _) (aw_y_in w _) (aw_y_in w _) (aw_y_in w _) ha0) rfl rfl (by omega) (Nat.le_of_ble_eq_true rfl) (fun r2 h2 hP2 => ?_)
        obtain ⟨e2, hM2⟩ := hP2
        rw [hv] at e2
        subst e2
        refine ag_icmp_same (tgt := 871) dd_L_law_184 (by decide) ?_
        exact ag_room (by have := bC_e x3 x36 r; omega) (by have := bS_e x3 x36 r; omega) (NX _ G K h2 (LI_step H hC1 hM2 rfl xc (LP_rules hLP (aw_y w ((((7 * k : Nat) : Int) + 1)).toNat) (aw_y w ((((7 * k : Nat) : Int) + 2)).toNat) (aw_y w ((((7 * k : Nat) : Int) + 3)).toNat) (aw_y w ((((7 * k : Nat) : Int) + 4)).toNat))))
      · refine ag_tabIn (tgt := 189) (off := 156) dd_L_law_33 (by omega) (by omega) (by omega) (by rw [c2]; rfl) (by decide) ?_
        refine ag_aload_n dd_L_law_189 rfl ?_
        obtain ⟨x3, x36, xc, v, hv⟩ := sx_farm S
        refine ag_wV dd_L_law_190 fi_L_18 (cr_0 hC) rfl (mc_X_farm (d := 43) (by omega) hC ha1) rfl rfl (by omega) (Nat.le_of_ble_eq_true rfl) (fun r1 h1 hP => ?_)
        obtain ⟨e1, hC1⟩ := hP
        rw [hv] at e1
        subst e1
        have hM1 := LI_mid H hC1.2
        refine ag_aload_n dd_L_law_193 rfl ?_
        refine ag_wV dd_L_law_194 fi_L_22 (mr_38 hM1) rfl (mc_M_farm (d := 6) (by omega) hM1 ha1) rfl rfl (by omega) (Nat.le_of_ble_eq_true rfl) (fun r2 h2 hP2 => ?_)
        obtain ⟨e2, hM2⟩ := hP2
        rw [hv] at e2
        subst e2
        refine ag_icmp_same (tgt := 871) dd_L_law_197 (by decide) ?_
        exact ag_room (by have := bC_e x3 x36 r; omega) (by have := bS_e x3 x36 r; omega) (NX _ G K h2 (LI_step H hC1 hM2 rfl xc (LP_farm hLP)))
      · refine ag_tabIn (tgt := 202) (off := 169) dd_L_law_33 (by omega) (by omega) (by omega) (by rw [c2]; rfl) (by decide) ?_
        refine ag_aload_n dd_L_law_202 rfl ?_
        refine ag_aload_s dd_L_law_203 rfl ?_
        refine ag_iload_n dd_L_law_204 rfl ?_
        refine ag_iconst dd_L_law_205 ?_
        refine ag_iadd dd_L_law_206 ?_
        refine ag_sld dd_L_law_207 hLs (by omega) ?_
        refine ag_aload_s dd_L_law_208 rfl ?_
        refine ag_iload_n dd_L_law_209 rfl ?_
        refine ag_iconst dd_L_law_210 ?_
        refine ag_iadd dd_L_law_211 ?_
        refine ag_sld dd_L_law_212 hLs (by omega) ?_
        refine ag_aload_s dd_L_law_213 rfl ?_
        refine ag_iload_n dd_L_law_214 rfl ?_
        refine ag_iconst dd_L_law_215 ?_
        refine ag_iadd dd_L_law_216 ?_
        refine ag_sld dd_L_law_217 hLs (by omega) ?_
        refine ag_aload_s dd_L_law_218 rfl ?_
        refine ag_iload_n dd_L_law_219 rfl ?_
        refine ag_iconst dd_L_law_220 ?_
        refine ag_iadd dd_L_law_221 ?_
        refine ag_sld dd_L_law_222 hLs (by omega) ?_
        refine ag_aload_s dd_L_law_223 rfl ?_
        refine ag_iload_n dd_L_law_224 rfl ?_
        refine ag_iconst dd_L_law_225 ?_
        refine ag_iadd dd_L_law_226 ?_
        refine ag_sld dd_L_law_227 hLs (by omega) ?_
        refine ag_aload_s dd_L_law_228 rfl ?_
        refine ag_iload_n dd_L_law_229 rfl ?_
        refine ag_bipush dd_L_law_230 (by decide +kernel) ?_
        refine ag_iadd dd_L_law_232 ?_
        refine ag_sld dd_L_law_233 hLs (by omega) ?_
        obtain ⟨x3, x36, xc, v, hv⟩ := sx_field S (aw_y w ((((7 * k : Nat) : Int) + 1)).toNat) (aw_y w ((((7 * k : Nat) : Int) + 2)).toNat) (aw_y w ((((7 * k : Nat) : Int) + 3)).toNat) (aw_y w ((((7 * k : Nat) : Int) + 4)).toNat) (aw_y w ((((7 * k : Nat) : Int) + 5)).toNat) (aw_y w ((((7 * k : Nat) : Int) + 6)).toNat)
        refine ag_callV (mc := 1) (ms := 15) (kc' := bC (sp_field S (aw_y w ((((7 * k : Nat) : Int) + 1)).toNat) (aw_y w ((((7 * k : Nat) : Int) + 2)).toNat) (aw_y w ((((7 * k : Nat) : Int) + 3)).toNat) (aw_y w ((((7 * k : Nat) : Int) + 4)).toNat) (aw_y w ((((7 * k : Nat) : Int) + 5)).toNat) (aw_y w ((((7 * k : Nat) : Int) + 6)).toNat)).2 r) (ks' := bS (sp_field S (aw_y w ((((7 * k : Nat) : Int) + 1)).toNat) (aw_y w ((((7 * k : Nat) : Int) + 2)).toNat) (aw_y w ((((7 * k : Nat) : Int) + 3)).toNat) (aw_y w ((((7 * k : Nat) : Int) + 4)).toNat) (aw_y w ((((7 * k : Nat) : Int) + 5)).toNat) (aw_y w ((((7 * k : Nat) : Int) + 6)).toNat)).2 r) dd_L_law_234 fi_L_23 (cr_0 hC) rfl (mc_X_field (d := 43) (by omega) hC (aw_y_in w _) (aw_y_in w _) (aw_y_in w _) (aw_y_in w _) (aw_y_in w _) (aw_y_in w _) hI hz5) rfl rfl (by omega) (Nat.le_of_ble_eq_true rfl) (by have := bC_e x3 x36 r; omega) (by have := bS_e x3 x36 r; omega) (fun r1 h1 hP => ?_)
        obtain ⟨e1, G2, hC1, hG2⟩ := hP
        rw [hv] at e1
        subst e1
        have hM1 := LI_mid H hC1.2
        refine ag_aload_n dd_L_law_237 rfl ?_
        refine ag_aload_s dd_L_law_238 rfl ?_
        refine ag_iload_n dd_L_law_239 rfl ?_
        refine ag_iconst dd_L_law_240 ?_
        refine ag_iadd dd_L_law_241 ?_
        refine ag_sld dd_L_law_242 hLs (by omega) ?_
        refine ag_aload_s dd_L_law_243 rfl ?_
        refine ag_iload_n dd_L_law_244 rfl ?_
        refine ag_iconst dd_L_law_245 ?_
        refine ag_iadd dd_L_law_246 ?_
        refine ag_sld dd_L_law_247 hLs (by omega) ?_
        refine ag_aload_s dd_L_law_248 rfl ?_
        refine ag_iload_n dd_L_law_249 rfl ?_
        refine ag_iconst dd_L_law_250 ?_
        refine ag_iadd dd_L_law_251 ?_
        refine ag_sld dd_L_law_252 hLs (by omega) ?_
        refine ag_aload_s dd_L_law_253 rfl ?_
        refine ag_iload_n dd_L_law_254 rfl ?_
        refine ag_iconst dd_L_law_255 ?_
        refine ag_iadd dd_L_law_256 ?_
        refine ag_sld dd_L_law_257 hLs (by omega) ?_
        refine ag_aload_s dd_L_law_258 rfl ?_
        refine ag_iload_n dd_L_law_259 rfl ?_
        refine ag_iconst dd_L_law_260 ?_
        refine ag_iadd dd_L_law_261 ?_
        refine ag_sld dd_L_law_262 hLs (by omega) ?_
        refine ag_aload_s dd_L_law_263 rfl ?_
        refine ag_iload_n dd_L_law_264 rfl ?_
        refine ag_bipush dd_L_law_265 (by decide +kernel) ?_
        refine ag_iadd dd_L_law_267 ?_
        refine ag_sld dd_L_law_268 hLs (by omega) ?_
        refine ag_wV dd_L_law_269 fi_L_27 (mr_38 hM1) rfl (mc_M_field (d := 6) (by omega) hM1 (aw_y_in w _) (aw_y_in w _) (aw_y_in w _) (aw_y_in w _) (aw_y_in w _) (aw_y_in w _) ha1 ha2) rfl rfl (by omega) (Nat.le_of_ble_eq_true rfl) (fun r2 h2 hP2 => ?_)
        obtain ⟨e2, hM2⟩ := hP2
        rw [hv] at e2
        subst e2
        refine ag_icmp_same (tgt := 871) dd_L_law_272 (by decide) ?_
        exact (NX _ G2 K h2 (LI_step H hC1 hM2 (hG2 9 0 (by omega)) xc (LP_field hLP (aw_y w ((((7 * k : Nat) : Int) + 1)).toNat) (aw_y w ((((7 * k : Nat) : Int) + 2)).toNat) (aw_y w ((((7 * k : Nat) : Int) + 3)).toNat) (aw_y w ((((7 * k : Nat) : Int) + 4)).toNat) (aw_y w ((((7 * k : Nat) : Int) + 5)).toNat) (aw_y w ((((7 * k : Nat) : Int) + 6)).toNat) hG2)))
      · refine ag_tabIn (tgt := 277) (off := 244) dd_L_law_33 (by omega) (by omega) (by omega) (by rw [c2]; rfl) (by decide) ?_
        refine ag_aload_n dd_L_law_277 rfl ?_
        refine ag_aload_s dd_L_law_278 rfl ?_
        refine ag_iload_n dd_L_law_279 rfl ?_
        refine ag_iconst dd_L_law_280 ?_
        refine ag_iadd dd_L_law_281 ?_
        refine ag_sld dd_L_law_282 hLs (by omega) ?_
        refine ag_if_eq (tgt := 290) dd_L_law_283 (by decide) (by exact aw_y_in w _) (fun c3 => ?_) (fun c3 => ?_)
        · refine ag_iconst dd_L_law_290 ?_
          refine ag_aload_s dd_L_law_291 rfl ?_
          refine ag_iload_n dd_L_law_292 rfl ?_
          refine ag_iconst dd_L_law_293 ?_
          refine ag_iadd dd_L_law_294 ?_
          refine ag_sld dd_L_law_295 hLs (by omega) ?_
          refine ag_aload_s dd_L_law_296 rfl ?_
          refine ag_iload_n dd_L_law_297 rfl ?_
          refine ag_iconst dd_L_law_298 ?_
          refine ag_iadd dd_L_law_299 ?_
          refine ag_sld dd_L_law_300 hLs (by omega) ?_
          have hzz : (0 : Int) = 0 ∨ (0 : Int) = 1 := by first | exact Or.inl rfl | exact Or.inr rfl
          obtain ⟨x3, x36, xc, v, hv⟩ := sx_weather S 0 (aw_y w ((((7 * k : Nat) : Int) + 2)).toNat) (aw_y w ((((7 * k : Nat) : Int) + 3)).toNat)
          refine ag_callV (mc := 1) (ms := 4) (kc' := bC (sp_weather S 0 (aw_y w ((((7 * k : Nat) : Int) + 2)).toNat) (aw_y w ((((7 * k : Nat) : Int) + 3)).toNat)).2 r) (ks' := bS (sp_weather S 0 (aw_y w ((((7 * k : Nat) : Int) + 2)).toNat) (aw_y w ((((7 * k : Nat) : Int) + 3)).toNat)).2 r) dd_L_law_301 fi_L_28 (cr_0 hC) rfl (mc_X_weather (d := 43) (by omega) hC hzz (aw_y_in w _) (aw_y_in w _) hI.1) rfl rfl (by omega) (Nat.le_of_ble_eq_true rfl) (by have := bC_e x3 x36 r; omega) (by have := bS_e x3 x36 r; omega) (fun r1 h1 hP => ?_)
          obtain ⟨e1, G2, hC1, hG2⟩ := hP
          rw [hv] at e1
          subst e1
          have hM1 := LI_mid H hC1.2
          refine ag_aload_n dd_L_law_304 rfl ?_
          refine ag_aload_s dd_L_law_305 rfl ?_
          refine ag_iload_n dd_L_law_306 rfl ?_
          refine ag_iconst dd_L_law_307 ?_
          refine ag_iadd dd_L_law_308 ?_
          refine ag_sld dd_L_law_309 hLs (by omega) ?_
          refine ag_if_eq (tgt := 317) dd_L_law_310 (by decide) (by exact aw_y_in w _) (fun c4 => ?_) (fun c4 => ?_)
          · refine ag_iconst dd_L_law_317 ?_
            refine ag_aload_s dd_L_law_318 rfl ?_
            refine ag_iload_n dd_L_law_319 rfl ?_
            refine ag_iconst dd_L_law_320 ?_
            refine ag_iadd dd_L_law_321 ?_
            refine ag_sld dd_L_law_322 hLs (by omega) ?_
            refine ag_aload_s dd_L_law_323 rfl ?_
            refine ag_iload_n dd_L_law_324 rfl ?_
            refine ag_iconst dd_L_law_325 ?_
            refine ag_iadd dd_L_law_326 ?_
            refine ag_sld dd_L_law_327 hLs (by omega) ?_
            refine ag_wV dd_L_law_328 fi_L_32 (mr_38 hM1) rfl (mc_M_weather (d := 6) (by omega) hM1 hzz (aw_y_in w _) (aw_y_in w _) ha0 ha21) rfl rfl (by omega) (Nat.le_of_ble_eq_true rfl) (fun r2 h2 hP2 => ?_)
            obtain ⟨e2, hM2⟩ := hP2
            rw [hv] at e2
            subst e2
            refine ag_icmp_same (tgt := 871) dd_L_law_331 (by decide) ?_
            exact (NX _ G2 K h2 (LI_step H hC1 hM2 (hG2 9 0 (by omega)) xc (LP_weather hLP hzz (aw_y w ((((7 * k : Nat) : Int) + 2)).toNat) (aw_y w ((((7 * k : Nat) : Int) + 3)).toNat) hG2)))
          · exfalso; omega
        · refine ag_iconst dd_L_law_286 ?_
          refine ag_goto (tgt := 291) dd_L_law_287 (by decide) ?_
          refine ag_aload_s dd_L_law_291 rfl ?_
          refine ag_iload_n dd_L_law_292 rfl ?_
          refine ag_iconst dd_L_law_293 ?_
          refine ag_iadd dd_L_law_294 ?_
          refine ag_sld dd_L_law_295 hLs (by omega) ?_
          refine ag_aload_s dd_L_law_296 rfl ?_
          refine ag_iload_n dd_L_law_297 rfl ?_
          refine ag_iconst dd_L_law_298 ?_
          refine ag_iadd dd_L_law_299 ?_
          refine ag_sld dd_L_law_300 hLs (by omega) ?_
          have hzz : (1 : Int) = 0 ∨ (1 : Int) = 1 := by first | exact Or.inl rfl | exact Or.inr rfl
          obtain ⟨x3, x36, xc, v, hv⟩ := sx_weather S 1 (aw_y w ((((7 * k : Nat) : Int) + 2)).toNat) (aw_y w ((((7 * k : Nat) : Int) + 3)).toNat)
          refine ag_callV (mc := 1) (ms := 4) (kc' := bC (sp_weather S 1 (aw_y w ((((7 * k : Nat) : Int) + 2)).toNat) (aw_y w ((((7 * k : Nat) : Int) + 3)).toNat)).2 r) (ks' := bS (sp_weather S 1 (aw_y w ((((7 * k : Nat) : Int) + 2)).toNat) (aw_y w ((((7 * k : Nat) : Int) + 3)).toNat)).2 r) dd_L_law_301 fi_L_28 (cr_0 hC) rfl (mc_X_weather (d := 43) (by omega) hC hzz (aw_y_in w _) (aw_y_in w _) hI.1) rfl rfl (by omega) (Nat.le_of_ble_eq_true rfl) (by have := bC_e x3 x36 r; omega) (by have := bS_e x3 x36 r; omega) (fun r1 h1 hP => ?_)
          obtain ⟨e1, G2, hC1, hG2⟩ := hP
          rw [hv] at e1
          subst e1
          have hM1 := LI_mid H hC1.2
          refine ag_aload_n dd_L_law_304 rfl ?_
          refine ag_aload_s dd_L_law_305 rfl ?_
          refine ag_iload_n dd_L_law_306 rfl ?_
          refine ag_iconst dd_L_law_307 ?_
          refine ag_iadd dd_L_law_308 ?_
          refine ag_sld dd_L_law_309 hLs (by omega) ?_
          refine ag_if_eq (tgt := 317) dd_L_law_310 (by decide) (by exact aw_y_in w _) (fun c5 => ?_) (fun c5 => ?_)
          · exfalso; omega
          · refine ag_iconst dd_L_law_313 ?_
            refine ag_goto (tgt := 318) dd_L_law_314 (by decide) ?_
            refine ag_aload_s dd_L_law_318 rfl ?_
            refine ag_iload_n dd_L_law_319 rfl ?_
            refine ag_iconst dd_L_law_320 ?_
            refine ag_iadd dd_L_law_321 ?_
            refine ag_sld dd_L_law_322 hLs (by omega) ?_
            refine ag_aload_s dd_L_law_323 rfl ?_
            refine ag_iload_n dd_L_law_324 rfl ?_
            refine ag_iconst dd_L_law_325 ?_
            refine ag_iadd dd_L_law_326 ?_
            refine ag_sld dd_L_law_327 hLs (by omega) ?_
            refine ag_wV dd_L_law_328 fi_L_32 (mr_38 hM1) rfl (mc_M_weather (d := 6) (by omega) hM1 hzz (aw_y_in w _) (aw_y_in w _) ha0 ha21) rfl rfl (by omega) (Nat.le_of_ble_eq_true rfl) (fun r2 h2 hP2 => ?_)
            obtain ⟨e2, hM2⟩ := hP2
            rw [hv] at e2
            subst e2
            refine ag_icmp_same (tgt := 871) dd_L_law_331 (by decide) ?_
            exact (NX _ G2 K h2 (LI_step H hC1 hM2 (hG2 9 0 (by omega)) xc (LP_weather hLP hzz (aw_y w ((((7 * k : Nat) : Int) + 2)).toNat) (aw_y w ((((7 * k : Nat) : Int) + 3)).toNat) hG2)))
      · refine ag_tabIn (tgt := 336) (off := 303) dd_L_law_33 (by omega) (by omega) (by omega) (by rw [c2]; rfl) (by decide) ?_
        refine ag_aload_n dd_L_law_336 rfl ?_
        refine ag_aload_s dd_L_law_337 rfl ?_
        refine ag_iload_n dd_L_law_338 rfl ?_
        refine ag_iconst dd_L_law_339 ?_
        refine ag_iadd dd_L_law_340 ?_
        refine ag_sld dd_L_law_341 hLs (by omega) ?_
        obtain ⟨x3, x36, xc, v, hv⟩ := sx_round S (aw_y w ((((7 * k : Nat) : Int) + 1)).toNat)
        refine ag_wV dd_L_law_342 fi_L_33 (cr_0 hC) rfl (mc_X_round (d := 43) (by omega) hC ha1 h39 hsr) rfl rfl (by omega) (Nat.le_of_ble_eq_true rfl) (fun r1 h1 hP => ?_)
        obtain ⟨e1, G2, hC1, hG2, hs2⟩ := hP
        rw [hv] at e1
        subst e1
        have hM1 := LI_mid H hC1.2
        refine ag_aload_n dd_L_law_345 rfl ?_
        refine ag_aload_s dd_L_law_346 rfl ?_
        refine ag_iload_n dd_L_law_347 rfl ?_
        refine ag_iconst dd_L_law_348 ?_
        refine ag_iadd dd_L_law_349 ?_
        refine ag_sld dd_L_law_350 hLs (by omega) ?_
        refine ag_wV dd_L_law_351 fi_L_37 (mr_38 hM1) rfl (mc_M_round (d := 6) (by omega) hM1 ha1 hord) rfl rfl (by omega) (Nat.le_of_ble_eq_true rfl) (fun r2 h2 hP2 => ?_)
        obtain ⟨e2, hM2⟩ := hP2
        rw [hv] at e2
        subst e2
        refine ag_icmp_same (tgt := 871) dd_L_law_354 (by decide) ?_
        exact ag_room (by have := bC_e x3 x36 r; omega) (by have := bS_e x3 x36 r; omega) (NX _ G2 K h2 (LI_step H hC1 hM2 (hG2 9 0 (by omega)) xc (LP_round hLP (aw_y w ((((7 * k : Nat) : Int) + 1)).toNat) hG2 hs2)))
      · refine ag_tabIn (tgt := 359) (off := 326) dd_L_law_33 (by omega) (by omega) (by omega) (by rw [c2]; rfl) (by decide) ?_
        refine ag_aload_n dd_L_law_359 rfl ?_
        obtain ⟨x3, x36, xc, v, hv⟩ := sx_pass S
        refine ag_wV dd_L_law_360 fi_L_38 (cr_0 hC) rfl (mc_X_pass (d := 43) (by omega) hC hsr) rfl rfl (by omega) (Nat.le_of_ble_eq_true rfl) (fun r1 h1 hP => ?_)
        obtain ⟨e1, G2, hC1, hG2, hs2⟩ := hP
        rw [hv] at e1
        subst e1
        have hM1 := LI_mid H hC1.2
        refine ag_aload_n dd_L_law_363 rfl ?_
        refine ag_wV dd_L_law_364 fi_L_41 (mr_38 hM1) rfl (mc_M_pass (d := 6) (by omega) hM1 hord) rfl rfl (by omega) (Nat.le_of_ble_eq_true rfl) (fun r2 h2 hP2 => ?_)
        obtain ⟨e2, hM2⟩ := hP2
        rw [hv] at e2
        subst e2
        refine ag_icmp_same (tgt := 871) dd_L_law_367 (by decide) ?_
        exact ag_room (by have := bC_e x3 x36 r; omega) (by have := bS_e x3 x36 r; omega) (NX _ G2 K h2 (LI_step H hC1 hM2 (hG2 9 0 (by omega)) xc (LP_pass hLP hG2 hs2)))
      · refine ag_tabIn (tgt := 372) (off := 339) dd_L_law_33 (by omega) (by omega) (by omega) (by rw [c2]; rfl) (by decide) ?_
        refine ag_aload_n dd_L_law_372 rfl ?_
        refine ag_aload_s dd_L_law_373 rfl ?_
        refine ag_iload_n dd_L_law_374 rfl ?_
        refine ag_iconst dd_L_law_375 ?_
        refine ag_iadd dd_L_law_376 ?_
        refine ag_sld dd_L_law_377 hLs (by omega) ?_
        refine ag_aload_s dd_L_law_378 rfl ?_
        refine ag_iload_n dd_L_law_379 rfl ?_
        refine ag_iconst dd_L_law_380 ?_
        refine ag_iadd dd_L_law_381 ?_
        refine ag_sld dd_L_law_382 hLs (by omega) ?_
        obtain ⟨x3, x36, xc, v, hv⟩ := sx_cut S (aw_y w ((((7 * k : Nat) : Int) + 1)).toNat) (aw_y w ((((7 * k : Nat) : Int) + 2)).toNat)
        refine ag_wV dd_L_law_383 fi_L_42 (cr_0 hC) rfl (mc_X_cut (d := 43) (by omega) hC (aw_y_in w _) (aw_y_in w _) hI hsr) rfl rfl (by omega) (Nat.le_of_ble_eq_true rfl) (fun r1 h1 hP => ?_)
        obtain ⟨e1, G2, hC1, hG2, hs2⟩ := hP
        rw [hv] at e1
        subst e1
        have hM1 := LI_mid H hC1.2
        refine ag_aload_n dd_L_law_386 rfl ?_
        refine ag_aload_s dd_L_law_387 rfl ?_
        refine ag_iload_n dd_L_law_388 rfl ?_
        refine ag_iconst dd_L_law_389 ?_
        refine ag_iadd dd_L_law_390 ?_
        refine ag_sld dd_L_law_391 hLs (by omega) ?_
        refine ag_aload_s dd_L_law_392 rfl ?_
        refine ag_iload_n dd_L_law_393 rfl ?_
        refine ag_iconst dd_L_law_394 ?_
        refine ag_iadd dd_L_law_395 ?_
        refine ag_sld dd_L_law_396 hLs (by omega) ?_
        refine ag_wV dd_L_law_397 fi_L_46 (mr_38 hM1) rfl (mc_M_cut (d := 6) (by omega) hM1 (aw_y_in w _) (aw_y_in w _) hI.fs ha4 ha1.2 hord) rfl rfl (by omega) (Nat.le_of_ble_eq_true rfl) (fun r2 h2 hP2 => ?_)
        obtain ⟨e2, hM2⟩ := hP2
        rw [hv] at e2
        subst e2
        refine ag_icmp_same (tgt := 871) dd_L_law_400 (by decide) ?_
        exact ag_room (by have := bC_e x3 x36 r; omega) (by have := bS_e x3 x36 r; omega) (NX _ G2 K h2 (LI_step H hC1 hM2 (hG2 9 0 (by omega)) xc (LP_cut hLP (aw_y w ((((7 * k : Nat) : Int) + 1)).toNat) (aw_y w ((((7 * k : Nat) : Int) + 2)).toNat) hG2 hs2)))
      · refine ag_tabIn (tgt := 405) (off := 372) dd_L_law_33 (by omega) (by omega) (by omega) (by rw [c2]; rfl) (by decide) ?_
        refine ag_aload_n dd_L_law_405 rfl ?_
        refine ag_aload_s dd_L_law_406 rfl ?_
        refine ag_iload_n dd_L_law_407 rfl ?_
        refine ag_iconst dd_L_law_408 ?_
        refine ag_iadd dd_L_law_409 ?_
        refine ag_sld dd_L_law_410 hLs (by omega) ?_
        obtain ⟨x3, x36, xc, v, hv⟩ := sx_fire S (aw_y w ((((7 * k : Nat) : Int) + 1)).toNat)
        refine ag_wV dd_L_law_411 fi_L_47 (cr_0 hC) rfl (mc_X_fire (d := 43) (by omega) hC (aw_y_in w _) hI.fs ha0) rfl rfl (by omega) (Nat.le_of_ble_eq_true rfl) (fun r1 h1 hP => ?_)
        obtain ⟨e1, hC1⟩ := hP
        rw [hv] at e1
        subst e1
        have hM1 := LI_mid H hC1.2
        refine ag_aload_n dd_L_law_414 rfl ?_
        refine ag_aload_s dd_L_law_415 rfl ?_
        refine ag_iload_n dd_L_law_416 rfl ?_
        refine ag_iconst dd_L_law_417 ?_
        refine ag_iadd dd_L_law_418 ?_
        refine ag_sld dd_L_law_419 hLs (by omega) ?_
        refine ag_wV dd_L_law_420 fi_L_51 (mr_38 hM1) rfl (mc_M_fire (d := 6) (by omega) hM1 (aw_y_in w _) hI.fs ha0) rfl rfl (by omega) (Nat.le_of_ble_eq_true rfl) (fun r2 h2 hP2 => ?_)
        obtain ⟨e2, hM2⟩ := hP2
        rw [hv] at e2
        subst e2
        refine ag_icmp_same (tgt := 871) dd_L_law_423 (by decide) ?_
        exact ag_room (by have := bC_e x3 x36 r; omega) (by have := bS_e x3 x36 r; omega) (NX _ G K h2 (LI_step H hC1 hM2 rfl xc (LP_fire hLP (aw_y w ((((7 * k : Nat) : Int) + 1)).toNat))))
      · refine ag_tabIn (tgt := 428) (off := 395) dd_L_law_33 (by omega) (by omega) (by omega) (by rw [c2]; rfl) (by decide) ?_
        refine ag_aload_n dd_L_law_428 rfl ?_
        refine ag_aload_s dd_L_law_429 rfl ?_
        refine ag_iload_n dd_L_law_430 rfl ?_
        refine ag_iconst dd_L_law_431 ?_
        refine ag_iadd dd_L_law_432 ?_
        refine ag_sld dd_L_law_433 hLs (by omega) ?_
        obtain ⟨xm, xI, xc, v, hv⟩ := sx_hours hI hT hW (aw_y w ((((7 * k : Nat) : Int) + 1)).toNat)
        have xb := bC_h xm ⟨xI.1.2.2.2.1.2, by have := (iv_sum xI).2.1; have := xI.1.2.2.2.1; omega⟩ r
        refine ag_callV (kc' := bC (sp_hours S (aw_y w ((((7 * k : Nat) : Int) + 1)).toNat)).2 r) (ks' := bS (sp_hours S (aw_y w ((((7 * k : Nat) : Int) + 1)).toNat)).2 r) dd_L_law_434 fi_L_52 (cr_0 hC) rfl (mc_X_hours (d := 43) (by omega) hC H.2.2.1 hI hT hW hpy hfb htr hbr (n := (aw_y w ((((7 * k : Nat) : Int) + 1)).toNat)) (aw_y_in w _)) rfl rfl (by omega) (Nat.le_of_ble_eq_true rfl) xb.1 xb.2 (fun r1 h1 hP => ?_)
        obtain ⟨e1, G2, hC1, t1, t2, t3, t4, hG2⟩ := hP
        rw [hv] at e1
        subst e1
        have hM1 := LI_mid H hC1.2
        refine ag_aload_n dd_L_law_437 rfl ?_
        refine ag_aload_s dd_L_law_438 rfl ?_
        refine ag_iload_n dd_L_law_439 rfl ?_
        refine ag_iconst dd_L_law_440 ?_
        refine ag_iadd dd_L_law_441 ?_
        refine ag_sld dd_L_law_442 hLs (by omega) ?_
        refine ag_wV dd_L_law_443 fi_L_55 (mr_38 hM1) rfl (mc_M_hours (d := 6) (by omega) hM1 (aw_y_in w _) hI hT hW) rfl rfl (by omega) (Nat.le_of_ble_eq_true rfl) (fun r2 h2 hP2 => ?_)
        obtain ⟨e2, hM2⟩ := hP2
        rw [hv] at e2
        subst e2
        refine ag_icmp_same (tgt := 871) dd_L_law_446 (by decide) ?_
        exact NX _ G2 K h2 (LI_step H hC1 hM2 (hG2 9 0 (by omega)) xc (LP_hours hLP (aw_y w ((((7 * k : Nat) : Int) + 1)).toNat) t1 t2 t3 t4 (hG2 6 0 (by omega))))
      · refine ag_tabIn (tgt := 451) (off := 418) dd_L_law_33 (by omega) (by omega) (by omega) (by rw [c2]; rfl) (by decide) ?_
        refine ag_aload_n dd_L_law_451 rfl ?_
        refine ag_aload_s dd_L_law_452 rfl ?_
        refine ag_iload_n dd_L_law_453 rfl ?_
        refine ag_iconst dd_L_law_454 ?_
        refine ag_iadd dd_L_law_455 ?_
        refine ag_sld dd_L_law_456 hLs (by omega) ?_
        refine ag_aload_s dd_L_law_457 rfl ?_
        refine ag_iload_n dd_L_law_458 rfl ?_
        refine ag_iconst dd_L_law_459 ?_
        refine ag_iadd dd_L_law_460 ?_
        refine ag_sld dd_L_law_461 hLs (by omega) ?_
        refine ag_aload_s dd_L_law_462 rfl ?_
        refine ag_iload_n dd_L_law_463 rfl ?_
        refine ag_iconst dd_L_law_464 ?_
        refine ag_iadd dd_L_law_465 ?_
        refine ag_sld dd_L_law_466 hLs (by omega) ?_
        refine ag_aload_s dd_L_law_467 rfl ?_
        refine ag_iload_n dd_L_law_468 rfl ?_
        refine ag_iconst dd_L_law_469 ?_
        refine ag_iadd dd_L_law_470 ?_
        refine ag_sld dd_L_law_471 hLs (by omega) ?_
        refine ag_aload_s dd_L_law_472 rfl ?_
        refine ag_iload_n dd_L_law_473 rfl ?_
        refine ag_iconst dd_L_law_474 ?_
        refine ag_iadd dd_L_law_475 ?_
        refine ag_sld dd_L_law_476 hLs (by omega) ?_
        obtain ⟨x3, x36, xc, v, hv⟩ := sx_feed S (aw_y w ((((7 * k : Nat) : Int) + 1)).toNat) (aw_y w ((((7 * k : Nat) : Int) + 2)).toNat) (aw_y w ((((7 * k : Nat) : Int) + 3)).toNat) (aw_y w ((((7 * k : Nat) : Int) + 4)).toNat) (aw_y w ((((7 * k : Nat) : Int) + 5)).toNat)
        refine ag_wV dd_L_law_477 fi_L_56 (cr_0 hC) rfl (mc_X_feed (d := 43) (by omega) hC h43) rfl rfl (by omega) (Nat.le_of_ble_eq_true rfl) (fun r1 h1 hP => ?_)
        obtain ⟨e1, hC1⟩ := hP
        rw [hv] at e1
        subst e1
        have hM1 := LI_mid H hC1.2
        refine ag_aload_n dd_L_law_480 rfl ?_
        refine ag_aload_s dd_L_law_481 rfl ?_
        refine ag_iload_n dd_L_law_482 rfl ?_
        refine ag_iconst dd_L_law_483 ?_
        refine ag_iadd dd_L_law_484 ?_
        refine ag_sld dd_L_law_485 hLs (by omega) ?_
        refine ag_aload_s dd_L_law_486 rfl ?_
        refine ag_iload_n dd_L_law_487 rfl ?_
        refine ag_iconst dd_L_law_488 ?_
        refine ag_iadd dd_L_law_489 ?_
        refine ag_sld dd_L_law_490 hLs (by omega) ?_
        refine ag_aload_s dd_L_law_491 rfl ?_
        refine ag_iload_n dd_L_law_492 rfl ?_
        refine ag_iconst dd_L_law_493 ?_
        refine ag_iadd dd_L_law_494 ?_
        refine ag_sld dd_L_law_495 hLs (by omega) ?_
        refine ag_aload_s dd_L_law_496 rfl ?_
        refine ag_iload_n dd_L_law_497 rfl ?_
        refine ag_iconst dd_L_law_498 ?_
        refine ag_iadd dd_L_law_499 ?_
        refine ag_sld dd_L_law_500 hLs (by omega) ?_
        refine ag_aload_s dd_L_law_501 rfl ?_
        refine ag_iload_n dd_L_law_502 rfl ?_
        refine ag_iconst dd_L_law_503 ?_
        refine ag_iadd dd_L_law_504 ?_
        refine ag_sld dd_L_law_505 hLs (by omega) ?_
        refine ag_wV dd_L_law_506 fi_L_60 (mr_38 hM1) rfl (mc_M_feed (d := 6) (by omega) hM1 (aw_y_in w _) (aw_y_in w _) (aw_y_in w _) (aw_y_in w _) (aw_y_in w _) h43) rfl rfl (by omega) (Nat.le_of_ble_eq_true rfl) (fun r2 h2 hP2 => ?_)
        obtain ⟨e2, hM2⟩ := hP2
        rw [hv] at e2
        subst e2
        refine ag_icmp_same (tgt := 871) dd_L_law_509 (by decide) ?_
        exact ag_room (by have := bC_e x3 x36 r; omega) (by have := bS_e x3 x36 r; omega) (NX _ G K h2 (LI_step H hC1 hM2 rfl xc (LP_feed hLP (aw_y w ((((7 * k : Nat) : Int) + 1)).toNat) (aw_y w ((((7 * k : Nat) : Int) + 2)).toNat) (aw_y w ((((7 * k : Nat) : Int) + 3)).toNat) (aw_y w ((((7 * k : Nat) : Int) + 4)).toNat) (aw_y w ((((7 * k : Nat) : Int) + 5)).toNat))))
      · refine ag_tabIn (tgt := 514) (off := 481) dd_L_law_33 (by omega) (by omega) (by omega) (by rw [c2]; rfl) (by decide) ?_
        refine ag_aload_n dd_L_law_514 rfl ?_
        refine ag_aload_s dd_L_law_515 rfl ?_
        refine ag_iload_n dd_L_law_516 rfl ?_
        refine ag_iconst dd_L_law_517 ?_
        refine ag_iadd dd_L_law_518 ?_
        refine ag_sld dd_L_law_519 hLs (by omega) ?_
        obtain ⟨x3, x36, xc, v, hv⟩ := sx_end S (aw_y w ((((7 * k : Nat) : Int) + 1)).toNat)
        refine ag_wV dd_L_law_520 fi_L_61 (cr_0 hC) rfl (mc_X_end (d := 43) (by omega) hC (aw_y_in w _) h43) rfl rfl (by omega) (Nat.le_of_ble_eq_true rfl) (fun r1 h1 hP => ?_)
        obtain ⟨e1, hC1⟩ := hP
        rw [hv] at e1
        subst e1
        have hM1 := LI_mid H hC1.2
        refine ag_aload_n dd_L_law_523 rfl ?_
        refine ag_aload_s dd_L_law_524 rfl ?_
        refine ag_iload_n dd_L_law_525 rfl ?_
        refine ag_iconst dd_L_law_526 ?_
        refine ag_iadd dd_L_law_527 ?_
        refine ag_sld dd_L_law_528 hLs (by omega) ?_
        refine ag_wV dd_L_law_529 fi_L_64 (mr_38 hM1) rfl (mc_M_end (d := 6) (by omega) hM1 (aw_y_in w _) h43) rfl rfl (by omega) (Nat.le_of_ble_eq_true rfl) (fun r2 h2 hP2 => ?_)
        obtain ⟨e2, hM2⟩ := hP2
        rw [hv] at e2
        subst e2
        refine ag_icmp_same (tgt := 871) dd_L_law_532 (by decide) ?_
        exact ag_room (by have := bC_e x3 x36 r; omega) (by have := bS_e x3 x36 r; omega) (NX _ G K h2 (LI_step H hC1 hM2 rfl xc (LP_end hLP (aw_y w ((((7 * k : Nat) : Int) + 1)).toNat))))
      · refine ag_tabIn (tgt := 537) (off := 504) dd_L_law_33 (by omega) (by omega) (by omega) (by rw [c2]; rfl) (by decide) ?_
        refine ag_aload_n dd_L_law_537 rfl ?_
        obtain ⟨n, hn43⟩ : ∃ n : Nat, S.1 43 = (n : Int) := ⟨(S.1 43).toNat, by omega⟩
        refine ag_wV dd_L_law_538 fi_L_65 (cr_0 hC) rfl (mc_X_text (d := 43) (by omega) hC H.2.2.1 htp hn43) rfl rfl (by omega) (Nat.le_of_ble_eq_true rfl) (fun r1 h1 hP => ?_)
        obtain ⟨hM1, v, rfl⟩ := LI_tmid H hP
        refine ag_aload_n dd_L_law_541 rfl ?_
        refine ag_wV dd_L_law_542 fi_L_69 (mr_38 hM1) rfl (mc_M_text (d := 6) (by omega) hM1 htp.2 (n := n) (by omega) hn43 rfl hT.1) rfl rfl (by omega) (Nat.le_of_ble_eq_true rfl) (fun r2 h2 hP2 => ?_)
        obtain ⟨rfl, S3, G2, H2, x3, x36⟩ := LI_text H hP hP2
        refine ag_icmp_same (tgt := 871) dd_L_law_545 (by decide) ?_
        exact ag_room (by have := bC_e x3 x36 r; omega) (by have := bS_e x3 x36 r; omega) (NX S3 G2 K h2 H2)
      · refine ag_tabIn (tgt := 550) (off := 517) dd_L_law_33 (by omega) (by omega) (by omega) (by rw [c2]; rfl) (by decide) ?_
        refine ag_aload_n dd_L_law_550 rfl ?_
        refine ag_aload_s dd_L_law_551 rfl ?_
        refine ag_iload_n dd_L_law_552 rfl ?_
        refine ag_iconst dd_L_law_553 ?_
        refine ag_iadd dd_L_law_554 ?_
        refine ag_sld dd_L_law_555 hLs (by omega) ?_
        refine ag_rV dd_L_law_556 fi_L_70 (cr_0 hC) rfl (mc_X_fault (d := 43) (by omega) hC (aw_y_in w _)) rfl rfl (by omega) (Nat.le_of_ble_eq_true rfl) ?_
        refine ag_aload_n dd_L_law_559 rfl ?_
        refine ag_aload_s dd_L_law_560 rfl ?_
        refine ag_iload_n dd_L_law_561 rfl ?_
        refine ag_iconst dd_L_law_562 ?_
        refine ag_iadd dd_L_law_563 ?_
        refine ag_sld dd_L_law_564 hLs (by omega) ?_
        refine ag_rV dd_L_law_565 fi_L_73 (mr_38 hM) rfl (mc_M_fault (d := 6) (by omega) hM (aw_y_in w _)) rfl rfl (by omega) (Nat.le_of_ble_eq_true rfl) ?_
        refine ag_icmp_same (tgt := 871) dd_L_law_568 (by decide) ?_
        exact ag_room (by have := bC_e (S := S) rfl rfl r; omega) (by have := bS_e (S := S) rfl rfl r; omega) (NX S G K h H)
      · refine ag_tabIn (tgt := 573) (off := 540) dd_L_law_33 (by omega) (by omega) (by omega) (by rw [c2]; rfl) (by decide) ?_
        refine ag_aload_n dd_L_law_573 rfl ?_
        refine ag_aload_s dd_L_law_574 rfl ?_
        refine ag_iload_n dd_L_law_575 rfl ?_
        refine ag_iconst dd_L_law_576 ?_
        refine ag_iadd dd_L_law_577 ?_
        refine ag_sld dd_L_law_578 hLs (by omega) ?_
        refine ag_aload_s dd_L_law_579 rfl ?_
        refine ag_iload_n dd_L_law_580 rfl ?_
        refine ag_iconst dd_L_law_581 ?_
        refine ag_iadd dd_L_law_582 ?_
        refine ag_sld dd_L_law_583 hLs (by omega) ?_
        refine ag_aload_s dd_L_law_584 rfl ?_
        refine ag_iload_n dd_L_law_585 rfl ?_
        refine ag_iconst dd_L_law_586 ?_
        refine ag_iadd dd_L_law_587 ?_
        refine ag_sld dd_L_law_588 hLs (by omega) ?_
        refine ag_aload_s dd_L_law_589 rfl ?_
        refine ag_iload_n dd_L_law_590 rfl ?_
        refine ag_iconst dd_L_law_591 ?_
        refine ag_iadd dd_L_law_592 ?_
        refine ag_sld dd_L_law_593 hLs (by omega) ?_
        refine ag_aload_s dd_L_law_594 rfl ?_
        refine ag_iload_n dd_L_law_595 rfl ?_
        refine ag_iconst dd_L_law_596 ?_
        refine ag_iadd dd_L_law_597 ?_
        refine ag_sld dd_L_law_598 hLs (by omega) ?_
        refine ag_wV dd_L_law_599 fi_L_74 (cr_0 hC) rfl (mc_X_tells (d := 43) (by omega) hC H.2.2.1 (aw_y_in w _) (aw_y_in w _) (aw_y_in w _) (aw_y_in w _) (aw_y_in w _)) rfl rfl (by omega) (Nat.le_of_ble_eq_true rfl) (fun r1 h1 hP => ?_)
        obtain ⟨rfl, hC1, -⟩ := hP
        have hM1 := LI_mid H hC1.2
        refine ag_aload_n dd_L_law_602 rfl ?_
        refine ag_aload_s dd_L_law_603 rfl ?_
        refine ag_iload_n dd_L_law_604 rfl ?_
        refine ag_iconst dd_L_law_605 ?_
        refine ag_iadd dd_L_law_606 ?_
        refine ag_sld dd_L_law_607 hLs (by omega) ?_
        refine ag_aload_s dd_L_law_608 rfl ?_
        refine ag_iload_n dd_L_law_609 rfl ?_
        refine ag_iconst dd_L_law_610 ?_
        refine ag_iadd dd_L_law_611 ?_
        refine ag_sld dd_L_law_612 hLs (by omega) ?_
        refine ag_aload_s dd_L_law_613 rfl ?_
        refine ag_iload_n dd_L_law_614 rfl ?_
        refine ag_iconst dd_L_law_615 ?_
        refine ag_iadd dd_L_law_616 ?_
        refine ag_sld dd_L_law_617 hLs (by omega) ?_
        refine ag_aload_s dd_L_law_618 rfl ?_
        refine ag_iload_n dd_L_law_619 rfl ?_
        refine ag_iconst dd_L_law_620 ?_
        refine ag_iadd dd_L_law_621 ?_
        refine ag_sld dd_L_law_622 hLs (by omega) ?_
        refine ag_aload_s dd_L_law_623 rfl ?_
        refine ag_iload_n dd_L_law_624 rfl ?_
        refine ag_iconst dd_L_law_625 ?_
        refine ag_iadd dd_L_law_626 ?_
        refine ag_sld dd_L_law_627 hLs (by omega) ?_
        refine ag_wV dd_L_law_628 fi_L_77 (mr_38 hM1) rfl (mc_M_tells (d := 6) (by omega) hM1 hT (aw_y_in w _) (aw_y_in w _) (aw_y_in w _) (aw_y_in w _) (aw_y_in w _)) rfl rfl (by omega) (Nat.le_of_ble_eq_true rfl) (fun r2 h2 hP2 => ?_)
        obtain ⟨e2, hM2⟩ := hP2
        subst e2
        refine ag_icmp_same (tgt := 871) dd_L_law_631 (by decide) ?_
        exact ag_room (by have := bC_e (S := S) rfl rfl r; omega) (by have := bS_e (S := S) rfl rfl r; omega) (NX S G K h2 (LI_step H hC1 hM2 rfl rfl hLP))
      · refine ag_tabIn (tgt := 636) (off := 603) dd_L_law_33 (by omega) (by omega) (by omega) (by rw [c2]; rfl) (by decide) ?_
        refine ag_aload_n dd_L_law_636 rfl ?_
        refine ag_aload_s dd_L_law_637 rfl ?_
        refine ag_iload_n dd_L_law_638 rfl ?_
        refine ag_iconst dd_L_law_639 ?_
        refine ag_iadd dd_L_law_640 ?_
        refine ag_sld dd_L_law_641 hLs (by omega) ?_
        refine ag_aload_s dd_L_law_642 rfl ?_
        refine ag_iload_n dd_L_law_643 rfl ?_
        refine ag_iconst dd_L_law_644 ?_
        refine ag_iadd dd_L_law_645 ?_
        refine ag_sld dd_L_law_646 hLs (by omega) ?_
        refine ag_rV dd_L_law_647 fi_L_78 (cr_0 hC) rfl (mc_X_sweet (d := 43) (by omega) hC (aw_y_in w _) (aw_y_in w _) hI.fs) rfl rfl (by omega) (Nat.le_of_ble_eq_true rfl) ?_
        refine ag_aload_n dd_L_law_650 rfl ?_
        refine ag_aload_s dd_L_law_651 rfl ?_
        refine ag_iload_n dd_L_law_652 rfl ?_
        refine ag_iconst dd_L_law_653 ?_
        refine ag_iadd dd_L_law_654 ?_
        refine ag_sld dd_L_law_655 hLs (by omega) ?_
        refine ag_aload_s dd_L_law_656 rfl ?_
        refine ag_iload_n dd_L_law_657 rfl ?_
        refine ag_iconst dd_L_law_658 ?_
        refine ag_iadd dd_L_law_659 ?_
        refine ag_sld dd_L_law_660 hLs (by omega) ?_
        refine ag_rV dd_L_law_661 fi_L_82 (mr_38 hM) rfl (mc_M_sweet (d := 6) (by omega) hM (aw_y_in w _) (aw_y_in w _) hI.fs) rfl rfl (by omega) (Nat.le_of_ble_eq_true rfl) ?_
        refine ag_icmp_same (tgt := 871) dd_L_law_664 (by decide) ?_
        exact ag_room (by have := bC_e (S := S) rfl rfl r; omega) (by have := bS_e (S := S) rfl rfl r; omega) (NX S G K h H)
      · refine ag_tabIn (tgt := 669) (off := 636) dd_L_law_33 (by omega) (by omega) (by omega) (by rw [c2]; rfl) (by decide) ?_
        refine ag_aload_n dd_L_law_669 rfl ?_
        refine ag_aload_s dd_L_law_670 rfl ?_
        refine ag_iload_n dd_L_law_671 rfl ?_
        refine ag_iconst dd_L_law_672 ?_
        refine ag_iadd dd_L_law_673 ?_
        refine ag_sld dd_L_law_674 hLs (by omega) ?_
        refine ag_aload_s dd_L_law_675 rfl ?_
        refine ag_iload_n dd_L_law_676 rfl ?_
        refine ag_iconst dd_L_law_677 ?_
        refine ag_iadd dd_L_law_678 ?_
        refine ag_sld dd_L_law_679 hLs (by omega) ?_
        refine ag_rV dd_L_law_680 fi_L_83 (cr_0 hC) rfl (mc_X_fieldOf (d := 43) (by omega) hC (aw_y_in w _) (aw_y_in w _) hI.fs) rfl rfl (by omega) (Nat.le_of_ble_eq_true rfl) ?_
        refine ag_aload_n dd_L_law_683 rfl ?_
        refine ag_aload_s dd_L_law_684 rfl ?_
        refine ag_iload_n dd_L_law_685 rfl ?_
        refine ag_iconst dd_L_law_686 ?_
        refine ag_iadd dd_L_law_687 ?_
        refine ag_sld dd_L_law_688 hLs (by omega) ?_
        refine ag_aload_s dd_L_law_689 rfl ?_
        refine ag_iload_n dd_L_law_690 rfl ?_
        refine ag_iconst dd_L_law_691 ?_
        refine ag_iadd dd_L_law_692 ?_
        refine ag_sld dd_L_law_693 hLs (by omega) ?_
        refine ag_rV dd_L_law_694 fi_L_86 (mr_38 hM) rfl (mc_M_fieldOf (d := 6) (by omega) hM (aw_y_in w _) (aw_y_in w _) hI.fs) rfl rfl (by omega) (Nat.le_of_ble_eq_true rfl) ?_
        refine ag_icmp_same (tgt := 871) dd_L_law_697 (by decide) ?_
        exact ag_room (by have := bC_e (S := S) rfl rfl r; omega) (by have := bS_e (S := S) rfl rfl r; omega) (NX S G K h H)
      · refine ag_tabIn (tgt := 702) (off := 669) dd_L_law_33 (by omega) (by omega) (by omega) (by rw [c2]; rfl) (by decide) ?_
        refine ag_aload_n dd_L_law_702 rfl ?_
        refine ag_aload_s dd_L_law_703 rfl ?_
        refine ag_iload_n dd_L_law_704 rfl ?_
        refine ag_iconst dd_L_law_705 ?_
        refine ag_iadd dd_L_law_706 ?_
        refine ag_sld dd_L_law_707 hLs (by omega) ?_
        refine ag_aload_s dd_L_law_708 rfl ?_
        refine ag_iload_n dd_L_law_709 rfl ?_
        refine ag_iconst dd_L_law_710 ?_
        refine ag_iadd dd_L_law_711 ?_
        refine ag_sld dd_L_law_712 hLs (by omega) ?_
        refine ag_rV dd_L_law_713 fi_L_87 (cr_0 hC) rfl (mc_X_load (d := 43) (by omega) hC (aw_y_in w _) (aw_y_in w _) hI) rfl rfl (by omega) (Nat.le_of_ble_eq_true rfl) ?_
        refine ag_aload_n dd_L_law_716 rfl ?_
        refine ag_aload_s dd_L_law_717 rfl ?_
        refine ag_iload_n dd_L_law_718 rfl ?_
        refine ag_iconst dd_L_law_719 ?_
        refine ag_iadd dd_L_law_720 ?_
        refine ag_sld dd_L_law_721 hLs (by omega) ?_
        refine ag_aload_s dd_L_law_722 rfl ?_
        refine ag_iload_n dd_L_law_723 rfl ?_
        refine ag_iconst dd_L_law_724 ?_
        refine ag_iadd dd_L_law_725 ?_
        refine ag_sld dd_L_law_726 hLs (by omega) ?_
        refine ag_rV dd_L_law_727 fi_L_90 (mr_38 hM) rfl (mc_M_load (d := 6) (by omega) hM (aw_y_in w _) (aw_y_in w _) hI) rfl rfl (by omega) (Nat.le_of_ble_eq_true rfl) ?_
        refine ag_icmp_same (tgt := 871) dd_L_law_730 (by decide) ?_
        exact ag_room (by have := bC_e (S := S) rfl rfl r; omega) (by have := bS_e (S := S) rfl rfl r; omega) (NX S G K h H)
      · refine ag_tabIn (tgt := 735) (off := 702) dd_L_law_33 (by omega) (by omega) (by omega) (by rw [c2]; rfl) (by decide) ?_
        refine ag_aload_n dd_L_law_735 rfl ?_
        refine ag_aload_s dd_L_law_736 rfl ?_
        refine ag_iload_n dd_L_law_737 rfl ?_
        refine ag_iconst dd_L_law_738 ?_
        refine ag_iadd dd_L_law_739 ?_
        refine ag_sld dd_L_law_740 hLs (by omega) ?_
        refine ag_rV dd_L_law_741 fi_L_91 (cr_0 hC) rfl (mc_X_bundle (d := 43) (by omega) hC hbr h36 (aw_y_in w _)) rfl rfl (by omega) (Nat.le_of_ble_eq_true rfl) ?_
        refine ag_aload_n dd_L_law_744 rfl ?_
        refine ag_aload_s dd_L_law_745 rfl ?_
        refine ag_iload_n dd_L_law_746 rfl ?_
        refine ag_iconst dd_L_law_747 ?_
        refine ag_iadd dd_L_law_748 ?_
        refine ag_sld dd_L_law_749 hLs (by omega) ?_
        refine ag_rV dd_L_law_750 fi_L_94 (mr_38 hM) rfl (mc_M_bundle (d := 6) (by omega) hM (aw_y_in w _) hI) rfl rfl (by omega) (Nat.le_of_ble_eq_true rfl) ?_
        refine ag_icmp_same (tgt := 871) dd_L_law_753 (by decide) ?_
        exact ag_room (by have := bC_e (S := S) rfl rfl r; omega) (by have := bS_e (S := S) rfl rfl r; omega) (NX S G K h H)
      · refine ag_tabIn (tgt := 758) (off := 725) dd_L_law_33 (by omega) (by omega) (by omega) (by rw [c2]; rfl) (by decide) ?_
        refine ag_aload_n dd_L_law_758 rfl ?_
        refine ag_aload_s dd_L_law_759 rfl ?_
        refine ag_iload_n dd_L_law_760 rfl ?_
        refine ag_iconst dd_L_law_761 ?_
        refine ag_iadd dd_L_law_762 ?_
        refine ag_sld dd_L_law_763 hLs (by omega) ?_
        refine ag_aload_s dd_L_law_764 rfl ?_
        refine ag_iload_n dd_L_law_765 rfl ?_
        refine ag_iconst dd_L_law_766 ?_
        refine ag_iadd dd_L_law_767 ?_
        refine ag_sld dd_L_law_768 hLs (by omega) ?_
        refine ag_wV dd_L_law_769 fi_L_95 (cr_0 hC) rfl (mc_X_best (d := 43) (by omega) H.2.1 H.2.2.2.1 H.2.2.2.2.1 hI (aw_y_in w _) (aw_y_in w _)) rfl rfl (by omega) (Nat.le_of_ble_eq_true rfl) (fun r1 h1 hP => ?_)
        obtain ⟨rfl, K2, hK1, hch2⟩ := hP
        have hM1 := LI_bmid H hK1
        refine ag_aload_n dd_L_law_772 rfl ?_
        refine ag_aload_s dd_L_law_773 rfl ?_
        refine ag_iload_n dd_L_law_774 rfl ?_
        refine ag_iconst dd_L_law_775 ?_
        refine ag_iadd dd_L_law_776 ?_
        refine ag_sld dd_L_law_777 hLs (by omega) ?_
        refine ag_aload_s dd_L_law_778 rfl ?_
        refine ag_iload_n dd_L_law_779 rfl ?_
        refine ag_iconst dd_L_law_780 ?_
        refine ag_iadd dd_L_law_781 ?_
        refine ag_sld dd_L_law_782 hLs (by omega) ?_
        refine ag_wV dd_L_law_783 fi_L_98 (mr_38 hM1) rfl (mc_M_best (d := 6) (by omega) hM1 hI (aw_y_in w _) (aw_y_in w _)) rfl rfl (by omega) (Nat.le_of_ble_eq_true rfl) (fun r2 h2 hP2 => ?_)
        obtain ⟨rfl, S2, hsc, hM2⟩ := hP2
        refine ag_icmp_same (tgt := 871) dd_L_law_786 (by decide) ?_
        exact ag_room (by have := bC_e (hsc.1 3 (by decide)) (hsc.1 36 (by decide)) r; omega) (by have := bS_e (hsc.1 3 (by decide)) (hsc.1 36 (by decide)) r; omega) (NX S2 G K2 h2 (LI_best H hK1 hch2 hsc hM2))
      · refine ag_tabIn (tgt := 791) (off := 758) dd_L_law_33 (by omega) (by omega) (by omega) (by rw [c2]; rfl) (by decide) ?_
        refine ag_aload_n dd_L_law_791 rfl ?_
        refine ag_aload_s dd_L_law_792 rfl ?_
        refine ag_iload_n dd_L_law_793 rfl ?_
        refine ag_iconst dd_L_law_794 ?_
        refine ag_iadd dd_L_law_795 ?_
        refine ag_sld dd_L_law_796 hLs (by omega) ?_
        refine ag_aload_s dd_L_law_797 rfl ?_
        refine ag_iload_n dd_L_law_798 rfl ?_
        refine ag_iconst dd_L_law_799 ?_
        refine ag_iadd dd_L_law_800 ?_
        refine ag_sld dd_L_law_801 hLs (by omega) ?_
        refine ag_wV dd_L_law_802 fi_L_99 (cr_0 hC) rfl (mc_X_bestSet (d := 43) (by omega) H.2.1 H.2.2.2.1 H.2.2.2.2.1 hI (aw_y_in w _) (aw_y_in w _)) rfl rfl (by omega) (Nat.le_of_ble_eq_true rfl) (fun r1 h1 hP => ?_)
        obtain ⟨rfl, K2, hK1, hch2⟩ := hP
        have hM1 := LI_bmid H hK1
        refine ag_aload_n dd_L_law_805 rfl ?_
        refine ag_aload_s dd_L_law_806 rfl ?_
        refine ag_iload_n dd_L_law_807 rfl ?_
        refine ag_iconst dd_L_law_808 ?_
        refine ag_iadd dd_L_law_809 ?_
        refine ag_sld dd_L_law_810 hLs (by omega) ?_
        refine ag_aload_s dd_L_law_811 rfl ?_
        refine ag_iload_n dd_L_law_812 rfl ?_
        refine ag_iconst dd_L_law_813 ?_
        refine ag_iadd dd_L_law_814 ?_
        refine ag_sld dd_L_law_815 hLs (by omega) ?_
        refine ag_wV dd_L_law_816 fi_L_102 (mr_38 hM1) rfl (mc_M_bestSet (d := 6) (by omega) hM1 hI (aw_y_in w _) (aw_y_in w _)) rfl rfl (by omega) (Nat.le_of_ble_eq_true rfl) (fun r2 h2 hP2 => ?_)
        obtain ⟨rfl, S2, hsc, hM2⟩ := hP2
        refine ag_icmp_same (tgt := 871) dd_L_law_819 (by decide) ?_
        exact ag_room (by have := bC_e (hsc.1 3 (by decide)) (hsc.1 36 (by decide)) r; omega) (by have := bS_e (hsc.1 3 (by decide)) (hsc.1 36 (by decide)) r; omega) (NX S2 G K2 h2 (LI_best H hK1 hch2 hsc hM2))
      · refine ag_tabIn (tgt := 824) (off := 791) dd_L_law_33 (by omega) (by omega) (by omega) (by rw [c2]; rfl) (by decide) ?_
        refine ag_aload_n dd_L_law_824 rfl ?_
        refine ag_aload_s dd_L_law_825 rfl ?_
        refine ag_iload_n dd_L_law_826 rfl ?_
        refine ag_iconst dd_L_law_827 ?_
        refine ag_iadd dd_L_law_828 ?_
        refine ag_sld dd_L_law_829 hLs (by omega) ?_
        refine ag_rV dd_L_law_830 fi_L_103 (cr_0 hC) rfl (mc_X_paid (d := 43) (by omega) hC (aw_y_in w _) ha1) rfl rfl (by omega) (Nat.le_of_ble_eq_true rfl) ?_
        refine ag_aload_n dd_L_law_833 rfl ?_
        refine ag_aload_s dd_L_law_834 rfl ?_
        refine ag_iload_n dd_L_law_835 rfl ?_
        refine ag_iconst dd_L_law_836 ?_
        refine ag_iadd dd_L_law_837 ?_
        refine ag_sld dd_L_law_838 hLs (by omega) ?_
        refine ag_rV dd_L_law_839 fi_L_107 (mr_38 hM) rfl (mc_M_paid (d := 6) (by omega) hM (aw_y_in w _) ha1) rfl rfl (by omega) (Nat.le_of_ble_eq_true rfl) ?_
        refine ag_lc_same (n := 0) dd_L_law_842 ?_
        refine ag_if_eq (tgt := 871) dd_L_law_843 (by decide) (by omega) (fun _ => ?_) (fun c => absurd rfl c)
        exact ag_room (by have := bC_e (S := S) rfl rfl r; omega) (by have := bS_e (S := S) rfl rfl r; omega) (NX S G K h H)
      · refine ag_tabIn (tgt := 848) (off := 815) dd_L_law_33 (by omega) (by omega) (by omega) (by rw [c2]; rfl) (by decide) ?_
        refine ag_aload_n dd_L_law_848 rfl ?_
        refine ag_aload_s dd_L_law_849 rfl ?_
        refine ag_iload_n dd_L_law_850 rfl ?_
        refine ag_iconst dd_L_law_851 ?_
        refine ag_iadd dd_L_law_852 ?_
        refine ag_sld dd_L_law_853 hLs (by omega) ?_
        refine ag_rV dd_L_law_854 fi_L_108 (cr_0 hC) rfl (mc_X_about (d := 43) (by omega) hC hI hsr htr hbr (aw_y_in w _)) rfl rfl (by omega) (Nat.le_of_ble_eq_true rfl) ?_
        refine ag_aload_n dd_L_law_857 rfl ?_
        refine ag_aload_s dd_L_law_858 rfl ?_
        refine ag_iload_n dd_L_law_859 rfl ?_
        refine ag_iconst dd_L_law_860 ?_
        refine ag_iadd dd_L_law_861 ?_
        refine ag_sld dd_L_law_862 hLs (by omega) ?_
        refine ag_rV dd_L_law_863 fi_L_111 (mr_38 hM) rfl (mc_M_about (d := 6) (by omega) hM hI hord (aw_y_in w _)) rfl rfl (by omega) (Nat.le_of_ble_eq_true rfl) ?_
        refine ag_icmp_same (tgt := 871) dd_L_law_866 (by decide) ?_
        exact ag_room (by have := bC_e (S := S) rfl rfl r; omega) (by have := bS_e (S := S) rfl rfl r; omega) (NX S G K h H)
