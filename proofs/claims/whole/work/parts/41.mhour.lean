/-- what an hour leaves as it was -/
def ms_kp (S S' : ms_T) : Prop := (∀ j, j ≠ 3 → j ≠ 36 → j ≠ 37 → j ≠ 38 → S'.1 j = S.1 j) ∧ ∀ a, ¬ (a = 39 ∨ (46 ≤ a ∧ a ≤ 48) ∨ a = 51 ∨ (55 ≤ a ∧ a ≤ 65)) → S'.2 a = S.2 a
theorem ms_kp.rf (S : ms_T) : ms_kp S S := ⟨fun _ _ _ _ _ => rfl, fun _ _ => rfl⟩
theorem ms_kp.tr {A B C : ms_T} (h1 : ms_kp A B) (h2 : ms_kp B C) : ms_kp A C := ⟨fun j q1 q2 q3 q4 => (h2.1 j q1 q2 q3 q4).trans (h1.1 j q1 q2 q3 q4), fun a q => (h2.2 a q).trans (h1.2 a q)⟩
theorem kp_nl (S : ms_T) (f : Nat) : ms_kp S (sp_nl S f) := by
  refine ⟨fun j q1 _ _ _ => ai_up_n _ _ q1, fun a q => ?_⟩
  unfold sp_nl
  dsimp only
  repeat rw [ai_up_n _ _ (by omega)]
theorem kp_co (S : ms_T) (f : Nat) : ms_kp S (sp_co S f) := by
  unfold sp_co
  split
  · exact ⟨fun _ _ _ _ _ => rfl, fun a q => ai_up_n _ _ (by omega)⟩
  · exact kp_nl S f
theorem kp_send (S : ms_T) (l : Nat) : ms_kp S (sp_send S l) := by
  unfold sp_send
  split
  · exact ms_kp.rf S
  · refine ⟨fun _ _ _ _ _ => rfl, fun a q => ?_⟩
    unfold sp_go
    dsimp only
    repeat rw [ai_up_n _ _ (by omega)]
theorem kp_ml1 (S : ms_T) (l : Nat) (n : Int) : ms_kp S (sp_ml1 S l n) := by
  refine ⟨fun j _ q1 _ _ => ai_up_n _ _ q1, fun a q => ?_⟩
  unfold sp_ml1
  dsimp only
  repeat rw [ai_up_n _ _ (by omega)]
theorem kp_mlN : ∀ (r : Nat) (S : ms_T) (room : Int), ms_kp S (sp_mlN r S room)
  | 0, S, _ => ms_kp.rf S
  | r + 1, S, room => by
    rw [sp_mlN]
    split
    · exact ms_kp.rf S
    · exact (kp_ml1 S _ _).tr (kp_mlN r _ _)
theorem kp_el (S : ms_T) (l : Nat) : ms_kp S (sp_el S l) := by
  have h1 : ms_kp S (sp_los S l) := by
    unfold sp_los
    split
    · exact ⟨fun j _ _ q1 _ => ai_up_n _ _ q1, fun a q => ai_up_n _ _ (by omega)⟩
    · exact ms_kp.rf S
  have h2 : ms_kp (sp_los S l) (sp_ov (sp_los S l) l) := by
    unfold sp_ov
    split
    · exact ⟨fun _ _ _ _ _ => rfl, fun a q => ai_up_n _ _ (by omega)⟩
    · exact ms_kp.rf _
  unfold sp_el
  split
  · exact ms_kp.rf S
  · exact h1.tr h2
theorem kp_fr (S : ms_T) (f : Nat) : ms_kp S (sp_fr S f) := by
  unfold sp_fr
  split
  · exact ⟨fun _ _ _ _ _ => rfl, fun a q => ai_up_n _ _ (by omega)⟩
  · exact ms_kp.rf S
theorem kp_pp (S : ms_T) (l : Nat) : ms_kp S (sp_pp S l) := ⟨fun _ _ _ _ _ => by rw [sp_pp_f], fun a q => sp_pp_a S l (by omega) (by omega)⟩
theorem kp_it {f : ms_T → Nat → ms_T} (hf : ∀ S n, ms_kp S (f S n)) (S : ms_T) : ∀ n, ms_kp S (sp_it f S n)
  | 0 => ms_kp.rf S
  | n + 1 => (kp_it hf S n).tr (hf _ n)
theorem sp_tm {a : Int} (h : 0 ≤ a) : 0 ≤ a.tmod 24 ∧ a.tmod 24 < 24 := by
  rw [Int.tmod_eq_emod_of_nonneg h]
  omega
def sp_cs (S : ms_T) (f : Nat) : ms_T := if S.2 46 f = 1 then sp_co S f else S
theorem kp_cs (S : ms_T) (f : Nat) : ms_kp S (sp_cs S f) := by
  unfold sp_cs
  split
  · exact kp_co S f
  · exact ms_kp.rf S
def sp_h1 (S : ms_T) : ms_T := if sp_hin S 0 (S.1 0) = true then S else sp_it sp_cs S (S.1 2).toNat
def sp_h2 (S : ms_T) : ms_T := sp_it sp_send S (S.1 3).toNat
def sp_h3 (S : ms_T) : ms_T := if sp_hin S 1 (S.1 0) = true then S else sp_mill S
def sp_h4 (S : ms_T) : ms_T := sp_it sp_el S (S.1 3).toNat
def sp_h5 (S : ms_T) : ms_T := sp_it sp_fr S (S.1 2).toNat
def sp_h6 (S : ms_T) : ms_T := if (S.1 0 + 1).tmod 24 = 0 then sp_pd S else S
def sp_h7 (S : ms_T) : ms_T := (ai_up S.1 0 (S.1 0 + 1), S.2)
def sp_hour (S : ms_T) : ms_T := sp_h7 (sp_h6 (sp_h5 (sp_h4 (sp_h3 (sp_h2 (sp_h1 S))))))
/-- weather told is of hours that are -/
def iv_W (S : ms_T) : Prop := ∀ i : Nat, (i : Int) < S.1 21 → (0 ≤ S.2 52 i ∧ S.2 52 i ≤ 1) ∧ (0 ≤ S.2 53 i ∧ S.2 53 i ≤ 4000) ∧ (0 ≤ S.2 54 i ∧ S.2 54 i ≤ 4000)
theorem iv_W.kp {S S' : ms_T} (h : iv_W S) (k : ms_kp S S') : iv_W S' := by
  intro i hi
  rw [k.1 21 (by decide) (by decide) (by decide) (by decide)] at hi
  rw [k.2 52 (by omega), k.2 53 (by omega), k.2 54 (by omega)]
  exact h i hi
theorem iv_T.kp {S S' : ms_T} (h : iv_T S) (k : ms_kp S S') : iv_T S' := by
  have e : sp_code S' = sp_code S := by
    unfold sp_code
    rw [k.1 44 (by decide) (by decide) (by decide) (by decide), k.2 69 (by omega), k.2 70 (by omega)]
  unfold iv_T
  rw [e, k.1 44 (by decide) (by decide) (by decide) (by decide)]
  exact h
theorem iv_cs {S : ms_T} (h : iv_S S) {f : Nat} (hf : (f : Int) < S.1 2) (hc : S.1 0 ≤ 3999) : iv_S (sp_cs S f) := by
  unfold sp_cs
  split
  · rename_i q
    exact iv_co h hf q hc
  · exact h
theorem iv_itcs {S : ms_T} (h : iv_S S) (hc : S.1 0 ≤ 3999) : ∀ n : Nat, (n : Int) ≤ S.1 2 → iv_S (sp_it sp_cs S n)
  | 0, _ => h
  | n + 1, hn => by
    have k := kp_it kp_cs S n
    have f2 := k.1 2 (by decide) (by decide) (by decide) (by decide)
    have f0 := k.1 0 (by decide) (by decide) (by decide) (by decide)
    exact iv_cs (iv_itcs h hc n (by omega)) (by omega) (by omega)
theorem send_3 (S : ms_T) (l : Nat) : (sp_send S l).1 = S.1 := by unfold sp_send; split <;> rfl
theorem itsend_3 (S : ms_T) : ∀ n, (sp_it sp_send S n).1 = S.1
  | 0 => rfl
  | n + 1 => by rw [sp_it, send_3, itsend_3 S n]
theorem iv_itsend {S : ms_T} (h : iv_S S) : ∀ n : Nat, (n : Int) ≤ S.1 3 → iv_S (sp_it sp_send S n)
  | 0, _ => h
  | n + 1, hn => iv_send (iv_itsend h n (by omega)) (by rw [itsend_3]; omega)
theorem el_3 (S : ms_T) (l : Nat) : (sp_el S l).1 3 = S.1 3 := by
  unfold sp_el
  split
  · rfl
  · have h1 : ∀ S : ms_T, (sp_ov S l).1 3 = S.1 3 := fun S => by unfold sp_ov; split <;> rfl
    rw [h1]
    unfold sp_los
    split <;> rfl
theorem itel_3 (S : ms_T) : ∀ n, (sp_it sp_el S n).1 3 = S.1 3
  | 0 => rfl
  | n + 1 => by rw [sp_it, el_3, itel_3 S n]
theorem iv_itel {S : ms_T} (h : iv_S S) : ∀ n : Nat, (n : Int) ≤ S.1 3 → iv_S (sp_it sp_el S n)
  | 0, _ => h
  | n + 1, hn => iv_el (iv_itel h n (by omega)) (by rw [itel_3]; omega)
theorem iv_itfr {S : ms_T} (h : iv_S S) : ∀ n : Nat, (n : Int) ≤ S.1 2 → iv_S (sp_it sp_fr S n)
  | 0, _ => h
  | n + 1, hn => by
    have k := kp_it kp_fr S n
    have f2 := k.1 2 (by decide) (by decide) (by decide) (by decide)
    exact iv_fr (iv_itfr h n (by omega)) (by omega)
theorem ml1_3 (S : ms_T) (l : Nat) (n : Int) : (sp_ml1 S l n).1 3 = S.1 3 := rfl
theorem iv_mlN : ∀ (r : Nat) (S : ms_T) (room : Int), iv_S S → iv_S (sp_mlN r S room)
  | 0, _, _, h => h
  | r + 1, S, room, h => by
    rw [sp_mlN]
    split
    · exact h
    · rename_i q
      have h3 := h.1.2.2.2.1
      have hb : -1 ≤ sp_fd S ∧ sp_fd S < (S.1 3).toNat := sp_fdN_b S (S.1 3).toNat
      have hw := sp_fdN_w S (S.1 3).toNat (by show 0 ≤ sp_fd S; omega)
      have hw1 : S.2 62 (sp_fd S).toNat < 0 := hw.1
      have hw2 : 0 < sp_left S (sp_fd S).toNat := hw.2.2
      exact iv_mlN r _ _ (iv_ml1 h (by omega) hw1 (by unfold sp_mn; split <;> omega))
theorem iv_h6 {S : ms_T} (h : iv_S S) (hT : iv_T S) : iv_S (sp_h6 S) := by
  unfold sp_h6
  split
  · have hmb := sp_mean_b h
    have a3 := h.1.2.2.2.1
    exact (iv_itpp (iv_m38 h _) (iv_T38 hT _) (by show iv_b (sp_mean S); unfold iv_b; omega) (S.1 3).toNat (by show _ ≤ S.1 3; omega)).1
  · exact h
theorem kp_h6 (S : ms_T) : ms_kp S (sp_h6 S) := by
  unfold sp_h6
  split
  · exact ms_kp.tr (B := (ai_up S.1 38 (sp_mean S), S.2)) ⟨fun j _ _ _ q => ai_up_n _ _ q, fun _ _ => rfl⟩ (kp_it kp_pp _ _)
  · exact ms_kp.rf S
set_option maxHeartbeats 1000000 in
theorem ml_M_hour6 {w : aw_T} {h0 : ah_T} {d : Nat} {P : ap_T} (hd : 4 ≤ d) {S : ms_T} (hI : iv_S S) (hT : iv_T S) {h : ah_T} (hM : mo_I h0 h S) (hP : ∀ h, mo_I h0 h (sp_h7 (sp_h6 S)) → P none h) : aw_W w mm_M_hour d P 236 [some (av_r 38), none, none] [] h 0 0 := by
  have a0 := hI.1.1
  have k6 := kp_h6 S
  have htm := sp_tm (a := S.1 0 + 1) (by omega)
  refine ag_aload_n dd_M_hour_236 rfl ?_
  refine ag_get dd_M_hour_237 fg_M_159 (mr_38 hM) rfl ?_
  refine ag_iconst dd_M_hour_240 ?_
  refine ag_iadd dd_M_hour_241 ?_
  refine ag_bipush dd_M_hour_242 (by decide +kernel) ?_
  refine ag_irem dd_M_hour_244 (by omega) (by omega) (by omega) ?_
  refine ag_if_ne (tgt := 252) dd_M_hour_245 (by decide) (by omega) (fun c1 => ?_) (fun c1 => ?_)
  · refine ag_aload_n dd_M_hour_252 rfl ?_
    refine ag_dup dd_M_hour_253 rfl ?_
    refine ag_get dd_M_hour_254 fg_M_159 (mr_38 hM) rfl ?_
    refine ag_iconst dd_M_hour_257 ?_
    refine ag_iadd dd_M_hour_258 ?_
    refine mp_0 dd_M_hour_259 fp_M_159 hM (fun h S2 eS2 hM => ?_)
    refine ag_vret dd_M_hour_262 rfl ?_
    have e6 : sp_h6 S = S := by unfold sp_h6; rw [if_neg (by omega)]
    refine hP h ?_
    rw [e6]
    subst_vars
    exact hM
  · refine ag_aload_n dd_M_hour_248 rfl ?_
    refine ag_wV dd_M_hour_249 fi_M_229 (mr_38 hM) rfl (mc_M_payDay (d := 3) (by omega) hM hI hT) rfl rfl (by omega) (Nat.le_of_ble_eq_true rfl) (fun r h hP2 => ?_)
    obtain ⟨rfl, hM⟩ := hP2
    replace hM : mo_I h0 h (sp_pd S) := hM
    have e6 : sp_h6 S = sp_pd S := by unfold sp_h6; rw [if_pos (by omega)]
    rw [← e6] at hM
    refine ag_aload_n dd_M_hour_252 rfl ?_
    refine ag_dup dd_M_hour_253 rfl ?_
    refine ag_get dd_M_hour_254 fg_M_159 (mr_38 hM) rfl ?_
    refine ag_iconst dd_M_hour_257 ?_
    refine ag_iadd dd_M_hour_258 ?_
    refine mp_0 dd_M_hour_259 fp_M_159 hM (fun h S3 eS3 hM => ?_)
    refine ag_vret dd_M_hour_262 rfl ?_
    refine hP h ?_
    subst_vars
    exact hM
set_option maxHeartbeats 1000000 in
theorem ml_M_hour5 {w : aw_T} {h0 : ah_T} {d : Nat} {P : ap_T} (hd : 4 ≤ d) {S : ms_T} (hI : iv_S S)  (hX : ∀ h, mo_I h0 h (sp_it sp_fr S (S.1 2).toNat) → aw_W w mm_M_hour d P 236 [some (av_r 38), none, none] [] h 0 0) : ∀ (r k : Nat) (h : ah_T), (k : Int) + r = S.1 2 → mo_I h0 h (sp_it sp_fr S k) → aw_W w mm_M_hour d P 181 [some (av_r 38), none, some (av_i ((k : Int)))] [] h 0 0 := by
  intro r
  induction r with
  | zero =>
    intro k h hk hM
    have kk := kp_it kp_fr S k
    have iS := iv_itfr hI k (by omega)
    have f2 := kk.1 2 (by decide) (by decide) (by decide) (by decide)
    have f0 := kk.1 0 (by decide) (by decide) (by decide) (by decide)
    have a2 := hI.1.2.2.1
    have a0 := hI.1.1
    refine ag_iload_n dd_M_hour_181 rfl ?_
    refine ag_aload_n dd_M_hour_182 rfl ?_
    refine ag_get dd_M_hour_183 fg_M_152 (mr_38 hM) rfl ?_
    refine ag_icmp_ge (tgt := 236) dd_M_hour_186 (by decide) (by omega) (by omega) (fun c1 => ?_) (fun c1 => ?_)
    · obtain rfl : k = (S.1 2).toNat := by omega
      exact ag_weak [some (av_r 38), none, none] (by simp [al_le]) (hX h hM)
    · exfalso; omega
  | succ r ih =>
    intro k h hk hM
    have kk := kp_it kp_fr S k
    have iS := iv_itfr hI k (by omega)
    have f2 := kk.1 2 (by decide) (by decide) (by decide) (by decide)
    have f0 := kk.1 0 (by decide) (by decide) (by decide) (by decide)
    have a2 := hI.1.2.2.1
    have a0 := hI.1.1
    refine ag_iload_n dd_M_hour_181 rfl ?_
    refine ag_aload_n dd_M_hour_182 rfl ?_
    refine ag_get dd_M_hour_183 fg_M_152 (mr_38 hM) rfl ?_
    refine ag_icmp_ge (tgt := 236) dd_M_hour_186 (by decide) (by omega) (by omega) (fun c1 => ?_) (fun c1 => ?_)
    · exfalso; omega
    · generalize eSk : sp_it sp_fr S k = Sk at *
      obtain ⟨b40, b41, b42, b43, b44, b45, b46, b47, b48, b49, b50, b51⟩ := (iS.2.1 k (by omega)).1
      refine ag_aload_n dd_M_hour_189 rfl ?_
      refine ag_get dd_M_hour_190 fg_M_45 (mr_38 hM) rfl ?_
      refine ag_iload_n dd_M_hour_193 rfl ?_
      refine ag_ialdN dd_M_hour_194 (mr_46 hM) (by decide) (by omega) ?_
      refine ag_if_ne (tgt := 230) dd_M_hour_195 (by decide) (by omega) (fun c2 => ?_) (fun c2 => ?_)
      · refine ag_iincN (Lf := fun y => [some (av_r 38), none, some (av_i (y))]) dd_M_hour_230 rfl (fun _ => rfl) rfl (by decide) (fun y3 ey3 => ?_)
        refine ag_goto (tgt := 181) dd_M_hour_233 (by decide) ?_
        have eN : Sk = sp_it sp_fr S (k + 1) := by
          rw [sp_it, eSk]
          unfold sp_fr
          first | rw [if_neg (by omega)] | (rw [if_pos (by omega)]; subst_vars; rfl)
        rw [eN] at hM
        obtain rfl : y3 = ((k + 1 : Nat) : Int) := by omega
        exact ih (k + 1) h (by omega) hM
      · refine ag_aload_n dd_M_hour_198 rfl ?_
        refine ag_get dd_M_hour_199 fg_M_54 (mr_38 hM) rfl ?_
        refine ag_iload_n dd_M_hour_202 rfl ?_
        refine ag_ialdN dd_M_hour_203 (mr_49 hM) (by decide) (by omega) ?_
        refine ag_if_lt (tgt := 230) dd_M_hour_204 (by decide) (by omega) (fun c4 => ?_) (fun c4 => ?_)
        · refine ag_iincN (Lf := fun y => [some (av_r 38), none, some (av_i (y))]) dd_M_hour_230 rfl (fun _ => rfl) rfl (by decide) (fun y5 ey5 => ?_)
          refine ag_goto (tgt := 181) dd_M_hour_233 (by decide) ?_
          have eN : Sk = sp_it sp_fr S (k + 1) := by
            rw [sp_it, eSk]
            unfold sp_fr
            first | rw [if_neg (by omega)] | (rw [if_pos (by omega)]; subst_vars; rfl)
          rw [eN] at hM
          obtain rfl : y5 = ((k + 1 : Nat) : Int) := by omega
          exact ih (k + 1) h (by omega) hM
        · refine ag_aload_n dd_M_hour_207 rfl ?_
          refine ag_get dd_M_hour_208 fg_M_159 (mr_38 hM) rfl ?_
          refine ag_aload_n dd_M_hour_211 rfl ?_
          refine ag_get dd_M_hour_212 fg_M_54 (mr_38 hM) rfl ?_
          refine ag_iload_n dd_M_hour_215 rfl ?_
          refine ag_ialdN dd_M_hour_216 (mr_49 hM) (by decide) (by omega) ?_
          refine ag_bipush dd_M_hour_217 (by decide +kernel) ?_
          refine ag_iadd dd_M_hour_219 ?_
          refine ag_icmp_ne (tgt := 230) dd_M_hour_220 (by decide) (by omega) (by omega) (fun c6 => ?_) (fun c6 => ?_)
          · refine ag_iincN (Lf := fun y => [some (av_r 38), none, some (av_i (y))]) dd_M_hour_230 rfl (fun _ => rfl) rfl (by decide) (fun y7 ey7 => ?_)
            refine ag_goto (tgt := 181) dd_M_hour_233 (by decide) ?_
            have eN : Sk = sp_it sp_fr S (k + 1) := by
              rw [sp_it, eSk]
              unfold sp_fr
              first | rw [if_neg (by omega)] | (rw [if_pos (by omega)]; subst_vars; rfl)
            rw [eN] at hM
            obtain rfl : y7 = ((k + 1 : Nat) : Int) := by omega
            exact ih (k + 1) h (by omega) hM
          · refine ag_aload_n dd_M_hour_223 rfl ?_
            refine ag_get dd_M_hour_224 fg_M_45 (mr_38 hM) rfl ?_
            refine ag_iload_n dd_M_hour_227 rfl ?_
            refine ag_iconst dd_M_hour_228 ?_
            refine ms_46N dd_M_hour_229 hM (by omega) (fun h S8 eS8 hM => ?_)
            refine ag_iincN (Lf := fun y => [some (av_r 38), none, some (av_i (y))]) dd_M_hour_230 rfl (fun _ => rfl) rfl (by decide) (fun y9 ey9 => ?_)
            refine ag_goto (tgt := 181) dd_M_hour_233 (by decide) ?_
            have eN : S8 = sp_it sp_fr S (k + 1) := by
              rw [sp_it, eSk]
              unfold sp_fr
              first | rw [if_neg (by omega)] | (rw [if_pos (by omega)]; subst_vars; rfl)
            rw [eN] at hM
            obtain rfl : y9 = ((k + 1 : Nat) : Int) := by omega
            exact ih (k + 1) h (by omega) hM
/-- what left reads is in order -/
def iv_SL (S : ms_T) (l : Nat) : Prop := l < 16 ∧ (0 ≤ S.2 55 l ∧ S.2 55 l < 16)
theorem iv_SL.of {S : ms_T} (h : iv_S S) {l : Nat} (hl : (l : Int) < S.1 3) : iv_SL S l := by
  have := sp_left_b h hl
  have h3 := h.1.2.2.2.1
  have h2 := h.1.2.2.1
  exact ⟨by omega, by omega⟩
set_option maxHeartbeats 1000000 in
theorem mc_M_left2 {w : aw_T} {h0 h : ah_T} {S : ms_T} {d : Nat} (hd : 0 ≤ d) (hM : mo_I h0 h S) {l : Nat} (hI : iv_SL S l) : am_M w mm_M_left d [av_r 38, av_i (l : Int)] h 0 0 (fun r h' => r = some (av_i (sp_left S l)) ∧ h' = h) := by
  refine am_intro [some (av_r 38), some (av_i ((l : Int)))] (by decide +kernel) (Nat.le_of_ble_eq_true rfl) rfl ?_
  obtain ⟨hb1, hb2⟩ := hI
  refine ag_aload_n dd_M_left_0 rfl ?_
  refine ag_get dd_M_left_1 fg_M_30 (mr_38 hM) rfl ?_
  refine ag_aload_n dd_M_left_4 rfl ?_
  refine ag_get dd_M_left_5 fg_M_73 (mr_38 hM) rfl ?_
  refine ag_iload_n dd_M_left_8 rfl ?_
  refine ag_ialdN dd_M_left_9 (mr_55 hM) (by decide) (by omega) ?_
  refine ag_iald dd_M_left_10 (mr_41 hM) (by decide) (by omega) ?_
  refine ag_aload_n dd_M_left_11 rfl ?_
  refine ag_get dd_M_left_12 fg_M_88 (mr_38 hM) rfl ?_
  refine ag_iload_n dd_M_left_15 rfl ?_
  refine ag_ialdN dd_M_left_16 (mr_60 hM) (by decide) (by omega) ?_
  refine ag_isub dd_M_left_17 ?_
  refine ag_aload_n dd_M_left_18 rfl ?_
  refine ag_get dd_M_left_19 fg_M_91 (mr_38 hM) rfl ?_
  refine ag_iload_n dd_M_left_22 rfl ?_
  refine ag_ialdN dd_M_left_23 (mr_61 hM) (by decide) (by omega) ?_
  refine ag_isub dd_M_left_24 ?_
  refine ag_iret dd_M_left_25 rfl ?_
  exact ⟨rfl, rfl⟩
set_option maxHeartbeats 1000000 in
theorem ml_M_hour4 {w : aw_T} {h0 : ah_T} {d : Nat} {P : ap_T} (hd : 4 ≤ d) {S : ms_T} (hI : iv_S S)  (hX : ∀ h, mo_I h0 h (sp_it sp_el S (S.1 3).toNat) → aw_W w mm_M_hour d P 179 [some (av_r 38), none, none] [] h 0 0) : ∀ (r k : Nat) (h : ah_T), (k : Int) + r = S.1 3 → mo_I h0 h (sp_it sp_el S k) → aw_W w mm_M_hour d P 92 [some (av_r 38), none, some (av_i ((k : Int)))] [] h 0 0 := by
  intro r
  induction r with
  | zero =>
    intro k h hk hM
    have kk := kp_it kp_el S k
    have iS := iv_itel hI k (by omega)
    have f3 := itel_3 S k
    have f0 := kk.1 0 (by decide) (by decide) (by decide) (by decide)
    have a3 := hI.1.2.2.2.1
    have a0 := hI.1.1
    refine ag_iload_n dd_M_hour_92 rfl ?_
    refine ag_aload_n dd_M_hour_93 rfl ?_
    refine ag_get dd_M_hour_94 fg_M_191 (mr_38 hM) rfl ?_
    refine ag_icmp_ge (tgt := 179) dd_M_hour_97 (by decide) (by omega) (by omega) (fun c1 => ?_) (fun c1 => ?_)
    · obtain rfl : k = (S.1 3).toNat := by omega
      exact ag_weak [some (av_r 38), none, none] (by simp [al_le]) (hX h hM)
    · exfalso; omega
  | succ r ih =>
    intro k h hk hM
    have kk := kp_it kp_el S k
    have iS := iv_itel hI k (by omega)
    have f3 := itel_3 S k
    have f0 := kk.1 0 (by decide) (by decide) (by decide) (by decide)
    have a3 := hI.1.2.2.2.1
    have a0 := hI.1.1
    refine ag_iload_n dd_M_hour_92 rfl ?_
    refine ag_aload_n dd_M_hour_93 rfl ?_
    refine ag_get dd_M_hour_94 fg_M_191 (mr_38 hM) rfl ?_
    refine ag_icmp_ge (tgt := 179) dd_M_hour_97 (by decide) (by omega) (by omega) (fun c1 => ?_) (fun c1 => ?_)
    · exfalso; omega
    · generalize eSk : sp_it sp_el S k = Sk at *
      obtain ⟨q1, q2, q3, q4, q5, q6, q7, q8, q9, q10, q11⟩ := iS.2.2.2.1 k (by omega)
      have hlb := sp_left_b iS (l := k) (by omega)
      refine ag_aload_n dd_M_hour_100 rfl ?_
      refine ag_get dd_M_hour_101 fg_M_94 (mr_38 hM) rfl ?_
      refine ag_iload_n dd_M_hour_104 rfl ?_
      refine ag_ialdN dd_M_hour_105 (mr_62 hM) (by decide) (by omega) ?_
      refine ag_if_lt (tgt := 112) dd_M_hour_106 (by decide) (by omega) (fun c2 => ?_) (fun c2 => ?_)
      · refine ag_aload_n dd_M_hour_112 rfl ?_
        refine ag_get dd_M_hour_113 fg_M_82 (mr_38 hM) rfl ?_
        refine ag_iload_n dd_M_hour_116 rfl ?_
        refine ag_ialdN dd_M_hour_117 (mr_58 hM) (by decide) (by omega) ?_
        refine ag_aload_n dd_M_hour_118 rfl ?_
        refine ag_get dd_M_hour_119 fg_M_159 (mr_38 hM) rfl ?_
        refine ag_iconst dd_M_hour_122 ?_
        refine ag_iadd dd_M_hour_123 ?_
        refine ag_icmp_gt (tgt := 155) dd_M_hour_124 (by decide) (by omega) (by omega) (fun c3 => ?_) (fun c3 => ?_)
        · have eL : sp_los Sk k = Sk := by unfold sp_los; rw [if_neg (by omega)]
          have iL : iv_S Sk := iS
          refine ag_aload_n dd_M_hour_155 rfl ?_
          refine ag_iload_n dd_M_hour_156 rfl ?_
          refine ag_rV dd_M_hour_157 fi_M_199 (mr_38 hM) rfl (mc_M_left (d := 0) (by omega) hM iS (by omega)) rfl rfl (by omega) (Nat.le_of_ble_eq_true rfl) ?_
          refine ag_if_ne (tgt := 173) dd_M_hour_160 (by decide) (by omega) (fun c4 => ?_) (fun c4 => ?_)
          · refine ag_iincN (Lf := fun y => [some (av_r 38), none, some (av_i (y))]) dd_M_hour_173 rfl (fun _ => rfl) rfl (by decide) (fun y5 ey5 => ?_)
            refine ag_goto (tgt := 92) dd_M_hour_176 (by decide) ?_
            have eN : Sk = sp_it sp_el S (k + 1) := by
              rw [sp_it, eSk]
              unfold sp_el
              first
                | rw [if_pos (by omega)]
                | (rw [if_neg (by omega)]; (first | rw [eL] | skip); unfold sp_ov; first | (rw [if_neg (by omega)]) | (rw [if_pos (by omega)]; subst_vars; rfl))
            rw [eN] at hM
            obtain rfl : y5 = ((k + 1 : Nat) : Int) := by omega
            exact ih (k + 1) h (by omega) hM
          · refine ag_aload_n dd_M_hour_163 rfl ?_
            refine ag_get dd_M_hour_164 fg_M_94 (mr_38 hM) rfl ?_
            refine ag_iload_n dd_M_hour_167 rfl ?_
            refine ag_aload_n dd_M_hour_168 rfl ?_
            refine ag_get dd_M_hour_169 fg_M_159 (mr_38 hM) rfl ?_
            refine ms_62N dd_M_hour_172 hM (by omega) (fun h S6 eS6 hM => ?_)
            refine ag_iincN (Lf := fun y => [some (av_r 38), none, some (av_i (y))]) dd_M_hour_173 rfl (fun _ => rfl) rfl (by decide) (fun y7 ey7 => ?_)
            refine ag_goto (tgt := 92) dd_M_hour_176 (by decide) ?_
            have eN : S6 = sp_it sp_el S (k + 1) := by
              rw [sp_it, eSk]
              unfold sp_el
              first
                | rw [if_pos (by omega)]
                | (rw [if_neg (by omega)]; (first | rw [eL] | skip); unfold sp_ov; first | (rw [if_neg (by omega)]) | (rw [if_pos (by omega)]; subst_vars; rfl))
            rw [eN] at hM
            obtain rfl : y7 = ((k + 1 : Nat) : Int) := by omega
            exact ih (k + 1) h (by omega) hM
        · refine ag_aload_n dd_M_hour_127 rfl ?_
          refine ag_dup dd_M_hour_128 rfl ?_
          refine ag_get dd_M_hour_129 fg_M_226 (mr_38 hM) rfl ?_
          refine ag_aload_n dd_M_hour_132 rfl ?_
          refine ag_iload_n dd_M_hour_133 rfl ?_
          refine ag_rV dd_M_hour_134 fi_M_199 (mr_38 hM) rfl (mc_M_left (d := 0) (by omega) hM iS (by omega)) rfl rfl (by omega) (Nat.le_of_ble_eq_true rfl) ?_
          refine ag_iadd dd_M_hour_137 ?_
          refine mp_37 dd_M_hour_138 fp_M_226 hM (fun h S8 eS8 hM => ?_)
          refine ag_aload_n dd_M_hour_141 rfl ?_
          refine ag_get dd_M_hour_142 fg_M_91 (mr_38 hM) rfl ?_
          refine ag_iload_n dd_M_hour_145 rfl ?_
          refine ag_dup2 dd_M_hour_146 rfl rfl ?_
          refine ag_ialdN dd_M_hour_147 (mr_61 hM) (by decide) (by omega) ?_
          refine ag_aload_n dd_M_hour_148 rfl ?_
          refine ag_iload_n dd_M_hour_149 rfl ?_
          have elr : sp_left S8 k = sp_left Sk k := by rw [eS8]; rfl
          have iS2 : iv_SL S8 k := by rw [eS8]; exact iv_SL.of iS (by omega)
          refine ag_rV dd_M_hour_150 fi_M_199 (mr_38 hM) rfl (mc_M_left2 (d := 0) (by omega) hM iS2) rfl rfl (by omega) (Nat.le_of_ble_eq_true rfl) ?_
          refine ag_iadd dd_M_hour_153 ?_
          refine ms_61N dd_M_hour_154 hM (by omega) (fun h S9 eS9 hM => ?_)
          have iL := iv_los iS (l := k) (by omega) (by omega)
          obtain rfl : S9 = sp_los Sk k := by
            unfold sp_los
            rw [if_pos (by omega)]
            rw [eS9, elr]
            subst_vars
            rfl
          have g3 : (sp_los Sk k).1 3 = Sk.1 3 := by unfold sp_los; split <;> rfl
          have hlb2 := sp_left_b iL (l := k) (by omega)
          refine ag_aload_n dd_M_hour_155 rfl ?_
          refine ag_iload_n dd_M_hour_156 rfl ?_
          refine ag_rV dd_M_hour_157 fi_M_199 (mr_38 hM) rfl (mc_M_left (d := 0) (by omega) hM iL (by omega)) rfl rfl (by omega) (Nat.le_of_ble_eq_true rfl) ?_
          refine ag_if_ne (tgt := 173) dd_M_hour_160 (by decide) (by omega) (fun c10 => ?_) (fun c10 => ?_)
          · refine ag_iincN (Lf := fun y => [some (av_r 38), none, some (av_i (y))]) dd_M_hour_173 rfl (fun _ => rfl) rfl (by decide) (fun y11 ey11 => ?_)
            refine ag_goto (tgt := 92) dd_M_hour_176 (by decide) ?_
            have eN : (sp_los Sk k) = sp_it sp_el S (k + 1) := by
              rw [sp_it, eSk]
              unfold sp_el
              first
                | rw [if_pos (by omega)]
                | (rw [if_neg (by omega)]; (first | rw [eL] | skip); unfold sp_ov; first | (rw [if_neg (by omega)]) | (rw [if_pos (by omega)]; subst_vars; rfl))
            rw [eN] at hM
            obtain rfl : y11 = ((k + 1 : Nat) : Int) := by omega
            exact ih (k + 1) h (by omega) hM
          · refine ag_aload_n dd_M_hour_163 rfl ?_
            refine ag_get dd_M_hour_164 fg_M_94 (mr_38 hM) rfl ?_
            refine ag_iload_n dd_M_hour_167 rfl ?_
            refine ag_aload_n dd_M_hour_168 rfl ?_
            refine ag_get dd_M_hour_169 fg_M_159 (mr_38 hM) rfl ?_
            refine ms_62N dd_M_hour_172 hM (by omega) (fun h S12 eS12 hM => ?_)
            refine ag_iincN (Lf := fun y => [some (av_r 38), none, some (av_i (y))]) dd_M_hour_173 rfl (fun _ => rfl) rfl (by decide) (fun y13 ey13 => ?_)
            refine ag_goto (tgt := 92) dd_M_hour_176 (by decide) ?_
            have eN : S12 = sp_it sp_el S (k + 1) := by
              rw [sp_it, eSk]
              unfold sp_el
              first
                | rw [if_pos (by omega)]
                | (rw [if_neg (by omega)]; (first | rw [eL] | skip); unfold sp_ov; first | (rw [if_neg (by omega)]) | (rw [if_pos (by omega)]; subst_vars; rfl))
            rw [eN] at hM
            obtain rfl : y13 = ((k + 1 : Nat) : Int) := by omega
            exact ih (k + 1) h (by omega) hM
      · refine ag_goto (tgt := 173) dd_M_hour_109 (by decide) ?_
        refine ag_iincN (Lf := fun y => [some (av_r 38), none, some (av_i (y))]) dd_M_hour_173 rfl (fun _ => rfl) rfl (by decide) (fun y14 ey14 => ?_)
        refine ag_goto (tgt := 92) dd_M_hour_176 (by decide) ?_
        have eN : Sk = sp_it sp_el S (k + 1) := by
          rw [sp_it, eSk]
          unfold sp_el
          first
            | rw [if_pos (by omega)]
            | (rw [if_neg (by omega)]; (first | rw [eL] | skip); unfold sp_ov; first | (rw [if_neg (by omega)]) | (rw [if_pos (by omega)]; subst_vars; rfl))
        rw [eN] at hM
        obtain rfl : y14 = ((k + 1 : Nat) : Int) := by omega
        exact ih (k + 1) h (by omega) hM
set_option maxHeartbeats 1000000 in
theorem ml_M_hour3 {w : aw_T} {h0 : ah_T} {d : Nat} {P : ap_T} (hd : 4 ≤ d) {S : ms_T} (hI : iv_S S) (hW : iv_W S) {h : ah_T} (hM : mo_I h0 h S) (hX : ∀ h, mo_I h0 h (sp_h3 S) → aw_W w mm_M_hour d P 92 [some (av_r 38), none, some (av_i (0))] [] h 0 0) : aw_W w mm_M_hour d P 74 [some (av_r 38), none, none] [] h 0 0 := by
  have a0 := hI.1.1
  have a8 := hI.1.2.2.2.2.2.2.2.2
  refine ag_aload_n dd_M_hour_74 rfl ?_
  refine ag_iconst dd_M_hour_75 ?_
  refine ag_aload_n dd_M_hour_76 rfl ?_
  refine ag_get dd_M_hour_77 fg_M_159 (mr_38 hM) rfl ?_
  refine ag_rV dd_M_hour_80 fi_M_212 (mr_38 hM) rfl (mc_M_isHindered (d := 0) (by omega) hM a8 hW (by omega) (by omega)) rfl rfl (by omega) (Nat.le_of_ble_eq_true rfl) ?_
  refine ag_if_neB (tgt := 90) dd_M_hour_83 (by decide) (fun c1 => ?_) (fun c1 => ?_)
  · refine ag_iconst dd_M_hour_90 ?_
    refine ag_istore_n (L' := [some (av_r 38), none, some (av_i (0))]) dd_M_hour_91 rfl rfl (by decide) ?_
    have e3 : sp_h3 S = S := by unfold sp_h3; first | rw [if_pos (by assumption)] | rw [if_neg (by assumption)]
    have hk0 : ((0 : Nat) : Int) = 0 := rfl
    exact ag_weak [some (av_r 38), none, some (av_i (0))] (by simp [al_le]) (hX h (by rw [e3]; exact hM))
  · refine ag_aload_n dd_M_hour_86 rfl ?_
    refine ag_wV dd_M_hour_87 fi_M_223 (mr_38 hM) rfl (mc_M_mill (d := 2) (by omega) hM hI) rfl rfl (by omega) (Nat.le_of_ble_eq_true rfl) (fun r h hP2 => ?_)
    obtain ⟨rfl, hM⟩ := hP2
    replace hM : mo_I h0 h (sp_mill S) := hM
    refine ag_iconst dd_M_hour_90 ?_
    refine ag_istore_n (L' := [some (av_r 38), none, some (av_i (0))]) dd_M_hour_91 rfl rfl (by decide) ?_
    have e3 : sp_h3 S = (sp_mill S) := by unfold sp_h3; first | rw [if_pos (by assumption)] | rw [if_neg (by assumption)]
    have hk0 : ((0 : Nat) : Int) = 0 := rfl
    exact ag_weak [some (av_r 38), none, some (av_i (0))] (by simp [al_le]) (hX h (by rw [e3]; exact hM))
set_option maxHeartbeats 1000000 in
theorem ml_M_hour2 {w : aw_T} {h0 : ah_T} {d : Nat} {P : ap_T} (hd : 4 ≤ d) {S : ms_T} (hI : iv_S S)  (hX : ∀ h, mo_I h0 h (sp_it sp_send S (S.1 3).toNat) → aw_W w mm_M_hour d P 74 [some (av_r 38), none, none] [] h 0 0) : ∀ (r k : Nat) (h : ah_T), (k : Int) + r = S.1 3 → mo_I h0 h (sp_it sp_send S k) → aw_W w mm_M_hour d P 55 [some (av_r 38), none, some (av_i ((k : Int)))] [] h 0 0 := by
  intro r
  induction r with
  | zero =>
    intro k h hk hM
    have iS := iv_itsend hI k (by omega)
    have f3 : (sp_it sp_send S k).1 3 = S.1 3 := by rw [itsend_3]
    have a3 := hI.1.2.2.2.1
    refine ag_iload_n dd_M_hour_55 rfl ?_
    refine ag_aload_n dd_M_hour_56 rfl ?_
    refine ag_get dd_M_hour_57 fg_M_191 (mr_38 hM) rfl ?_
    refine ag_icmp_ge (tgt := 74) dd_M_hour_60 (by decide) (by omega) (by omega) (fun c1 => ?_) (fun c1 => ?_)
    · obtain rfl : k = (S.1 3).toNat := by omega
      exact ag_weak [some (av_r 38), none, none] (by simp [al_le]) (hX h hM)
    · exfalso; omega
  | succ r ih =>
    intro k h hk hM
    have iS := iv_itsend hI k (by omega)
    have f3 : (sp_it sp_send S k).1 3 = S.1 3 := by rw [itsend_3]
    have a3 := hI.1.2.2.2.1
    refine ag_iload_n dd_M_hour_55 rfl ?_
    refine ag_aload_n dd_M_hour_56 rfl ?_
    refine ag_get dd_M_hour_57 fg_M_191 (mr_38 hM) rfl ?_
    refine ag_icmp_ge (tgt := 74) dd_M_hour_60 (by decide) (by omega) (by omega) (fun c1 => ?_) (fun c1 => ?_)
    · exfalso; omega
    · refine ag_aload_n dd_M_hour_63 rfl ?_
      refine ag_iload_n dd_M_hour_64 rfl ?_
      refine ag_wV dd_M_hour_65 fi_M_220 (mr_38 hM) rfl (mc_M_send (d := 1) (by omega) hM iS (by omega)) rfl rfl (by omega) (Nat.le_of_ble_eq_true rfl) (fun r h hP2 => ?_)
      obtain ⟨rfl, hM⟩ := hP2
      replace hM : mo_I h0 h (sp_it sp_send S (k + 1)) := hM
      refine ag_iincN (Lf := fun y => [some (av_r 38), none, some (av_i (y))]) dd_M_hour_68 rfl (fun _ => rfl) rfl (by decide) (fun y2 ey2 => ?_)
      refine ag_goto (tgt := 55) dd_M_hour_71 (by decide) ?_
      obtain rfl : y2 = ((k + 1 : Nat) : Int) := by omega
      exact ih (k + 1) h (by omega) hM
set_option maxHeartbeats 1000000 in
theorem ml_M_hour1 {w : aw_T} {h0 : ah_T} {d : Nat} {P : ap_T} (hd : 4 ≤ d) {S : ms_T} (hI : iv_S S) (hc : S.1 0 ≤ 3999) (hX : ∀ h, mo_I h0 h (sp_it sp_cs S (S.1 2).toNat) → aw_W w mm_M_hour d P 53 [some (av_r 38), none, none] [] h 0 0) : ∀ (r k : Nat) (h : ah_T), (k : Int) + r = S.1 2 → mo_I h0 h (sp_it sp_cs S k) → aw_W w mm_M_hour d P 20 [some (av_r 38), some (av_i (1)), some (av_i ((k : Int)))] [] h 0 0 := by
  intro r
  induction r with
  | zero =>
    intro k h hk hM
    have kk := kp_it kp_cs S k
    have iS := iv_itcs hI hc k (by omega)
    have f2 := kk.1 2 (by decide) (by decide) (by decide) (by decide)
    have f0 := kk.1 0 (by decide) (by decide) (by decide) (by decide)
    have a2 := hI.1.2.2.1
    have a0 := hI.1.1
    refine ag_iload_n dd_M_hour_20 rfl ?_
    refine ag_aload_n dd_M_hour_21 rfl ?_
    refine ag_get dd_M_hour_22 fg_M_152 (mr_38 hM) rfl ?_
    refine ag_icmp_ge (tgt := 53) dd_M_hour_25 (by decide) (by omega) (by omega) (fun c1 => ?_) (fun c1 => ?_)
    · obtain rfl : k = (S.1 2).toNat := by omega
      exact ag_weak [some (av_r 38), none, none] (by simp [al_le]) (hX h hM)
    · exfalso; omega
  | succ r ih =>
    intro k h hk hM
    have kk := kp_it kp_cs S k
    have iS := iv_itcs hI hc k (by omega)
    have f2 := kk.1 2 (by decide) (by decide) (by decide) (by decide)
    have f0 := kk.1 0 (by decide) (by decide) (by decide) (by decide)
    have a2 := hI.1.2.2.1
    have a0 := hI.1.1
    refine ag_iload_n dd_M_hour_20 rfl ?_
    refine ag_aload_n dd_M_hour_21 rfl ?_
    refine ag_get dd_M_hour_22 fg_M_152 (mr_38 hM) rfl ?_
    refine ag_icmp_ge (tgt := 53) dd_M_hour_25 (by decide) (by omega) (by omega) (fun c1 => ?_) (fun c1 => ?_)
    · exfalso; omega
    · refine ag_iload_n dd_M_hour_28 rfl ?_
      refine ag_if_eq (tgt := 53) dd_M_hour_29 (by decide) (by omega) (fun c2 => ?_) (fun c2 => ?_)
      · exfalso; omega
      · generalize eSk : sp_it sp_cs S k = Sk at *
        obtain ⟨b40, b41, b42, b43, b44, b45, b46, b47, b48, b49, b50, b51⟩ := (iS.2.1 k (by omega)).1
        refine ag_aload_n dd_M_hour_32 rfl ?_
        refine ag_get dd_M_hour_33 fg_M_45 (mr_38 hM) rfl ?_
        refine ag_iload_n dd_M_hour_36 rfl ?_
        refine ag_ialdN dd_M_hour_37 (mr_46 hM) (by decide) (by omega) ?_
        refine ag_iconst dd_M_hour_38 ?_
        refine ag_icmp_ne (tgt := 47) dd_M_hour_39 (by decide) (by omega) (by omega) (fun c3 => ?_) (fun c3 => ?_)
        · refine ag_iincN (Lf := fun y => [some (av_r 38), some (av_i (1)), some (av_i (y))]) dd_M_hour_47 rfl (fun _ => rfl) rfl (by decide) (fun y4 ey4 => ?_)
          refine ag_goto (tgt := 20) dd_M_hour_50 (by decide) ?_
          have eN : Sk = sp_it sp_cs S (k + 1) := by
            rw [sp_it, eSk]
            unfold sp_cs
            first | rw [if_neg (by omega)] | rw [if_pos (by omega)]
          rw [eN] at hM
          obtain rfl : y4 = ((k + 1 : Nat) : Int) := by omega
          exact ih (k + 1) h (by omega) hM
        · refine ag_aload_n dd_M_hour_42 rfl ?_
          refine ag_iload_n dd_M_hour_43 rfl ?_
          refine ag_wV dd_M_hour_44 fi_M_216 (mr_38 hM) rfl (mc_M_cutOn (d := 1) (by omega) hM iS (by omega) (by omega) (by omega)) rfl rfl (by omega) (Nat.le_of_ble_eq_true rfl) (fun r h hP2 => ?_)
          obtain ⟨rfl, hM⟩ := hP2
          replace hM : mo_I h0 h (sp_co Sk k) := hM
          refine ag_iincN (Lf := fun y => [some (av_r 38), some (av_i (1)), some (av_i (y))]) dd_M_hour_47 rfl (fun _ => rfl) rfl (by decide) (fun y5 ey5 => ?_)
          refine ag_goto (tgt := 20) dd_M_hour_50 (by decide) ?_
          have eN : (sp_co Sk k) = sp_it sp_cs S (k + 1) := by
            rw [sp_it, eSk]
            unfold sp_cs
            first | rw [if_neg (by omega)] | rw [if_pos (by omega)]
          rw [eN] at hM
          obtain rfl : y5 = ((k + 1 : Nat) : Int) := by omega
          exact ih (k + 1) h (by omega) hM
theorem iv_h1 {S : ms_T} (hI : iv_S S) (hc : S.1 0 ≤ 3999) : iv_S (sp_h1 S) := by
  unfold sp_h1
  have a2 := hI.1.2.2.1
  split
  · exact hI
  · exact iv_itcs hI hc _ (by omega)
theorem kp_h1 (S : ms_T) : ms_kp S (sp_h1 S) := by
  unfold sp_h1
  split
  · exact ms_kp.rf S
  · exact kp_it kp_cs S _
theorem iv_h2 {S : ms_T} (hI : iv_S S) : iv_S (sp_h2 S) := by
  have a3 := hI.1.2.2.2.1
  exact iv_itsend hI _ (by omega)
theorem iv_h3 {S : ms_T} (hI : iv_S S) : iv_S (sp_h3 S) := by
  unfold sp_h3
  split
  · exact hI
  · exact iv_mlN 16 S _ hI
theorem kp_h3 (S : ms_T) : ms_kp S (sp_h3 S) := by
  unfold sp_h3
  split
  · exact ms_kp.rf S
  · exact kp_mlN 16 S _
theorem iv_h4 {S : ms_T} (hI : iv_S S) : iv_S (sp_h4 S) := by
  have a3 := hI.1.2.2.2.1
  exact iv_itel hI _ (by omega)
theorem iv_h5 {S : ms_T} (hI : iv_S S) : iv_S (sp_h5 S) := by
  have a2 := hI.1.2.2.1
  exact iv_itfr hI _ (by omega)
/-- before the hour's end: all but the clock -/
def sp_hh (S : ms_T) : ms_T := sp_h6 (sp_h5 (sp_h4 (sp_h3 (sp_h2 (sp_h1 S)))))
theorem kp_hh5 (S : ms_T) : ms_kp S (sp_h5 (sp_h4 (sp_h3 (sp_h2 (sp_h1 S))))) := ((((kp_h1 S).tr (kp_it kp_send _ _)).tr (kp_h3 _)).tr (kp_it kp_el _ _)).tr (kp_it kp_fr _ _)
theorem kp_hh (S : ms_T) : ms_kp S (sp_hh S) := (kp_hh5 S).tr (kp_h6 _)
theorem iv_hh5 {S : ms_T} (hI : iv_S S) (hc : S.1 0 ≤ 3999) : iv_S (sp_h5 (sp_h4 (sp_h3 (sp_h2 (sp_h1 S))))) := iv_h5 (iv_h4 (iv_h3 (iv_h2 (iv_h1 hI hc))))
theorem iv_hh {S : ms_T} (hI : iv_S S) (hT : iv_T S) (hc : S.1 0 ≤ 3999) : iv_S (sp_hh S) := iv_h6 (iv_hh5 hI hc) (hT.kp (kp_hh5 S))
theorem iv_h7 {S : ms_T} (hI : iv_S S) (hc : S.1 0 ≤ 3999) : iv_S (sp_h7 S) := by
  obtain ⟨⟨a0, a1, a2, a3, a4, a5, a6, a7, a8⟩, hF, hN, hL, hN2, hA, hB, hT⟩ := hI
  exact ⟨⟨by show 0 ≤ S.1 0 + 1 ∧ S.1 0 + 1 ≤ 4000; omega, a1, a2, a3, a4, a5, a6, a7, a8⟩, hF, hN, hL, hN2, hA, hB, hT⟩
theorem iv_hour {S : ms_T} (hI : iv_S S) (hT : iv_T S) (hW : iv_W S) (hc : S.1 0 ≤ 3999) : iv_S (sp_hour S) ∧ iv_T (sp_hour S) ∧ iv_W (sp_hour S) ∧ (sp_hour S).1 0 = S.1 0 + 1 := by
  have k := kp_hh S
  have f0 := k.1 0 (by decide) (by decide) (by decide) (by decide)
  have e : sp_hour S = sp_h7 (sp_hh S) := rfl
  rw [e]
  have t1 : iv_T (sp_hh S) := hT.kp k
  have t2 : iv_W (sp_hh S) := hW.kp k
  refine ⟨iv_h7 (iv_hh hI hT hc) (by omega), t1, t2, ?_⟩
  show (sp_hh S).1 0 + 1 = _
  rw [f0]
set_option maxHeartbeats 1000000 in
theorem mc_M_hour {w : aw_T} {h0 h : ah_T} {S : ms_T} {d : Nat} (hd : 4 ≤ d) (hM : mo_I h0 h S) (hI : iv_S S) (hT : iv_T S) (hW : iv_W S) (hc : S.1 0 ≤ 3999) : am_M w mm_M_hour d [av_r 38] h 0 0 (mo_P h0 (none, sp_hour S)) := by
  refine am_intro [some (av_r 38), none, none] (by decide +kernel) (Nat.le_of_ble_eq_true rfl) rfl ?_
  have a0 := hI.1.1
  have a2 := hI.1.2.2.1
  have a8 := hI.1.2.2.2.2.2.2.2.2
  refine ag_aload_n dd_M_hour_0 rfl ?_
  refine ag_iconst dd_M_hour_1 ?_
  refine ag_aload_n dd_M_hour_2 rfl ?_
  refine ag_get dd_M_hour_3 fg_M_159 (mr_38 hM) rfl ?_
  refine ag_rV dd_M_hour_6 fi_M_212 (mr_38 hM) rfl (mc_M_isHindered (d := 0) (by omega) hM a8 hW (by omega) (by omega)) rfl rfl (by omega) (Nat.le_of_ble_eq_true rfl) ?_
  refine ag_if_neB (tgt := 16) dd_M_hour_9 (by decide) (fun c1 => ?_) (fun c1 => ?_)
  · refine ag_iconst dd_M_hour_16 ?_
    refine ag_istore_n (L' := [some (av_r 38), some (av_i (0)), none]) dd_M_hour_17 rfl rfl (by decide) ?_
    refine ag_iconst dd_M_hour_18 ?_
    refine ag_istore_n (L' := [some (av_r 38), some (av_i (0)), some (av_i (0))]) dd_M_hour_19 rfl rfl (by decide) ?_
    refine ag_iload_n dd_M_hour_20 rfl ?_
    refine ag_aload_n dd_M_hour_21 rfl ?_
    refine ag_get dd_M_hour_22 fg_M_152 (mr_38 hM) rfl ?_
    refine ag_icmp_ge (tgt := 53) dd_M_hour_25 (by decide) (by omega) (by omega) (fun c1 => ?_) (fun c1 => ?_)
    · refine ag_weak [some (av_r 38), none, none] (by simp [al_le]) ?_
      refine ag_iconst dd_M_hour_53 ?_
      refine ag_istore_n (L' := [some (av_r 38), none, some (av_i (0))]) dd_M_hour_54 rfl rfl (by decide) ?_
      have i1 := iv_h1 hI hc
      have k1 := kp_h1 S
      have k2 : ms_kp (sp_h1 S) (sp_h2 (sp_h1 S)) := kp_it kp_send _ _
      have i2 := iv_h2 i1
      have i3 := iv_h3 i2
      have i4 := iv_h4 i3
      replace hM : mo_I h0 h (sp_h1 S) := by
        unfold sp_h1
        first | (rw [if_pos (by assumption)]; exact hM) | (rw [if_neg (by assumption)]; exact hM)
      refine ag_weak [some (av_r 38), none, some (av_i (((0 : Nat) : Int)))] (by simp [al_le]) ?_
      refine ml_M_hour2 hd (S := sp_h1 S) i1 (fun h hM => ?_) ((sp_h1 S).1 3).toNat 0 h (by have := i1.1.2.2.2.1; omega) hM
      refine ml_M_hour3 hd (S := sp_h2 (sp_h1 S)) i2 (hW.kp (k1.tr k2)) hM (fun h hM => ?_)
      refine ml_M_hour4 hd (S := sp_h3 (sp_h2 (sp_h1 S))) i3 (fun h hM => ?_) ((sp_h3 (sp_h2 (sp_h1 S))).1 3).toNat 0 h (by have := i3.1.2.2.2.1; omega) hM
      refine ag_iconst dd_M_hour_179 ?_
      refine ag_istore_n (L' := [some (av_r 38), none, some (av_i (0))]) dd_M_hour_180 rfl rfl (by decide) ?_
      refine ml_M_hour5 hd (S := sp_h4 (sp_h3 (sp_h2 (sp_h1 S)))) i4 (fun h hM => ?_) ((sp_h4 (sp_h3 (sp_h2 (sp_h1 S)))).1 2).toNat 0 h (by have := i4.1.2.2.1; omega) hM
      exact ml_M_hour6 hd (S := sp_h5 (sp_h4 (sp_h3 (sp_h2 (sp_h1 S))))) (iv_hh5 hI hc) (hT.kp (kp_hh5 S)) hM (fun h hM => ⟨rfl, hM⟩)
    · refine ag_iload_n dd_M_hour_28 rfl ?_
      refine ag_if_eq (tgt := 53) dd_M_hour_29 (by decide) (by omega) (fun c2 => ?_) (fun c2 => ?_)
      · refine ag_weak [some (av_r 38), none, none] (by simp [al_le]) ?_
        refine ag_iconst dd_M_hour_53 ?_
        refine ag_istore_n (L' := [some (av_r 38), none, some (av_i (0))]) dd_M_hour_54 rfl rfl (by decide) ?_
        have i1 := iv_h1 hI hc
        have k1 := kp_h1 S
        have k2 : ms_kp (sp_h1 S) (sp_h2 (sp_h1 S)) := kp_it kp_send _ _
        have i2 := iv_h2 i1
        have i3 := iv_h3 i2
        have i4 := iv_h4 i3
        replace hM : mo_I h0 h (sp_h1 S) := by
          unfold sp_h1
          first | (rw [if_pos (by assumption)]; exact hM) | (rw [if_neg (by assumption)]; exact hM)
        refine ag_weak [some (av_r 38), none, some (av_i (((0 : Nat) : Int)))] (by simp [al_le]) ?_
        refine ml_M_hour2 hd (S := sp_h1 S) i1 (fun h hM => ?_) ((sp_h1 S).1 3).toNat 0 h (by have := i1.1.2.2.2.1; omega) hM
        refine ml_M_hour3 hd (S := sp_h2 (sp_h1 S)) i2 (hW.kp (k1.tr k2)) hM (fun h hM => ?_)
        refine ml_M_hour4 hd (S := sp_h3 (sp_h2 (sp_h1 S))) i3 (fun h hM => ?_) ((sp_h3 (sp_h2 (sp_h1 S))).1 3).toNat 0 h (by have := i3.1.2.2.2.1; omega) hM
        refine ag_iconst dd_M_hour_179 ?_
        refine ag_istore_n (L' := [some (av_r 38), none, some (av_i (0))]) dd_M_hour_180 rfl rfl (by decide) ?_
        refine ml_M_hour5 hd (S := sp_h4 (sp_h3 (sp_h2 (sp_h1 S)))) i4 (fun h hM => ?_) ((sp_h4 (sp_h3 (sp_h2 (sp_h1 S)))).1 2).toNat 0 h (by have := i4.1.2.2.1; omega) hM
        exact ml_M_hour6 hd (S := sp_h5 (sp_h4 (sp_h3 (sp_h2 (sp_h1 S))))) (iv_hh5 hI hc) (hT.kp (kp_hh5 S)) hM (fun h hM => ⟨rfl, hM⟩)
      · exfalso; omega
  · refine ag_iconst dd_M_hour_12 ?_
    refine ag_goto (tgt := 17) dd_M_hour_13 (by decide) ?_
    refine ag_istore_n (L' := [some (av_r 38), some (av_i (1)), none]) dd_M_hour_17 rfl rfl (by decide) ?_
    refine ag_iconst dd_M_hour_18 ?_
    refine ag_istore_n (L' := [some (av_r 38), some (av_i (1)), some (av_i (0))]) dd_M_hour_19 rfl rfl (by decide) ?_
    refine ml_M_hour1 hd hI hc (fun h hM => ?_) (S.1 2).toNat 0 h (by omega) hM
    refine ag_iconst dd_M_hour_53 ?_
    refine ag_istore_n (L' := [some (av_r 38), none, some (av_i (0))]) dd_M_hour_54 rfl rfl (by decide) ?_
    have i1 := iv_h1 hI hc
    have k1 := kp_h1 S
    have k2 : ms_kp (sp_h1 S) (sp_h2 (sp_h1 S)) := kp_it kp_send _ _
    have i2 := iv_h2 i1
    have i3 := iv_h3 i2
    have i4 := iv_h4 i3
    replace hM : mo_I h0 h (sp_h1 S) := by
      unfold sp_h1
      first | (rw [if_pos (by assumption)]; exact hM) | (rw [if_neg (by assumption)]; exact hM)
    refine ag_weak [some (av_r 38), none, some (av_i (((0 : Nat) : Int)))] (by simp [al_le]) ?_
    refine ml_M_hour2 hd (S := sp_h1 S) i1 (fun h hM => ?_) ((sp_h1 S).1 3).toNat 0 h (by have := i1.1.2.2.2.1; omega) hM
    refine ml_M_hour3 hd (S := sp_h2 (sp_h1 S)) i2 (hW.kp (k1.tr k2)) hM (fun h hM => ?_)
    refine ml_M_hour4 hd (S := sp_h3 (sp_h2 (sp_h1 S))) i3 (fun h hM => ?_) ((sp_h3 (sp_h2 (sp_h1 S))).1 3).toNat 0 h (by have := i3.1.2.2.2.1; omega) hM
    refine ag_iconst dd_M_hour_179 ?_
    refine ag_istore_n (L' := [some (av_r 38), none, some (av_i (0))]) dd_M_hour_180 rfl rfl (by decide) ?_
    refine ml_M_hour5 hd (S := sp_h4 (sp_h3 (sp_h2 (sp_h1 S)))) i4 (fun h hM => ?_) ((sp_h4 (sp_h3 (sp_h2 (sp_h1 S)))).1 2).toNat 0 h (by have := i4.1.2.2.1; omega) hM
    exact ml_M_hour6 hd (S := sp_h5 (sp_h4 (sp_h3 (sp_h2 (sp_h1 S))))) (iv_hh5 hI hc) (hT.kp (kp_hh5 S)) hM (fun h hM => ⟨rfl, hM⟩)
def sp_hrN (S : ms_T) : Nat → ms_T
  | 0 => S
  | n + 1 => sp_hour (sp_hrN S n)
def sp_hours (S : ms_T) (n : Int) : Option av_T × ms_T := if (1 ≤ n ∧ n ≤ 100) ∧ S.1 0 + n ≤ 4000 then (some (av_i (S.1 0 + n)), sp_hrN S n.toNat) else (some (av_i (-1)), S)
theorem iv_hrN {S : ms_T} (hI : iv_S S) (hT : iv_T S) (hW : iv_W S) : ∀ n : Nat, S.1 0 + n ≤ 4000 → iv_S (sp_hrN S n) ∧ iv_T (sp_hrN S n) ∧ iv_W (sp_hrN S n) ∧ (sp_hrN S n).1 0 = S.1 0 + n
  | 0, _ => ⟨hI, hT, hW, by rw [sp_hrN]; omega⟩
  | n + 1, hn => by
    obtain ⟨i1, i2, i3, i4⟩ := iv_hrN hI hT hW n (by omega)
    obtain ⟨j1, j2, j3, j4⟩ := iv_hour i1 i2 i3 (by omega)
    exact ⟨j1, j2, j3, by rw [sp_hrN, j4, i4]; omega⟩
set_option maxHeartbeats 1000000 in
theorem ml_M_hours {w : aw_T} {h0 : ah_T} {S : ms_T} {d : Nat} (hd : 5 ≤ d) (hI : iv_S S) (hT : iv_T S) (hW : iv_W S) {n : Int} (hn : (1 ≤ n ∧ n ≤ 100) ∧ S.1 0 + n ≤ 4000) {P : ap_T} (hP : ∀ h, mo_I h0 h (sp_hrN S n.toNat) → P (some (av_i (S.1 0 + n))) h) : ∀ (r k : Nat) (h : ah_T), (k : Int) + r = n → mo_I h0 h (sp_hrN S k) → aw_W w mm_M_hours d P 26 [some (av_r 38), some (av_i (n)), some (av_i ((k : Int)))] [] h 0 0 := by
  intro r
  induction r with
  | zero =>
    intro k h hk hM
    obtain ⟨i1, i2, i3, i4⟩ := iv_hrN hI hT hW k (by omega)
    have a0 := hI.1.1
    refine ag_iload_n dd_M_hours_26 rfl ?_
    refine ag_iload_n dd_M_hours_27 rfl ?_
    refine ag_icmp_ge (tgt := 41) dd_M_hours_28 (by decide) (by omega) (by omega) (fun c1 => ?_) (fun c1 => ?_)
    · refine ag_aload_n dd_M_hours_41 rfl ?_
      refine ag_get dd_M_hours_42 fg_M_159 (mr_38 hM) rfl ?_
      refine ag_iret dd_M_hours_45 rfl ?_
      obtain rfl : k = n.toNat := by omega
      rw [i4, show S.1 0 + ((n.toNat : Nat) : Int) = S.1 0 + n by omega]
      exact hP h hM
    · exfalso; omega
  | succ r ih =>
    intro k h hk hM
    obtain ⟨i1, i2, i3, i4⟩ := iv_hrN hI hT hW k (by omega)
    have a0 := hI.1.1
    refine ag_iload_n dd_M_hours_26 rfl ?_
    refine ag_iload_n dd_M_hours_27 rfl ?_
    refine ag_icmp_ge (tgt := 41) dd_M_hours_28 (by decide) (by omega) (by omega) (fun c1 => ?_) (fun c1 => ?_)
    · exfalso; omega
    · refine ag_aload_n dd_M_hours_31 rfl ?_
      refine ag_wV dd_M_hours_32 fi_M_232 (mr_38 hM) rfl (mc_M_hour (d := 4) (by omega) hM i1 i2 i3 (by omega)) rfl rfl (by omega) (Nat.le_of_ble_eq_true rfl) (fun r h hP2 => ?_)
      obtain ⟨rfl, hM⟩ := hP2
      replace hM : mo_I h0 h (sp_hrN S (k + 1)) := hM
      refine ag_iincN (Lf := fun y => [some (av_r 38), some (av_i (n)), some (av_i (y))]) dd_M_hours_35 rfl (fun _ => rfl) rfl (by decide) (fun y2 ey2 => ?_)
      refine ag_goto (tgt := 26) dd_M_hours_38 (by decide) ?_
      obtain rfl : y2 = ((k + 1 : Nat) : Int) := by omega
      exact ih (k + 1) h (by omega) hM
set_option maxHeartbeats 1000000 in
theorem mc_M_hours {w : aw_T} {h0 h : ah_T} {S : ms_T} {d : Nat} (hd : 5 ≤ d) (hM : mo_I h0 h S) {n : Int} (hn : -2147483648 ≤ n ∧ n < 2147483648) (hI : iv_S S) (hT : iv_T S) (hW : iv_W S) : am_M w mm_M_hours d [av_r 38, av_i n] h 0 0 (mo_P h0 (sp_hours S n)) := by
  refine am_intro [some (av_r 38), some (av_i (n)), none] (by decide +kernel) (Nat.le_of_ble_eq_true rfl) rfl ?_
  have a0 := hI.1.1
  refine ag_iload_n dd_M_hours_0 rfl ?_
  refine ag_iconst dd_M_hours_1 ?_
  refine ag_bipush dd_M_hours_2 (by decide +kernel) ?_
  refine ag_rS dd_M_hours_4 fi_M_155 (mc_M_isIn (d := 0) (by omega) (by omega) (by omega)) rfl rfl (by omega) (Nat.le_of_ble_eq_true rfl) ?_
  refine ag_if_eqB (tgt := 22) dd_M_hours_7 (by decide) (fun c1 => ?_) (fun c1 => ?_)
  · refine ag_iconst dd_M_hours_22 ?_
    refine ag_iret dd_M_hours_23 rfl ?_
    unfold sp_hours
    rw [if_neg (by omega)]
    exact ⟨rfl, hM⟩
  · refine ag_aload_n dd_M_hours_10 rfl ?_
    refine ag_get dd_M_hours_11 fg_M_159 (mr_38 hM) rfl ?_
    refine ag_iload_n dd_M_hours_14 rfl ?_
    refine ag_iadd dd_M_hours_15 ?_
    refine ag_sipush dd_M_hours_16 (by decide +kernel) ?_
    refine ag_icmp_le (tgt := 24) dd_M_hours_19 (by decide) (by omega) (by omega) (fun c2 => ?_) (fun c2 => ?_)
    · refine ag_iconst dd_M_hours_24 ?_
      refine ag_istore_n (L' := [some (av_r 38), some (av_i (n)), some (av_i (0))]) dd_M_hours_25 rfl rfl (by decide) ?_
      refine ml_M_hours hd hI hT hW (by omega) (fun h hM => ?_) n.toNat 0 h (by omega) hM
      unfold sp_hours
      rw [if_pos (by omega)]
      exact ⟨rfl, hM⟩
    · refine ag_iconst dd_M_hours_22 ?_
      refine ag_iret dd_M_hours_23 rfl ?_
      unfold sp_hours
      rw [if_neg (by omega)]
      exact ⟨rfl, hM⟩
