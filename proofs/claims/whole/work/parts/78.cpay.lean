/-- a load that is over is paid just if its day is over: from the k-th on -/
def py_ (S : ms_T) (k : Nat) : Prop := ∀ l : Nat, k ≤ l → (l : Int) < S.1 3 → (0 ≤ S.2 62 l → (S.2 63 l = -2000000000 ↔ (S.2 62 l).tdiv 24 = (S.1 0).tdiv 24)) ∧ (S.2 62 l < 0 → S.2 63 l = -2000000000) ∧ S.2 62 l ≤ S.1 0
theorem py_c {S : ms_T} {k l : Nat} (h : py_ S k) (hk : k ≤ l) (hl : (l : Int) < S.1 3) : (0 ≤ S.2 62 l ∧ S.2 63 l = -2000000000) ↔ (0 ≤ S.2 62 l ∧ (S.2 62 l).tdiv 24 = (S.1 0).tdiv 24) := by
  have := (h l hk hl).1
  constructor
  · intro q
    exact ⟨q.1, (this q.1).mp q.2⟩
  · intro q
    exact ⟨q.1, (this q.1).mpr q.2⟩
theorem py_pp {S : ms_T} {k : Nat} (h : py_ S k) : py_ (sp_pp S k) (k + 1) := by
  intro l hk hl
  rw [sp_pp_f] at hl ⊢
  rw [sp_pp_a S k (a := 62) (by decide) (by decide)]
  have e : (sp_pp S k).2 63 l = S.2 63 l := by
    unfold sp_pp
    split
    · show ai_up (S.2 63) k (sp_pay S k) l = _
      rw [ai_up_n _ _ (by omega)]
    · rfl
  rw [e]
  exact h l (by omega) hl
set_option maxHeartbeats 1000000 in
theorem ml_X_meanOfDay {w : aw_T} {h0 h : ah_T} {S : ms_T} {G : gh_T} {d : Nat} (hd : 2 ≤ d) (hC : co_I h0 h S G) (hI : iv_S S) (hpy : py_ S 0) {P : ap_T} (hP : P (some (av_i (sp_mean S))) h) : ∀ (m k : Nat), (k : Int) + m = S.1 3 → aw_W w mm_X_meanOfDay d P 9 [some (av_r 0), some (av_i ((sp_allN S k))), some (av_i ((sp_sumN S k))), some (av_q (rf_ G 2 (S.1 3).toNat k))] [] h 0 0 := by
  intro m
  have h2 := hI.1.2.2.2.1
  induction m with
  | zero =>
    intro k hk
    rw [rf_e (by omega)]
    obtain rfl : k = (S.1 3).toNat := by omega
    have hb := sp_sum_b hI (S.1 3).toNat (by omega)
    refine ag_aload_n dd_X_meanOfDay_9 rfl ?_
    refine ag_ifnull (tgt := 47) dd_X_meanOfDay_10 (by decide) (fun _ => ?_) (fun _ q => by cases q)
    refine ag_iload_n dd_X_meanOfDay_47 rfl ?_
    refine ag_iload_n dd_X_meanOfDay_48 rfl ?_
    refine ag_rS dd_X_meanOfDay_49 fi_X_337 (mc_X_quotient (by omega) (by omega)) rfl rfl (by omega) (Nat.le_of_ble_eq_true rfl) ?_
    refine ag_iret dd_X_meanOfDay_52 rfl ?_
    exact hP
  | succ m ih =>
    intro k hk
    rw [rf_s (by omega)]
    obtain ⟨l55, -, -, -, l57, -, -, -, l62, l62b, l63⟩ := hI.2.2.2.1 k (by omega)
    have hlb := sp_left_b hI (l := k) (by omega)
    have hpc := py_c hpy (l := k) (Nat.zero_le k) (by omega)
    refine ag_aload_n dd_X_meanOfDay_9 rfl ?_
    refine ag_ifnull (tgt := 47) dd_X_meanOfDay_10 (by decide) (fun q => by cases q) (fun _ _ => ?_)
    refine ag_aload_n dd_X_meanOfDay_13 rfl ?_
    refine ag_rV dd_X_meanOfDay_14 fi_X_331 (cr_L hC (by omega)) rfl (mc_Load_isToBePaid (d := 1) (by omega) hC (by omega) l62 l63) rfl rfl (by omega) (Nat.le_of_ble_eq_true rfl) ?_
    refine ag_if_eqB (tgt := 39) dd_X_meanOfDay_17 (by decide) (fun c2 => ?_) (fun c2 => ?_)
    · refine ag_aload_n dd_X_meanOfDay_39 rfl ?_
      refine ag_get dd_X_meanOfDay_40 fg_X_263 (cr_L hC (by omega)) rfl ?_
      refine ag_astore_n (L' := [some (av_r 0), some (av_i ((sp_allN S k))), some (av_i ((sp_sumN S k))), some (av_q (rf_ G 2 (S.1 3).toNat (k + 1)))]) dd_X_meanOfDay_43 rfl rfl (by decide) ?_
      refine ag_goto (tgt := 9) dd_X_meanOfDay_44 (by decide) ?_
      have c9 : ¬ _ := fun q => (by assumption : ¬ (0 ≤ S.2 62 k ∧ S.2 63 k = -2000000000)) (hpc.mpr q)
      have ea : sp_allN S k = sp_allN S (k + 1) := by rw [sp_allN, if_neg c9, Int.add_zero]
      have eb : sp_sumN S k = sp_sumN S (k + 1) := by rw [sp_sumN, if_neg c9, Int.add_zero]
      rw [ea, eb]
      exact ih (k + 1) (by omega)
    · refine ag_iload_n dd_X_meanOfDay_20 rfl ?_
      refine ag_aload_n dd_X_meanOfDay_21 rfl ?_
      refine ag_get dd_X_meanOfDay_22 fg_X_211 (cr_L hC (by omega)) rfl ?_
      refine ag_iadd dd_X_meanOfDay_25 ?_
      refine ag_istore_nN (Lf := fun y => [some (av_r 0), some (av_i (y)), some (av_i ((sp_sumN S k))), some (av_r ((G 2 k)))]) dd_X_meanOfDay_26 (fun _ => rfl) rfl (by decide) (fun y3 ey3 => ?_)
      refine ag_iload_n dd_X_meanOfDay_27 rfl ?_
      refine ag_aload_n dd_X_meanOfDay_28 rfl ?_
      refine ag_get dd_X_meanOfDay_29 fg_X_211 (cr_L hC (by omega)) rfl ?_
      refine ag_aload_n dd_X_meanOfDay_32 rfl ?_
      refine ag_get dd_X_meanOfDay_33 fg_X_202 (cr_L hC (by omega)) rfl ?_
      refine ag_imul dd_X_meanOfDay_36 ?_
      refine ag_iadd dd_X_meanOfDay_37 ?_
      refine ag_istore_nN (Lf := fun y => [some (av_r 0), some (av_i (y3)), some (av_i (y)), some (av_r ((G 2 k)))]) dd_X_meanOfDay_38 (fun _ => rfl) rfl (by decide) (fun y4 ey4 => ?_)
      refine ag_aload_n dd_X_meanOfDay_39 rfl ?_
      refine ag_get dd_X_meanOfDay_40 fg_X_263 (cr_L hC (by omega)) rfl ?_
      refine ag_astore_n (L' := [some (av_r 0), some (av_i (y3)), some (av_i (y4)), some (av_q (rf_ G 2 (S.1 3).toNat (k + 1)))]) dd_X_meanOfDay_43 rfl rfl (by decide) ?_
      refine ag_goto (tgt := 9) dd_X_meanOfDay_44 (by decide) ?_
      have c9 := hpc.mp (by assumption)
      have ea : y3 = sp_allN S (k + 1) := by rw [ey3, sp_allN, if_pos c9]
      have eb : y4 = sp_sumN S (k + 1) := by rw [ey4, sp_sumN, if_pos c9]
      rw [ea, eb]
      exact ih (k + 1) (by omega)
set_option maxHeartbeats 1000000 in
theorem mc_X_meanOfDay {w : aw_T} {h0 h : ah_T} {S : ms_T} {G : gh_T} {d : Nat} (hd : 2 ≤ d) (hC : co_I h0 h S G) (hI : iv_S S) (hpy : py_ S 0) : am_M w mm_X_meanOfDay d [av_r 0] h 0 0 (fun r h' => r = some (av_i (sp_mean S)) ∧ h' = h) := by
  refine am_intro [some (av_r 0), none, none, none] (by decide +kernel) (Nat.le_of_ble_eq_true rfl) rfl ?_
  refine ag_iconst dd_X_meanOfDay_0 ?_
  refine ag_istore_n (L' := [some (av_r 0), some (av_i (0)), none, none]) dd_X_meanOfDay_1 rfl rfl (by decide) ?_
  refine ag_iconst dd_X_meanOfDay_2 ?_
  refine ag_istore_n (L' := [some (av_r 0), some (av_i (0)), some (av_i (0)), none]) dd_X_meanOfDay_3 rfl rfl (by decide) ?_
  refine ag_aload_n dd_X_meanOfDay_4 rfl ?_
  refine ag_get dd_X_meanOfDay_5 fg_X_260 (cr_0 hC) rfl ?_
  refine ag_astore_n (L' := [some (av_r 0), some (av_i (0)), some (av_i (0)), some (av_q (rf_ G 2 (S.1 3).toNat 0))]) dd_X_meanOfDay_8 rfl rfl (by decide) ?_
  exact ml_X_meanOfDay hd hC hI hpy ⟨rfl, rfl⟩ (S.1 3).toNat 0 (by have := hI.1.2.2.2.1; omega)
theorem sp_code_pp (S : ms_T) (k : Nat) : sp_code (sp_pp S k) = sp_code S := by
  unfold sp_code
  rw [sp_pp_f, sp_pp_a S k (a := 69) (by decide) (by decide), sp_pp_a S k (a := 70) (by decide) (by decide)]
set_option maxHeartbeats 1000000 in
theorem ml_X_payDay {w : aw_T} {h0 : ah_T} {G : gh_T} {d : Nat} (hd : 40 ≤ d) {n : Nat} {Sb : ms_T} (hfm0 : fm_ h0 Sb G) {P : ap_T} : ∀ (m k : Nat) (S : ms_T) (h : ah_T), k + m = n → S.1 3 = (n : Int) → iv_S S → iv_T S → (0 ≤ S.1 38 ∧ S.1 38 ≤ 96000) → py_ S k → sp_code S = sp_code Sb → co_I h0 h S G → (∀ h, co_I h0 h (it2 sp_pp S k m) G → P none h) → aw_W w mm_X_payDay d P 13 [some (av_r 0), some (av_q (rf_ G 2 n k)), none] [] h 0 0 := by
  intro m
  induction m with
  | zero =>
    intro k S h hk h3 hI hT h38 hpy hcode hC hX
    rw [rf_e (by omega)]
    refine ag_aload_n dd_X_payDay_13 rfl ?_
    refine ag_ifnull (tgt := 99) dd_X_payDay_14 (by decide) (fun _ => ?_) (fun _ q => by cases q)
    refine ag_vret dd_X_payDay_99 rfl ?_
    exact hX h hC
  | succ m ih =>
    intro k S h hk h3 hI hT h38 hpy hcode hC hX
    rw [rf_s (by omega)]
    obtain ⟨l55, -, -, l56, l57, -, -, -, l62, l62b, l63⟩ := hI.2.2.2.1 k (by omega)
    have hlb := sp_left_b hI (l := k) (by omega)
    have hpc := py_c hpy (l := k) (Nat.le_refl k) (by omega)
    have hff := hI.2.1 (S.2 55 k).toNat (by omega)
    have h1c := hI.1.2.1
    refine ag_aload_n dd_X_payDay_13 rfl ?_
    refine ag_ifnull (tgt := 99) dd_X_payDay_14 (by decide) (fun q => by cases q) (fun _ _ => ?_)
    refine ag_aload_n dd_X_payDay_17 rfl ?_
    refine ag_rV dd_X_payDay_18 fi_X_331 (cr_L hC (by omega)) rfl (mc_Load_isToBePaid (d := 1) (by omega) hC (by omega) l62 l63) rfl rfl (by omega) (Nat.le_of_ble_eq_true rfl) ?_
    refine ag_if_eqB (tgt := 91) dd_X_payDay_21 (by decide) (fun c2 => ?_) (fun c2 => ?_)
    · refine ag_aload_n dd_X_payDay_91 rfl ?_
      refine ag_get dd_X_payDay_92 fg_X_263 (cr_L hC (by omega)) rfl ?_
      refine ag_astore_n (L' := [some (av_r 0), some (av_q (rf_ G 2 (S.1 3).toNat (k + 1))), none]) dd_X_payDay_95 rfl rfl (by decide) ?_
      refine ag_goto (tgt := 13) dd_X_payDay_96 (by decide) ?_
      have c9 : ¬ (0 ≤ S.2 62 k ∧ (S.2 62 k).tdiv 24 = (S.1 0).tdiv 24) := fun q => (by assumption : ¬ (0 ≤ S.2 62 k ∧ S.2 63 k = -2000000000)) (hpc.mpr q)
      have epp : sp_pp S k = S := if_neg c9
      have hC3 : co_I h0 h (sp_pp S k) G := by rw [epp]; exact hC
      have y3 : (sp_pp S k).1 3 = S.1 3 := by rw [sp_pp_f]
      rw [show (S.1 3).toNat = n by omega]
      refine ag_weak [some (av_r 0), some (av_q (rf_ G 2 n (k + 1))), none] (by simp [al_le]) ?_
      exact ih (k + 1) (sp_pp S k) h (by omega) (by omega) (iv_pp hI hT (by unfold iv_b; omega) (by omega)) (hT.kp (kp_pp S k)) (by rw [sp_pp_f]; exact h38) (py_pp hpy) ((sp_code_pp S k).trans hcode) hC3 (fun h hC => hX h hC)
    · have c9 := hpc.mp (by assumption)
      refine ag_aload_n dd_X_payDay_24 rfl ?_
      refine ag_get dd_X_payDay_25 fg_X_191 (cr_L hC (by omega)) rfl ?_
      refine ag_get dd_X_payDay_28 fg_X_134 (cr_F hC (by omega)) rfl ?_
      refine ag_if_eqB (tgt := 38) dd_X_payDay_31 (by decide) (fun c3 => ?_) (fun c3 => ?_)
      · refine ag_iconst dd_X_payDay_38 ?_
        refine ag_istore_n (L' := [some (av_r 0), some (av_r ((G 2 k))), some (av_i (0))]) dd_X_payDay_39 rfl rfl (by decide) ?_
        refine ag_aload_n dd_X_payDay_40 rfl ?_
        refine ag_aload_n dd_X_payDay_41 rfl ?_
        refine ag_get dd_X_payDay_42 fg_X_63 (cr_0 hC) rfl ?_
        refine ag_aload_n dd_X_payDay_45 rfl ?_
        refine ag_get dd_X_payDay_46 fg_X_211 (cr_L hC (by omega)) rfl ?_
        refine ag_aload_n dd_X_payDay_49 rfl ?_
        refine ag_get dd_X_payDay_50 fg_X_202 (cr_L hC (by omega)) rfl ?_
        refine ag_aload_n dd_X_payDay_53 rfl ?_
        refine ag_get dd_X_payDay_54 fg_X_22 (cr_0 hC) rfl ?_
        refine ag_iload_n dd_X_payDay_57 rfl ?_
        refine ag_aload_n dd_X_payDay_58 rfl ?_
        refine ag_get dd_X_payDay_59 fg_X_322 (cr_L hC (by omega)) rfl ?_
        rw [if_neg (show ¬ S.2 62 k < 0 by omega)]
        refine ag_aload_n dd_X_payDay_62 rfl ?_
        refine ag_get dd_X_payDay_63 fg_X_199 (cr_L hC (by omega)) rfl ?_
        refine ag_isub dd_X_payDay_66 ?_
        have hE : eb_ ((S.2 60 k), (S.2 57 k), (S.1 38), 0, ((S.2 62 k + 1) - (S.2 56 k))) := by
          unfold eb_ iv_b
          dsimp only
          omega
        have hfm := fm_cf hfm0 hC.2 hcode (rfl : G 9 0 = G 9 0)
        obtain ⟨ts, rr, v3, v4, v5, v6, v7, v8, v9, v10, hfa, hcF, hpa⟩ := tell_pre hfm
        refine ag_wV dd_X_payDay_67 fi_X_159 hcF rfl (mc_Formula_tell (d := 39) (by omega) hfa hcF hE) rfl rfl (by omega) (Nat.le_of_ble_eq_true rfl) (fun r1 h hP => ?_)
        obtain ⟨v, rfl, hvb, hfe, a9, ft9, pl9, hc9, htl9⟩ := hP
        obtain ⟨hv, hC1, hfm1⟩ := tell_post hC hfm hfa hcF hpa hfe hc9 htl9
        clear hC hfm hcF hfa hfm1
        have hC := hC1
        clear hC1
        have hpay : v = sp_pay S k := by
          rw [hv]
          unfold sp_pay
          rw [if_neg (by omega)]
        subst hpay
        clear hv
        refine hp_i dd_X_payDay_70 fp_X_221 (cr_L hC (by omega)) (Nat.le_of_ble_eq_true rfl) (fun h hu => ?_)
        have hC0 := hC
        clear hC
        have hC : co_I h0 h (S.1, ai_up S.2 63 (ai_up (S.2 63) k (sp_pay S k))) G := by
          refine co_uL hC0 (by omega) hu ?_ (fun j _ _ => rfl) (fun a j _ _ q => ?_) (fun _ _ _ => rfl)
          · have e1 : ai_up S.2 63 (ai_up (S.2 63) k (sp_pay S k)) 63 k = sp_pay S k := ai_up_s (S.2 63) k _
            unfold cx_L
            dsimp only
            rw [e1]
            rfl
          · show ai_up S.2 63 _ a j = _
            by_cases e : a = 63
            · rw [e, ai_up_s, ai_up_n _ _ (by omega)]
            · rw [ai_up_n _ _ e]
        clear hu
        have z63 : ((S.1, ai_up S.2 63 (ai_up (S.2 63) k (sp_pay S k))) : ms_T).2 63 k = sp_pay S k := ai_up_s (S.2 63) k _
        have z55 : ((S.1, ai_up S.2 63 (ai_up (S.2 63) k (sp_pay S k))) : ms_T).2 55 k = S.2 55 k := rfl
        have z40 : ((S.1, ai_up S.2 63 (ai_up (S.2 63) k (sp_pay S k))) : ms_T).2 40 = S.2 40 := rfl
        have z3 : ((S.1, ai_up S.2 63 (ai_up (S.2 63) k (sp_pay S k))) : ms_T).1 3 = S.1 3 := rfl
        have z2 : ((S.1, ai_up S.2 63 (ai_up (S.2 63) k (sp_pay S k))) : ms_T).1 2 = S.1 2 := rfl
        have z1 : ((S.1, ai_up S.2 63 (ai_up (S.2 63) k (sp_pay S k))) : ms_T).1 1 = S.1 1 := rfl
        have epp : sp_pp S k = (((S.1, ai_up S.2 63 (ai_up (S.2 63) k (sp_pay S k))) : ms_T).1, ai_up ((S.1, ai_up S.2 63 (ai_up (S.2 63) k (sp_pay S k))) : ms_T).2 39 (ai_up (((S.1, ai_up S.2 63 (ai_up (S.2 63) k (sp_pay S k))) : ms_T).2 39) (S.2 40 (S.2 55 k).toNat).toNat (((S.1, ai_up S.2 63 (ai_up (S.2 63) k (sp_pay S k))) : ms_T).2 39 (S.2 40 (S.2 55 k).toNat).toNat + sp_pay S k))) := by
          unfold sp_pp
          rw [if_pos c9]
          rfl
        generalize ((S.1, ai_up S.2 63 (ai_up (S.2 63) k (sp_pay S k))) : ms_T) = S1 at *
        refine ag_aload_n dd_X_payDay_73 rfl ?_
        refine ag_get dd_X_payDay_74 fg_X_28 (cr_0 hC) rfl ?_
        refine ag_aload_n dd_X_payDay_77 rfl ?_
        refine ag_get dd_X_payDay_78 fg_X_191 (cr_L hC (by omega)) rfl ?_
        refine ag_get dd_X_payDay_81 fg_X_131 (cr_F hC (by omega)) rfl ?_
        refine ag_aload_n dd_X_payDay_84 rfl ?_
        refine ag_get dd_X_payDay_85 fg_X_221 (cr_L hC (by omega)) rfl ?_
        have h40 := hff.1.1
        have hfa1 : S1.2 40 (S1.2 55 k).toNat = S.2 40 (S.2 55 k).toNat := by rw [z40, z55]
        have hvr := hvb
        unfold iv_b at hvr
        rw [hfa1, z63]
        refine ag_wV dd_X_payDay_88 fi_X_334 (cr_1 hC) rfl (mc_Farms_give (d := 1) (by omega) hC (f := S.2 40 (S.2 55 k).toNat) (v := sp_pay S k) (by omega) (by omega) (by omega)) rfl rfl (by omega) (Nat.le_of_ble_eq_true rfl) (fun r1 h hP => ?_)
        obtain ⟨rfl, hC2⟩ := hP
        have hC3 : co_I h0 h (sp_pp S k) G := by rw [epp]; exact hC2
        clear hC hC2
        have hC := hC3
        clear hC3
        have y3 : (sp_pp S k).1 3 = S.1 3 := by rw [sp_pp_f]
        refine ag_aload_n dd_X_payDay_91 rfl ?_
        refine ag_get dd_X_payDay_92 fg_X_263 (cr_L hC (by omega)) rfl ?_
        refine ag_astore_n (L' := [some (av_r 0), some (av_q (rf_ G 2 ((sp_pp S k).1 3).toNat (k + 1))), some (av_i (0))]) dd_X_payDay_95 rfl rfl (by decide) ?_
        refine ag_goto (tgt := 13) dd_X_payDay_96 (by decide) ?_
        rw [show ((sp_pp S k).1 3).toNat = n by omega]
        refine ag_weak [some (av_r 0), some (av_q (rf_ G 2 n (k + 1))), none] (by simp [al_le]) ?_
        exact ih (k + 1) (sp_pp S k) h (by omega) (by omega) (iv_pp hI hT (by unfold iv_b; omega) (by omega)) (hT.kp (kp_pp S k)) (by rw [sp_pp_f]; exact h38) (py_pp hpy) ((sp_code_pp S k).trans hcode) hC (fun h hC => hX h hC)
      · refine ag_iconst dd_X_payDay_34 ?_
        refine ag_goto (tgt := 39) dd_X_payDay_35 (by decide) ?_
        refine ag_istore_n (L' := [some (av_r 0), some (av_r ((G 2 k))), some (av_i (1))]) dd_X_payDay_39 rfl rfl (by decide) ?_
        refine ag_aload_n dd_X_payDay_40 rfl ?_
        refine ag_aload_n dd_X_payDay_41 rfl ?_
        refine ag_get dd_X_payDay_42 fg_X_63 (cr_0 hC) rfl ?_
        refine ag_aload_n dd_X_payDay_45 rfl ?_
        refine ag_get dd_X_payDay_46 fg_X_211 (cr_L hC (by omega)) rfl ?_
        refine ag_aload_n dd_X_payDay_49 rfl ?_
        refine ag_get dd_X_payDay_50 fg_X_202 (cr_L hC (by omega)) rfl ?_
        refine ag_aload_n dd_X_payDay_53 rfl ?_
        refine ag_get dd_X_payDay_54 fg_X_22 (cr_0 hC) rfl ?_
        refine ag_iload_n dd_X_payDay_57 rfl ?_
        refine ag_aload_n dd_X_payDay_58 rfl ?_
        refine ag_get dd_X_payDay_59 fg_X_322 (cr_L hC (by omega)) rfl ?_
        rw [if_neg (show ¬ S.2 62 k < 0 by omega)]
        refine ag_aload_n dd_X_payDay_62 rfl ?_
        refine ag_get dd_X_payDay_63 fg_X_199 (cr_L hC (by omega)) rfl ?_
        refine ag_isub dd_X_payDay_66 ?_
        have hE : eb_ ((S.2 60 k), (S.2 57 k), (S.1 38), 1, ((S.2 62 k + 1) - (S.2 56 k))) := by
          unfold eb_ iv_b
          dsimp only
          omega
        have hfm := fm_cf hfm0 hC.2 hcode (rfl : G 9 0 = G 9 0)
        obtain ⟨ts, rr, v3, v4, v5, v6, v7, v8, v9, v10, hfa, hcF, hpa⟩ := tell_pre hfm
        refine ag_wV dd_X_payDay_67 fi_X_159 hcF rfl (mc_Formula_tell (d := 39) (by omega) hfa hcF hE) rfl rfl (by omega) (Nat.le_of_ble_eq_true rfl) (fun r1 h hP => ?_)
        obtain ⟨v, rfl, hvb, hfe, a9, ft9, pl9, hc9, htl9⟩ := hP
        obtain ⟨hv, hC1, hfm1⟩ := tell_post hC hfm hfa hcF hpa hfe hc9 htl9
        clear hC hfm hcF hfa hfm1
        have hC := hC1
        clear hC1
        have hpay : v = sp_pay S k := by
          rw [hv]
          unfold sp_pay
          rw [if_pos (by omega)]
        subst hpay
        clear hv
        refine hp_i dd_X_payDay_70 fp_X_221 (cr_L hC (by omega)) (Nat.le_of_ble_eq_true rfl) (fun h hu => ?_)
        have hC0 := hC
        clear hC
        have hC : co_I h0 h (S.1, ai_up S.2 63 (ai_up (S.2 63) k (sp_pay S k))) G := by
          refine co_uL hC0 (by omega) hu ?_ (fun j _ _ => rfl) (fun a j _ _ q => ?_) (fun _ _ _ => rfl)
          · have e1 : ai_up S.2 63 (ai_up (S.2 63) k (sp_pay S k)) 63 k = sp_pay S k := ai_up_s (S.2 63) k _
            unfold cx_L
            dsimp only
            rw [e1]
            rfl
          · show ai_up S.2 63 _ a j = _
            by_cases e : a = 63
            · rw [e, ai_up_s, ai_up_n _ _ (by omega)]
            · rw [ai_up_n _ _ e]
        clear hu
        have z63 : ((S.1, ai_up S.2 63 (ai_up (S.2 63) k (sp_pay S k))) : ms_T).2 63 k = sp_pay S k := ai_up_s (S.2 63) k _
        have z55 : ((S.1, ai_up S.2 63 (ai_up (S.2 63) k (sp_pay S k))) : ms_T).2 55 k = S.2 55 k := rfl
        have z40 : ((S.1, ai_up S.2 63 (ai_up (S.2 63) k (sp_pay S k))) : ms_T).2 40 = S.2 40 := rfl
        have z3 : ((S.1, ai_up S.2 63 (ai_up (S.2 63) k (sp_pay S k))) : ms_T).1 3 = S.1 3 := rfl
        have z2 : ((S.1, ai_up S.2 63 (ai_up (S.2 63) k (sp_pay S k))) : ms_T).1 2 = S.1 2 := rfl
        have z1 : ((S.1, ai_up S.2 63 (ai_up (S.2 63) k (sp_pay S k))) : ms_T).1 1 = S.1 1 := rfl
        have epp : sp_pp S k = (((S.1, ai_up S.2 63 (ai_up (S.2 63) k (sp_pay S k))) : ms_T).1, ai_up ((S.1, ai_up S.2 63 (ai_up (S.2 63) k (sp_pay S k))) : ms_T).2 39 (ai_up (((S.1, ai_up S.2 63 (ai_up (S.2 63) k (sp_pay S k))) : ms_T).2 39) (S.2 40 (S.2 55 k).toNat).toNat (((S.1, ai_up S.2 63 (ai_up (S.2 63) k (sp_pay S k))) : ms_T).2 39 (S.2 40 (S.2 55 k).toNat).toNat + sp_pay S k))) := by
          unfold sp_pp
          rw [if_pos c9]
          rfl
        generalize ((S.1, ai_up S.2 63 (ai_up (S.2 63) k (sp_pay S k))) : ms_T) = S1 at *
        refine ag_aload_n dd_X_payDay_73 rfl ?_
        refine ag_get dd_X_payDay_74 fg_X_28 (cr_0 hC) rfl ?_
        refine ag_aload_n dd_X_payDay_77 rfl ?_
        refine ag_get dd_X_payDay_78 fg_X_191 (cr_L hC (by omega)) rfl ?_
        refine ag_get dd_X_payDay_81 fg_X_131 (cr_F hC (by omega)) rfl ?_
        refine ag_aload_n dd_X_payDay_84 rfl ?_
        refine ag_get dd_X_payDay_85 fg_X_221 (cr_L hC (by omega)) rfl ?_
        have h40 := hff.1.1
        have hfa1 : S1.2 40 (S1.2 55 k).toNat = S.2 40 (S.2 55 k).toNat := by rw [z40, z55]
        have hvr := hvb
        unfold iv_b at hvr
        rw [hfa1, z63]
        refine ag_wV dd_X_payDay_88 fi_X_334 (cr_1 hC) rfl (mc_Farms_give (d := 1) (by omega) hC (f := S.2 40 (S.2 55 k).toNat) (v := sp_pay S k) (by omega) (by omega) (by omega)) rfl rfl (by omega) (Nat.le_of_ble_eq_true rfl) (fun r1 h hP => ?_)
        obtain ⟨rfl, hC2⟩ := hP
        have hC3 : co_I h0 h (sp_pp S k) G := by rw [epp]; exact hC2
        clear hC hC2
        have hC := hC3
        clear hC3
        have y3 : (sp_pp S k).1 3 = S.1 3 := by rw [sp_pp_f]
        refine ag_aload_n dd_X_payDay_91 rfl ?_
        refine ag_get dd_X_payDay_92 fg_X_263 (cr_L hC (by omega)) rfl ?_
        refine ag_astore_n (L' := [some (av_r 0), some (av_q (rf_ G 2 ((sp_pp S k).1 3).toNat (k + 1))), some (av_i (1))]) dd_X_payDay_95 rfl rfl (by decide) ?_
        refine ag_goto (tgt := 13) dd_X_payDay_96 (by decide) ?_
        rw [show ((sp_pp S k).1 3).toNat = n by omega]
        refine ag_weak [some (av_r 0), some (av_q (rf_ G 2 n (k + 1))), none] (by simp [al_le]) ?_
        exact ih (k + 1) (sp_pp S k) h (by omega) (by omega) (iv_pp hI hT (by unfold iv_b; omega) (by omega)) (hT.kp (kp_pp S k)) (by rw [sp_pp_f]; exact h38) (py_pp hpy) ((sp_code_pp S k).trans hcode) hC (fun h hC => hX h hC)
set_option maxHeartbeats 1000000 in
theorem mc_X_payDay {w : aw_T} {h0 h : ah_T} {S : ms_T} {G : gh_T} {d : Nat} (hd : 40 ≤ d) (hC : co_I h0 h S G) {Sb : ms_T} (hfm : fm_ h0 Sb G) (hcode : sp_code S = sp_code Sb) (hI : iv_S S) (hT : iv_T S) (hpy : py_ S 0) : am_M w mm_X_payDay d [av_r 0] h 0 0 (cq_ h0 G (none, sp_pd S)) := by
  refine am_intro [some (av_r 0), none, none] (by decide +kernel) (Nat.le_of_ble_eq_true rfl) rfl ?_
  refine ag_aload_n dd_X_payDay_0 rfl ?_
  refine ag_aload_n dd_X_payDay_1 rfl ?_
  refine ag_rV dd_X_payDay_2 fi_X_328 (cr_0 hC) rfl (mc_X_meanOfDay (d := 2) (by omega) hC hI hpy) rfl rfl (by omega) (Nat.le_of_ble_eq_true rfl) ?_
  refine cp_38 dd_X_payDay_5 fp_X_22 hC (fun h S1 eS1 hC => ?_)
  refine ag_aload_n dd_X_payDay_8 rfl ?_
  refine ag_get dd_X_payDay_9 fg_X_260 (cr_0 hC) rfl ?_
  refine ag_astore_n (L' := [some (av_r 0), some (av_q (rf_ G 2 (S1.1 3).toNat 0)), none]) dd_X_payDay_12 rfl rfl (by decide) ?_
  have h3 := hI.1.2.2.2.1
  obtain ⟨n, hn⟩ : ∃ n : Nat, S.1 3 = (n : Int) := ⟨(S.1 3).toNat, by omega⟩
  have hnt : (S.1 3).toNat = n := by omega
  have e3 : S1.1 3 = (n : Int) := by rw [eS1]; exact hn
  rw [show (S1.1 3).toNat = n by omega]
  have hmb := sp_mean_b hI
  refine ml_X_payDay hd hfm n 0 S1 h (by omega) e3 (by rw [eS1]; exact iv_m38 hI _) (by rw [eS1]; exact iv_T38 hT _) (by rw [eS1]; exact hmb) (by rw [eS1]; exact hpy) (by rw [eS1]; exact hcode) hC (fun h hC => ⟨rfl, ?_⟩)
  show co_I h0 h (sp_it sp_pp (ai_up S.1 38 (sp_mean S), S.2) (S.1 3).toNat) G
  rw [hnt, ← it2_0, ← eS1]
  exact hC
