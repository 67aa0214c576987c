theorem co_kf {h0 h : ah_T} {S : ms_T} {G : gh_T} (H : co_R h0 S G) (hf : kf_ h0 h) : co_R h S G := by
  obtain ⟨H1, H2, H3⟩ := H
  refine ⟨by rw [hf.1]; exact H1, fun k i v => ?_, H3⟩
  have := H2 k i v
  refine ⟨?_, this.2⟩
  rw [hf.2 _ ?_]
  · exact this.1
  · cases k with
    | zero =>
      have v2 : i ≤ 5 ∨ i = 30 ∨ i = 31 := v
      show ¬ (6 ≤ i ∧ i < 30)
      omega
    | succ k =>
      have := this.2 (by omega)
      omega
theorem key4 {a i : Nat} (ha : a ≤ 100000) (hi : i < 16) : (Int32.ofInt (Int32.ofInt (a : Int) <<< (Int32.ofInt 4 &&& 31)).toInt ||| Int32.ofInt (i : Int)).toInt = (a : Int) * 16 + (i : Int) := by
  have := sp_shor (a := a) (k := 4) (b := i) (by decide) (by omega) (by omega)
  rw [show (Int32.ofInt 4 : Int32) = Int32.ofInt ((4 : Nat) : Int) from rfl, this]
  omega
/-- what is passed over -/
def oc_ (S K : ms_T) (i : Nat) : Prop := sp_wb S i = 0 ∨ K.1 8 * (sp_wd S i - sp_wa S i) < S.2 41 i
def ok_ (S K : ms_T) (i : Nat) (f10 f11 : Nat → Int) : ms_T := (ai_up (ai_up K.1 6 (((K.1 6).toNat ||| 2 ^ i : Nat) : Int)) 7 (K.1 7 + 1), ai_up (ai_up (ai_up (ai_up (ai_up K.2 7 (ai_up (K.2 7) i (S.2 41 i))) 8 (ai_up (K.2 8) i (sp_wb S i))) 9 (ai_up (K.2 9) i (sp_wa S i))) 10 f10) 11 f11)
def of_ (S K K2 : ms_T) (i : Nat) : Prop := (oc_ S K i ∧ K2 = K) ∨ (¬ oc_ S K i ∧ ∃ (f10 f11 : Nat → Int) (q10 q11 : Nat), is_ (K.2 10) f10 (K.1 7).toNat q10 (sp_wd S i * 16 + (i : Int)) ∧ is_ (K.2 11) f11 (K.1 7).toNat q11 (sp_wb S i * 16 + (i : Int)) ∧ K2 = ok_ S K i f10 f11)
set_option maxHeartbeats 1000000 in
theorem mc_Chooser_offer {w : aw_T} {h0 hb h : ah_T} {K S : ms_T} {G : gh_T} {d : Nat} (hd : 3 ≤ d) (hK : kc_I h0 h K) (hC : co_I hb h S G) {i : Nat} (hi : (i : Int) < S.1 2) (h2 : S.1 2 ≤ 16) (h0c : 0 ≤ S.1 0 ∧ S.1 0 ≤ 4000) (h5 : 1 ≤ S.1 5 ∧ S.1 5 ≤ 20) (hfi : iv_f S i) (h7 : 0 ≤ K.1 7 ∧ K.1 7 ≤ 15) (h8 : 1 ≤ K.1 8 ∧ K.1 8 ≤ 100) (h6 : 0 ≤ K.1 6 ∧ K.1 6 < 65536) (hrow : ∀ j : Nat, (j : Int) < K.1 7 → (0 ≤ K.2 10 j ∧ K.2 10 j ≤ 200000) ∧ (0 ≤ K.2 11 j ∧ K.2 11 j ≤ 200000)) : am_M w mm_Chooser_offer d [av_r 6, av_r (G 1 i), av_i (sp_c S i)] h 0 0 (fun r1 h1 => r1 = none ∧ ∃ K2 : ms_T, kc_I h0 h1 K2 ∧ of_ S K K2 i) := by
  refine am_intro [some (av_r 6), some (av_r ((G 1 i))), some (av_i ((sp_c S i))), none, none, none, none] (by decide +kernel) (Nat.le_of_ble_eq_true rfl) rfl ?_
  have h41 := hfi.2.1
  have h42 := hfi.2.2.1
  have hcb := sp_c_b h41 h5
  have hwb := sp_wb_b hfi
  have htr := sp_trip_b h42
  have hi16 : i < 16 := by omega
  refine ag_aload_n dd_Chooser_offer_0 rfl ?_
  refine ag_get dd_Chooser_offer_1 fg_Chooser_42 (cr_F hC hi) rfl ?_
  refine ag_istore_n (L' := [some (av_r 6), some (av_r ((G 1 i))), some (av_i ((sp_c S i))), some (av_i ((i : Int))), none, none, none]) dd_Chooser_offer_4 rfl rfl (by decide) ?_
  refine ag_iload_n dd_Chooser_offer_5 rfl ?_
  refine ag_aload_n dd_Chooser_offer_6 rfl ?_
  refine ag_rV dd_Chooser_offer_7 fi_Chooser_47 (cr_F hC hi) rfl (mc_Field_hoursToMill (d := 1) (by omega) hC hi (by omega)) rfl rfl (by omega) (Nat.le_of_ble_eq_true rfl) ?_
  refine ag_iadd dd_Chooser_offer_10 ?_
  refine ag_istoreN (Lf := fun y => [some (av_r 6), some (av_r ((G 1 i))), some (av_i ((sp_c S i))), some (av_i ((i : Int))), some (av_i (y)), none, none]) dd_Chooser_offer_11 (fun _ => rfl) rfl (by decide) (fun y1 ey1 => ?_)
  refine ag_iload_n dd_Chooser_offer_13 rfl ?_
  refine ag_aload_n dd_Chooser_offer_14 rfl ?_
  refine ag_rV dd_Chooser_offer_15 fi_Chooser_51 (cr_F hC hi) rfl (mc_Field_hoursToDeath (d := 0) (by omega) hC hi) rfl rfl (by omega) (Nat.le_of_ble_eq_true rfl) ?_
  refine ag_iadd dd_Chooser_offer_18 ?_
  refine ag_istoreN (Lf := fun y => [some (av_r 6), some (av_r ((G 1 i))), some (av_i ((sp_c S i))), some (av_i ((i : Int))), some (av_i (y1)), some (av_i (y)), none]) dd_Chooser_offer_19 (fun _ => rfl) rfl (by decide) (fun y2 ey2 => ?_)
  refine ag_aload_n dd_Chooser_offer_21 rfl ?_
  refine ag_get dd_Chooser_offer_22 fg_Chooser_54 (cr_F hC hi) rfl ?_
  refine ag_aload_n dd_Chooser_offer_25 rfl ?_
  refine ag_iload_n dd_Chooser_offer_26 rfl ?_
  refine ag_rV dd_Chooser_offer_27 fi_Chooser_56 (cr_F hC hi) rfl (mc_Field_sweetAt (d := 1) (by omega) hC hi hfi.sw (by omega)) rfl rfl (by omega) (Nat.le_of_ble_eq_true rfl) ?_
  refine ag_imul dd_Chooser_offer_30 ?_
  refine ag_istoreN (Lf := fun y => [some (av_r 6), some (av_r ((G 1 i))), some (av_i ((sp_c S i))), some (av_i ((i : Int))), some (av_i (y1)), some (av_i (y2)), some (av_i (y))]) dd_Chooser_offer_31 (fun _ => rfl) rfl (by decide) (fun y3 ey3 => ?_)
  have ea : y1 = sp_wa S i := ey1
  have ed : y2 = sp_wd S i := ey2
  have ew : y3 = sp_wb S i := ey3
  rw [ea, ed, ew]
  clear ea ed ew
  subst ey1 ey2 ey3
  have hwa : 0 ≤ sp_wa S i ∧ sp_wa S i ≤ 5000 := by unfold sp_wa; omega
  have hwd : 0 ≤ sp_wd S i ∧ sp_wd S i ≤ 5000 := by unfold sp_wd; split <;> omega
  have hmu : -1000000 ≤ K.1 8 * (sp_wd S i - sp_wa S i) ∧ K.1 8 * (sp_wd S i - sp_wa S i) ≤ 1000000 := by
    have hd1 : -5000 ≤ sp_wd S i - sp_wa S i ∧ sp_wd S i - sp_wa S i ≤ 5000 := by omega
    generalize sp_wd S i - sp_wa S i = z at hd1
    constructor
    · have := Int.mul_le_mul_of_nonneg_left hd1.1 (show 0 ≤ K.1 8 by omega)
      omega
    · have := Int.mul_le_mul_of_nonneg_left hd1.2 (show 0 ≤ K.1 8 by omega)
      omega
  refine ag_iload dd_Chooser_offer_33 rfl ?_
  refine ag_if_eq (tgt := 65) dd_Chooser_offer_35 (by decide) (by omega) (fun c4 => ?_) (fun c4 => ?_)
  · refine ag_vret dd_Chooser_offer_65 rfl ?_
    exact ⟨rfl, K, hK, Or.inl ⟨by first | exact Or.inl (by assumption) | exact Or.inr (by omega), rfl⟩⟩
  · refine ag_aload_n dd_Chooser_offer_38 rfl ?_
    refine ag_get dd_Chooser_offer_39 fg_Chooser_54 (cr_F hC hi) rfl ?_
    refine ag_aload_n dd_Chooser_offer_42 rfl ?_
    refine ag_get dd_Chooser_offer_43 fg_Chooser_32 (kx_6 hK) rfl ?_
    refine ag_iload dd_Chooser_offer_46 rfl ?_
    refine ag_iload dd_Chooser_offer_48 rfl ?_
    refine ag_isub dd_Chooser_offer_50 ?_
    refine ag_imul dd_Chooser_offer_51 ?_
    refine ag_icmp_gt (tgt := 65) dd_Chooser_offer_52 (by decide) (by omega) (by omega) (fun c5 => ?_) (fun c5 => ?_)
    · refine ag_vret dd_Chooser_offer_65 rfl ?_
      exact ⟨rfl, K, hK, Or.inl ⟨by first | exact Or.inl (by assumption) | exact Or.inr (by omega), rfl⟩⟩
    · refine ag_iload_n dd_Chooser_offer_55 rfl ?_
      refine ag_iconst dd_Chooser_offer_56 ?_
      refine ag_bipush dd_Chooser_offer_57 (by decide +kernel) ?_
      refine ag_rS dd_Chooser_offer_59 fi_Chooser_60 (mc_X_isWithin (d := 0) (by omega) (by omega) (by omega)) rfl rfl (by omega) (Nat.le_of_ble_eq_true rfl) ?_
      refine ag_if_neB (tgt := 66) dd_Chooser_offer_62 (by decide) (fun c6 => ?_) (fun c6 => ?_)
      · refine ag_aload_n dd_Chooser_offer_66 rfl ?_
        refine ag_get dd_Chooser_offer_67 fg_Chooser_9 (kx_6 hK) rfl ?_
        refine ag_iload_n dd_Chooser_offer_70 rfl ?_
        refine ag_aload_n dd_Chooser_offer_71 rfl ?_
        refine ag_get dd_Chooser_offer_72 fg_Chooser_54 (cr_F hC hi) rfl ?_
        refine ks_7N dd_Chooser_offer_75 hK (by omega) (fun h K7 eK7 hK => ?_)
        refine ag_aload_n dd_Chooser_offer_76 rfl ?_
        refine ag_get dd_Chooser_offer_77 fg_Chooser_15 (kx_6 hK) rfl ?_
        refine ag_iload_n dd_Chooser_offer_80 rfl ?_
        refine ag_iload dd_Chooser_offer_81 rfl ?_
        refine ks_8N dd_Chooser_offer_83 hK (by omega) (fun h K8 eK8 hK => ?_)
        refine ag_aload_n dd_Chooser_offer_84 rfl ?_
        refine ag_get dd_Chooser_offer_85 fg_Chooser_18 (kx_6 hK) rfl ?_
        refine ag_iload_n dd_Chooser_offer_88 rfl ?_
        refine ag_iload dd_Chooser_offer_89 rfl ?_
        refine ks_9N dd_Chooser_offer_91 hK (by omega) (fun h K9 eK9 hK => ?_)
        refine ag_iload dd_Chooser_offer_92 rfl ?_
        refine ag_iconst dd_Chooser_offer_94 ?_
        refine ag_ishl dd_Chooser_offer_95 ?_
        refine ag_iload_n dd_Chooser_offer_96 rfl ?_
        refine ag_ior dd_Chooser_offer_97 ?_
        obtain ⟨x10, hx10⟩ : ∃ x : Nat, sp_wd S i = (x : Int) := ⟨(sp_wd S i).toNat, by omega⟩
        refine ag_to (b := sp_wd S i * 16 + (i : Int)) (by rw [hx10]; exact key4 (by omega) hi16) ?_
        refine ag_aload_n dd_Chooser_offer_98 rfl ?_
        refine ag_get dd_Chooser_offer_99 fg_Chooser_21 (kx_6 hK) rfl ?_
        refine ag_aload_n dd_Chooser_offer_102 rfl ?_
        refine ag_get dd_Chooser_offer_103 fg_Chooser_39 (kx_6 hK) rfl ?_
        have e10_10 : K9.2 10 = K.2 10 := by subst_vars; rfl
        have e7_10 : K9.1 7 = (((K.1 7).toNat : Nat) : Int) := by
          have z : K9.1 7 = K.1 7 := by subst_vars; rfl
          omega
        rw [e7_10]
        refine ag_wS dd_Chooser_offer_106 fi_Chooser_64 (mc_Chooser_insert (d := 1) (by omega) (A := 10) (n := (K.1 7).toNat) (by omega) (kx_a hK (by decide) (by decide)) (fun j hj => by rw [e10_10]; have := hrow j (by omega); omega) (x := (sp_wd S i * 16 + (i : Int))) (by omega)) rfl rfl (by omega) (Nat.le_of_ble_eq_true rfl) (fun r1 h hP => ?_)
        obtain ⟨rfl, f10, q10, hu10, hi10⟩ := hP
        rw [e10_10] at hi10
        replace hK := kc_ua hK (by decide) hu10
        obtain ⟨K10, eK10⟩ : ∃ x : ms_T, x = (K9.1, ai_up K9.2 10 f10) := ⟨_, rfl⟩
        rw [← eK10] at hK
        refine ag_iload dd_Chooser_offer_109 rfl ?_
        refine ag_iconst dd_Chooser_offer_111 ?_
        refine ag_ishl dd_Chooser_offer_112 ?_
        refine ag_iload_n dd_Chooser_offer_113 rfl ?_
        refine ag_ior dd_Chooser_offer_114 ?_
        obtain ⟨x11, hx11⟩ : ∃ x : Nat, sp_wb S i = (x : Int) := ⟨(sp_wb S i).toNat, by omega⟩
        refine ag_to (b := sp_wb S i * 16 + (i : Int)) (by rw [hx11]; exact key4 (by omega) hi16) ?_
        refine ag_aload_n dd_Chooser_offer_115 rfl ?_
        refine ag_get dd_Chooser_offer_116 fg_Chooser_24 (kx_6 hK) rfl ?_
        refine ag_aload_n dd_Chooser_offer_119 rfl ?_
        refine ag_get dd_Chooser_offer_120 fg_Chooser_39 (kx_6 hK) rfl ?_
        have e11_11 : K10.2 11 = K.2 11 := by subst_vars; rfl
        have e7_11 : K10.1 7 = (((K.1 7).toNat : Nat) : Int) := by
          have z : K10.1 7 = K.1 7 := by subst_vars; rfl
          omega
        rw [e7_11]
        refine ag_wS dd_Chooser_offer_123 fi_Chooser_64 (mc_Chooser_insert (d := 1) (by omega) (A := 11) (n := (K.1 7).toNat) (by omega) (kx_a hK (by decide) (by decide)) (fun j hj => by rw [e11_11]; have := hrow j (by omega); omega) (x := (sp_wb S i * 16 + (i : Int))) (by omega)) rfl rfl (by omega) (Nat.le_of_ble_eq_true rfl) (fun r1 h hP => ?_)
        obtain ⟨rfl, f11, q11, hu11, hi11⟩ := hP
        rw [e11_11] at hi11
        replace hK := kc_ua hK (by decide) hu11
        obtain ⟨K11, eK11⟩ : ∃ x : ms_T, x = (K10.1, ai_up K10.2 11 f11) := ⟨_, rfl⟩
        rw [← eK11] at hK
        refine ag_aload_n dd_Chooser_offer_126 rfl ?_
        refine ag_dup dd_Chooser_offer_127 rfl ?_
        refine ag_get dd_Chooser_offer_128 fg_Chooser_36 (kx_6 hK) rfl ?_
        refine ag_iconst dd_Chooser_offer_131 ?_
        refine ag_iload_n dd_Chooser_offer_132 rfl ?_
        refine ag_ishl dd_Chooser_offer_133 ?_
        refine ag_ior dd_Chooser_offer_134 ?_
        obtain ⟨c6, hc6⟩ : ∃ x : Nat, K.1 6 = (x : Int) := ⟨(K.1 6).toNat, by omega⟩
        have e6 : K11.1 6 = K.1 6 := by subst_vars; rfl
        refine ag_to (b := (((K.1 6).toNat ||| 2 ^ i : Nat) : Int)) (by rw [e6, hc6, Int.toNat_natCast]; exact or_bit (by omega) hi16) ?_
        refine kp_6 dd_Chooser_offer_135 fp_Chooser_36 hK (fun h K12 eK12 hK => ?_)
        refine ag_aload_n dd_Chooser_offer_138 rfl ?_
        refine ag_dup dd_Chooser_offer_139 rfl ?_
        refine ag_get dd_Chooser_offer_140 fg_Chooser_39 (kx_6 hK) rfl ?_
        refine ag_iconst dd_Chooser_offer_143 ?_
        refine ag_iadd dd_Chooser_offer_144 ?_
        refine kp_7 dd_Chooser_offer_145 fp_Chooser_39 hK (fun h K13 eK13 hK => ?_)
        refine ag_vret dd_Chooser_offer_148 rfl ?_
        refine ⟨rfl, _, hK, Or.inr ⟨fun z => ?_, f10, f11, q10, q11, hi10, hi11, ?_⟩⟩
        · rcases z with z | z
          · exact absurd z (by assumption)
          · omega
        · subst_vars
          rfl
      · exfalso; omega
