set_option maxHeartbeats 1000000 in
theorem mc_M_isIn {w : aw_T} {h : ah_T} {d : Nat} {a b c : Int} (ha : -2147483648 ≤ a ∧ a < 2147483648) (hb : -2147483648 ≤ b ∧ b < 2147483648) (hc : -2147483648 ≤ c ∧ c < 2147483648) : am_M w mm_M_isIn d [av_i a, av_i b, av_i c] h 0 0 (fun r h' => r = some (av_i (if b ≤ a ∧ a ≤ c then 1 else 0)) ∧ h' = h) := by
  refine am_intro [some (av_i (a)), some (av_i (b)), some (av_i (c))] (by decide +kernel) (Nat.le_of_ble_eq_true rfl) rfl ?_
  refine ag_iload_n dd_M_isIn_0 rfl ?_
  refine ag_iload_n dd_M_isIn_1 rfl ?_
  refine ag_icmp_lt (tgt := 14) dd_M_isIn_2 (by decide) (by omega) (by omega) (fun c1 => ?_) (fun c1 => ?_)
  · refine ag_iconst dd_M_isIn_14 ?_
    refine ag_zret dd_M_isIn_15 rfl (by first | exact Or.inl rfl | exact Or.inr rfl | omega) ?_
    exact ⟨by first | rw [if_pos (by omega)] | rw [if_neg (by omega)], rfl⟩
  · refine ag_iload_n dd_M_isIn_5 rfl ?_
    refine ag_iload_n dd_M_isIn_6 rfl ?_
    refine ag_icmp_gt (tgt := 14) dd_M_isIn_7 (by decide) (by omega) (by omega) (fun c2 => ?_) (fun c2 => ?_)
    · refine ag_iconst dd_M_isIn_14 ?_
      refine ag_zret dd_M_isIn_15 rfl (by first | exact Or.inl rfl | exact Or.inr rfl | omega) ?_
      exact ⟨by first | rw [if_pos (by omega)] | rw [if_neg (by omega)], rfl⟩
    · refine ag_iconst dd_M_isIn_10 ?_
      refine ag_goto (tgt := 15) dd_M_isIn_11 (by decide) ?_
      refine ag_zret dd_M_isIn_15 rfl (by first | exact Or.inl rfl | exact Or.inr rfl | omega) ?_
      exact ⟨by first | rw [if_pos (by omega)] | rw [if_neg (by omega)], rfl⟩
set_option maxHeartbeats 1000000 in
theorem mc_M_isField {w : aw_T} {h0 h : ah_T} {S : ms_T} {d : Nat} (hd : 1 ≤ d) (hM : mo_I h0 h S) {a : Int} (ha : -2147483648 ≤ a ∧ a < 2147483648) (hf : 0 ≤ S.1 2 ∧ S.1 2 ≤ 16) : am_M w mm_M_isField d [av_r 38, av_i a] h 0 0 (fun r h' => r = some (av_i (if 0 ≤ a ∧ a < S.1 2 then 1 else 0)) ∧ h' = h) := by
  refine am_intro [some (av_r 38), some (av_i (a))] (by decide +kernel) (Nat.le_of_ble_eq_true rfl) rfl ?_
  refine ag_iload_n dd_M_isField_0 rfl ?_
  refine ag_iconst dd_M_isField_1 ?_
  refine ag_aload_n dd_M_isField_2 rfl ?_
  refine ag_get dd_M_isField_3 fg_M_152 (mr_38 hM) rfl ?_
  refine ag_iconst dd_M_isField_6 ?_
  refine ag_isub dd_M_isField_7 ?_
  refine ag_rS dd_M_isField_8 fi_M_155 (mc_M_isIn (d := 0) (by omega) (by omega) (by omega)) rfl rfl (by omega) (Nat.le_of_ble_eq_true rfl) ?_
  refine ag_zret dd_M_isField_11 rfl (by by_cases q : 0 ≤ a ∧ a ≤ S.1 2 - 1 <;> simp [q]) ?_
  refine ⟨?_, rfl⟩
  congr 2
  by_cases q : 0 ≤ a ∧ a < S.1 2
  · rw [if_pos (by omega), if_pos q]
  · rw [if_neg (by omega), if_neg q]
set_option maxHeartbeats 1000000 in
theorem mc_M_isHour {w : aw_T} {h0 h : ah_T} {S : ms_T} {d : Nat} (hd : 0 ≤ d) (hM : mo_I h0 h S) (hc : -2147483648 ≤ S.1 0 ∧ S.1 0 < 2147483648) : am_M w mm_M_isHour d [av_r 38] h 0 0 (fun r h' => r = some (av_i (if 0 < S.1 0 then 1 else 0)) ∧ h' = h) := by
  refine am_intro [some (av_r 38)] (by decide +kernel) (Nat.le_of_ble_eq_true rfl) rfl ?_
  refine ag_aload_n dd_M_isHour_0 rfl ?_
  refine ag_get dd_M_isHour_1 fg_M_159 (mr_38 hM) rfl ?_
  refine ag_if_le (tgt := 11) dd_M_isHour_4 (by decide) (by omega) (fun c1 => ?_) (fun c1 => ?_)
  · refine ag_iconst dd_M_isHour_11 ?_
    refine ag_zret dd_M_isHour_12 rfl (by first | exact Or.inl rfl | exact Or.inr rfl | omega) ?_
    exact ⟨by first | rw [if_pos (by omega)] | rw [if_neg (by omega)], rfl⟩
  · refine ag_iconst dd_M_isHour_7 ?_
    refine ag_goto (tgt := 12) dd_M_isHour_8 (by decide) ?_
    refine ag_zret dd_M_isHour_12 rfl (by first | exact Or.inl rfl | exact Or.inr rfl | omega) ?_
    exact ⟨by first | rw [if_pos (by omega)] | rw [if_neg (by omega)], rfl⟩
def mo_P (h0 : ah_T) (q : Option av_T × ms_T) : ap_T := fun r h' => r = q.1 ∧ mo_I h0 h' q.2
/-- what rules does -/
def sp_rules (S : ms_T) (a b c d : Int) : Option av_T × ms_T := if (1 ≤ a ∧ a ≤ 9) ∧ (1 ≤ b ∧ b ≤ 20) ∧ (1 ≤ c ∧ c ≤ 9) ∧ (1 ≤ d ∧ d ≤ 100) ∧ ¬ 0 < S.1 0 then (some (av_i 1), (ai_up (ai_up (ai_up (ai_up S.1 4 a) 5 b) 6 c) 7 d, S.2)) else (some (av_i 0), S)
def sp_farm (S : ms_T) : Option av_T × ms_T := if S.1 1 = 10 then (some (av_i (-1)), S) else (some (av_i (S.1 1)), (ai_up S.1 1 (S.1 1 + 1), S.2))
set_option maxHeartbeats 1000000 in
theorem mc_M_rules {w : aw_T} {h0 h : ah_T} {S : ms_T} {d : Nat} (hd : 1 ≤ d) (hM : mo_I h0 h S) {a : Int} (ha : -2147483648 ≤ a ∧ a < 2147483648) {b : Int} (hb : -2147483648 ≤ b ∧ b < 2147483648) {c : Int} (hc : -2147483648 ≤ c ∧ c < 2147483648) {e : Int} (he : -2147483648 ≤ e ∧ e < 2147483648) (hc : 0 ≤ S.1 0 ∧ S.1 0 ≤ 4000) : am_M w mm_M_rules d [av_r 38, av_i a, av_i b, av_i c, av_i e] h 0 0 (mo_P h0 (sp_rules S a b c e)) := by
  refine am_intro [some (av_r 38), some (av_i (a)), some (av_i (b)), some (av_i (c)), some (av_i (e))] (by decide +kernel) (Nat.le_of_ble_eq_true rfl) rfl ?_
  refine ag_iload_n dd_M_rules_0 rfl ?_
  refine ag_iconst dd_M_rules_1 ?_
  refine ag_bipush dd_M_rules_2 (by decide +kernel) ?_
  refine ag_rS dd_M_rules_4 fi_M_155 (mc_M_isIn (d := 0) (by omega) (by omega) (by omega)) rfl rfl (by omega) (Nat.le_of_ble_eq_true rfl) ?_
  refine ag_if_eqB (tgt := 48) dd_M_rules_7 (by decide) (fun c1 => ?_) (fun c1 => ?_)
  · refine ag_iconst dd_M_rules_48 ?_
    refine ag_zret dd_M_rules_49 rfl (by first | exact Or.inl rfl | exact Or.inr rfl | omega) ?_
    unfold sp_rules
    first | rw [if_pos (by omega)] | rw [if_neg (by omega)]
    subst_vars
    exact ⟨rfl, hM⟩
  · refine ag_iload_n dd_M_rules_10 rfl ?_
    refine ag_iconst dd_M_rules_11 ?_
    refine ag_bipush dd_M_rules_12 (by decide +kernel) ?_
    refine ag_rS dd_M_rules_14 fi_M_155 (mc_M_isIn (d := 0) (by omega) (by omega) (by omega)) rfl rfl (by omega) (Nat.le_of_ble_eq_true rfl) ?_
    refine ag_if_eqB (tgt := 48) dd_M_rules_17 (by decide) (fun c2 => ?_) (fun c2 => ?_)
    · refine ag_iconst dd_M_rules_48 ?_
      refine ag_zret dd_M_rules_49 rfl (by first | exact Or.inl rfl | exact Or.inr rfl | omega) ?_
      unfold sp_rules
      first | rw [if_pos (by omega)] | rw [if_neg (by omega)]
      subst_vars
      exact ⟨rfl, hM⟩
    · refine ag_iload_n dd_M_rules_20 rfl ?_
      refine ag_iconst dd_M_rules_21 ?_
      refine ag_bipush dd_M_rules_22 (by decide +kernel) ?_
      refine ag_rS dd_M_rules_24 fi_M_155 (mc_M_isIn (d := 0) (by omega) (by omega) (by omega)) rfl rfl (by omega) (Nat.le_of_ble_eq_true rfl) ?_
      refine ag_if_eqB (tgt := 48) dd_M_rules_27 (by decide) (fun c3 => ?_) (fun c3 => ?_)
      · refine ag_iconst dd_M_rules_48 ?_
        refine ag_zret dd_M_rules_49 rfl (by first | exact Or.inl rfl | exact Or.inr rfl | omega) ?_
        unfold sp_rules
        first | rw [if_pos (by omega)] | rw [if_neg (by omega)]
        subst_vars
        exact ⟨rfl, hM⟩
      · refine ag_iload dd_M_rules_30 rfl ?_
        refine ag_iconst dd_M_rules_32 ?_
        refine ag_bipush dd_M_rules_33 (by decide +kernel) ?_
        refine ag_rS dd_M_rules_35 fi_M_155 (mc_M_isIn (d := 0) (by omega) (by omega) (by omega)) rfl rfl (by omega) (Nat.le_of_ble_eq_true rfl) ?_
        refine ag_if_eqB (tgt := 48) dd_M_rules_38 (by decide) (fun c4 => ?_) (fun c4 => ?_)
        · refine ag_iconst dd_M_rules_48 ?_
          refine ag_zret dd_M_rules_49 rfl (by first | exact Or.inl rfl | exact Or.inr rfl | omega) ?_
          unfold sp_rules
          first | rw [if_pos (by omega)] | rw [if_neg (by omega)]
          subst_vars
          exact ⟨rfl, hM⟩
        · refine ag_aload_n dd_M_rules_41 rfl ?_
          refine ag_rV dd_M_rules_42 fi_M_162 (mr_38 hM) rfl (mc_M_isHour (d := 0) (by omega) hM (by omega)) rfl rfl (by omega) (Nat.le_of_ble_eq_true rfl) ?_
          refine ag_if_eqB (tgt := 50) dd_M_rules_45 (by decide) (fun c5 => ?_) (fun c5 => ?_)
          · refine ag_aload_n dd_M_rules_50 rfl ?_
            refine ag_iload_n dd_M_rules_51 rfl ?_
            refine mp_4 dd_M_rules_52 fp_M_7 hM (fun h S6 eS6 hM => ?_)
            refine ag_aload_n dd_M_rules_55 rfl ?_
            refine ag_iload_n dd_M_rules_56 rfl ?_
            refine mp_5 dd_M_rules_57 fp_M_13 hM (fun h S7 eS7 hM => ?_)
            refine ag_aload_n dd_M_rules_60 rfl ?_
            refine ag_iload_n dd_M_rules_61 rfl ?_
            refine mp_6 dd_M_rules_62 fp_M_16 hM (fun h S8 eS8 hM => ?_)
            refine ag_aload_n dd_M_rules_65 rfl ?_
            refine ag_iload dd_M_rules_66 rfl ?_
            refine mp_7 dd_M_rules_68 fp_M_19 hM (fun h S9 eS9 hM => ?_)
            refine ag_iconst dd_M_rules_71 ?_
            refine ag_zret dd_M_rules_72 rfl (by first | exact Or.inl rfl | exact Or.inr rfl | omega) ?_
            unfold sp_rules
            first | rw [if_pos (by omega)] | rw [if_neg (by omega)]
            subst_vars
            exact ⟨rfl, hM⟩
          · refine ag_iconst dd_M_rules_48 ?_
            refine ag_zret dd_M_rules_49 rfl (by first | exact Or.inl rfl | exact Or.inr rfl | omega) ?_
            unfold sp_rules
            first | rw [if_pos (by omega)] | rw [if_neg (by omega)]
            subst_vars
            exact ⟨rfl, hM⟩
set_option maxHeartbeats 1000000 in
theorem mc_M_farm {w : aw_T} {h0 h : ah_T} {S : ms_T} {d : Nat} (hd : 0 ≤ d) (hM : mo_I h0 h S) (hf : 0 ≤ S.1 1 ∧ S.1 1 ≤ 10) : am_M w mm_M_farm d [av_r 38] h 0 0 (mo_P h0 (sp_farm S)) := by
  refine am_intro [some (av_r 38)] (by decide +kernel) (Nat.le_of_ble_eq_true rfl) rfl ?_
  refine ag_aload_n dd_M_farm_0 rfl ?_
  refine ag_get dd_M_farm_1 fg_M_166 (mr_38 hM) rfl ?_
  refine ag_bipush dd_M_farm_4 (by decide +kernel) ?_
  refine ag_icmp_ne (tgt := 11) dd_M_farm_6 (by decide) (by omega) (by omega) (fun c1 => ?_) (fun c1 => ?_)
  · refine ag_aload_n dd_M_farm_11 rfl ?_
    refine ag_dup dd_M_farm_12 rfl ?_
    refine ag_get dd_M_farm_13 fg_M_166 (mr_38 hM) rfl ?_
    refine ag_iconst dd_M_farm_16 ?_
    refine ag_iadd dd_M_farm_17 ?_
    refine mp_1 dd_M_farm_18 fp_M_166 hM (fun h S2 eS2 hM => ?_)
    refine ag_aload_n dd_M_farm_21 rfl ?_
    refine ag_get dd_M_farm_22 fg_M_166 (mr_38 hM) rfl ?_
    refine ag_iconst dd_M_farm_25 ?_
    refine ag_isub dd_M_farm_26 ?_
    refine ag_iret dd_M_farm_27 rfl ?_
    unfold sp_farm
    first | rw [if_pos (by omega)] | rw [if_neg (by omega)]
    subst_vars
    refine ⟨?_, hM⟩
    show some (av_i (ai_up S.1 1 (S.1 1 + 1) 1 - 1)) = some (av_i (S.1 1))
    rw [ai_up_s]
    congr 2
    omega
  · refine ag_iconst dd_M_farm_9 ?_
    refine ag_iret dd_M_farm_10 rfl ?_
    unfold sp_farm
    first | rw [if_pos (by omega)] | rw [if_neg (by omega)]
    subst_vars
    exact ⟨rfl, hM⟩
def sp_field (S : ms_T) (a b c e f g : Int) : Option av_T × ms_T := if (0 ≤ a ∧ a < S.1 1) ∧ (1 ≤ b ∧ b ≤ 200) ∧ (0 ≤ c ∧ c ≤ 60) ∧ (1 ≤ e ∧ e ≤ 30) ∧ (0 ≤ f ∧ f ≤ 4000) ∧ (1 ≤ g ∧ g ≤ 100) ∧ S.1 2 < 16 then
    (some (av_i (S.1 2)), (ai_up S.1 2 (S.1 2 + 1), ai_up (ai_up (ai_up (ai_up (ai_up (ai_up (ai_up (ai_up S.2 40 (ai_up (S.2 40) (S.1 2).toNat a)) 41 (ai_up (S.2 41) (S.1 2).toNat b)) 42 (ai_up (S.2 42) (S.1 2).toNat c)) 43 (ai_up (S.2 43) (S.1 2).toNat e)) 44 (ai_up (S.2 44) (S.1 2).toNat f)) 45 (ai_up (S.2 45) (S.1 2).toNat g)) 49 (ai_up (S.2 49) (S.1 2).toNat (-1))) 51 (ai_up (S.2 51) (S.1 2).toNat (-1))))
  else (some (av_i (-1)), S)
set_option maxHeartbeats 1000000 in
theorem mc_M_field {w : aw_T} {h0 h : ah_T} {S : ms_T} {d : Nat} (hd : 1 ≤ d) (hM : mo_I h0 h S) {a : Int} (ha : -2147483648 ≤ a ∧ a < 2147483648) {b : Int} (hb : -2147483648 ≤ b ∧ b < 2147483648) {c : Int} (hc : -2147483648 ≤ c ∧ c < 2147483648) {e : Int} (he : -2147483648 ≤ e ∧ e < 2147483648) {f : Int} (hf : -2147483648 ≤ f ∧ f < 2147483648) {g : Int} (hg : -2147483648 ≤ g ∧ g < 2147483648) (hfm : 0 ≤ S.1 1 ∧ S.1 1 ≤ 10) (hfl : 0 ≤ S.1 2 ∧ S.1 2 ≤ 16) : am_M w mm_M_field d [av_r 38, av_i a, av_i b, av_i c, av_i e, av_i f, av_i g] h 0 0 (mo_P h0 (sp_field S a b c e f g)) := by
  refine am_intro [some (av_r 38), some (av_i (a)), some (av_i (b)), some (av_i (c)), some (av_i (e)), some (av_i (f)), some (av_i (g)), none] (by decide +kernel) (Nat.le_of_ble_eq_true rfl) rfl ?_
  refine ag_iload_n dd_M_field_0 rfl ?_
  refine ag_iconst dd_M_field_1 ?_
  refine ag_aload_n dd_M_field_2 rfl ?_
  refine ag_get dd_M_field_3 fg_M_166 (mr_38 hM) rfl ?_
  refine ag_iconst dd_M_field_6 ?_
  refine ag_isub dd_M_field_7 ?_
  refine ag_rS dd_M_field_8 fi_M_155 (mc_M_isIn (d := 0) (by omega) (by omega) (by omega)) rfl rfl (by omega) (Nat.le_of_ble_eq_true rfl) ?_
  refine ag_if_eqB (tgt := 46) dd_M_field_11 (by decide) (fun c1 => ?_) (fun c1 => ?_)
  · refine ag_iconst dd_M_field_46 ?_
    refine ag_goto (tgt := 51) dd_M_field_47 (by decide) ?_
    refine ag_istore (L' := [some (av_r 38), some (av_i (a)), some (av_i (b)), some (av_i (c)), some (av_i (e)), some (av_i (f)), some (av_i (g)), some (av_i (1))]) dd_M_field_51 rfl rfl (by decide) ?_
    refine ag_iload dd_M_field_53 rfl ?_
    refine ag_if_ne (tgt := 90) dd_M_field_55 (by decide) (by omega) (fun c2 => ?_) (fun c2 => ?_)
    · refine ag_iconst dd_M_field_90 ?_
      refine ag_iret dd_M_field_91 rfl ?_
      unfold sp_field
      first | rw [if_pos (by omega)] | rw [if_neg (by omega)]
      subst_vars
      exact ⟨rfl, hM⟩
    · exfalso; omega
  · refine ag_iload_n dd_M_field_14 rfl ?_
    refine ag_iconst dd_M_field_15 ?_
    refine ag_sipush dd_M_field_16 (by decide +kernel) ?_
    refine ag_rS dd_M_field_19 fi_M_155 (mc_M_isIn (d := 0) (by omega) (by omega) (by omega)) rfl rfl (by omega) (Nat.le_of_ble_eq_true rfl) ?_
    refine ag_if_eqB (tgt := 46) dd_M_field_22 (by decide) (fun c3 => ?_) (fun c3 => ?_)
    · refine ag_iconst dd_M_field_46 ?_
      refine ag_goto (tgt := 51) dd_M_field_47 (by decide) ?_
      refine ag_istore (L' := [some (av_r 38), some (av_i (a)), some (av_i (b)), some (av_i (c)), some (av_i (e)), some (av_i (f)), some (av_i (g)), some (av_i (1))]) dd_M_field_51 rfl rfl (by decide) ?_
      refine ag_iload dd_M_field_53 rfl ?_
      refine ag_if_ne (tgt := 90) dd_M_field_55 (by decide) (by omega) (fun c4 => ?_) (fun c4 => ?_)
      · refine ag_iconst dd_M_field_90 ?_
        refine ag_iret dd_M_field_91 rfl ?_
        unfold sp_field
        first | rw [if_pos (by omega)] | rw [if_neg (by omega)]
        subst_vars
        exact ⟨rfl, hM⟩
      · exfalso; omega
    · refine ag_iload_n dd_M_field_25 rfl ?_
      refine ag_iconst dd_M_field_26 ?_
      refine ag_bipush dd_M_field_27 (by decide +kernel) ?_
      refine ag_rS dd_M_field_29 fi_M_155 (mc_M_isIn (d := 0) (by omega) (by omega) (by omega)) rfl rfl (by omega) (Nat.le_of_ble_eq_true rfl) ?_
      refine ag_if_eqB (tgt := 46) dd_M_field_32 (by decide) (fun c5 => ?_) (fun c5 => ?_)
      · refine ag_iconst dd_M_field_46 ?_
        refine ag_goto (tgt := 51) dd_M_field_47 (by decide) ?_
        refine ag_istore (L' := [some (av_r 38), some (av_i (a)), some (av_i (b)), some (av_i (c)), some (av_i (e)), some (av_i (f)), some (av_i (g)), some (av_i (1))]) dd_M_field_51 rfl rfl (by decide) ?_
        refine ag_iload dd_M_field_53 rfl ?_
        refine ag_if_ne (tgt := 90) dd_M_field_55 (by decide) (by omega) (fun c6 => ?_) (fun c6 => ?_)
        · refine ag_iconst dd_M_field_90 ?_
          refine ag_iret dd_M_field_91 rfl ?_
          unfold sp_field
          first | rw [if_pos (by omega)] | rw [if_neg (by omega)]
          subst_vars
          exact ⟨rfl, hM⟩
        · exfalso; omega
      · refine ag_iload dd_M_field_35 rfl ?_
        refine ag_iconst dd_M_field_37 ?_
        refine ag_bipush dd_M_field_38 (by decide +kernel) ?_
        refine ag_rS dd_M_field_40 fi_M_155 (mc_M_isIn (d := 0) (by omega) (by omega) (by omega)) rfl rfl (by omega) (Nat.le_of_ble_eq_true rfl) ?_
        refine ag_if_neB (tgt := 50) dd_M_field_43 (by decide) (fun c7 => ?_) (fun c7 => ?_)
        · refine ag_iconst dd_M_field_50 ?_
          refine ag_istore (L' := [some (av_r 38), some (av_i (a)), some (av_i (b)), some (av_i (c)), some (av_i (e)), some (av_i (f)), some (av_i (g)), some (av_i (0))]) dd_M_field_51 rfl rfl (by decide) ?_
          refine ag_iload dd_M_field_53 rfl ?_
          refine ag_if_ne (tgt := 90) dd_M_field_55 (by decide) (by omega) (fun c8 => ?_) (fun c8 => ?_)
          · exfalso; omega
          · refine ag_iload dd_M_field_58 rfl ?_
            refine ag_iconst dd_M_field_60 ?_
            refine ag_sipush dd_M_field_61 (by decide +kernel) ?_
            refine ag_rS dd_M_field_64 fi_M_155 (mc_M_isIn (d := 0) (by omega) (by omega) (by omega)) rfl rfl (by omega) (Nat.le_of_ble_eq_true rfl) ?_
            refine ag_if_eqB (tgt := 90) dd_M_field_67 (by decide) (fun c9 => ?_) (fun c9 => ?_)
            · refine ag_iconst dd_M_field_90 ?_
              refine ag_iret dd_M_field_91 rfl ?_
              unfold sp_field
              first | rw [if_pos (by omega)] | rw [if_neg (by omega)]
              subst_vars
              exact ⟨rfl, hM⟩
            · refine ag_iload dd_M_field_70 rfl ?_
              refine ag_iconst dd_M_field_72 ?_
              refine ag_bipush dd_M_field_73 (by decide +kernel) ?_
              refine ag_rS dd_M_field_75 fi_M_155 (mc_M_isIn (d := 0) (by omega) (by omega) (by omega)) rfl rfl (by omega) (Nat.le_of_ble_eq_true rfl) ?_
              refine ag_if_eqB (tgt := 90) dd_M_field_78 (by decide) (fun c10 => ?_) (fun c10 => ?_)
              · refine ag_iconst dd_M_field_90 ?_
                refine ag_iret dd_M_field_91 rfl ?_
                unfold sp_field
                first | rw [if_pos (by omega)] | rw [if_neg (by omega)]
                subst_vars
                exact ⟨rfl, hM⟩
              · refine ag_aload_n dd_M_field_81 rfl ?_
                refine ag_get dd_M_field_82 fg_M_152 (mr_38 hM) rfl ?_
                refine ag_bipush dd_M_field_85 (by decide +kernel) ?_
                refine ag_icmp_ne (tgt := 92) dd_M_field_87 (by decide) (by omega) (by omega) (fun c11 => ?_) (fun c11 => ?_)
                · refine ag_aload_n dd_M_field_92 rfl ?_
                  refine ag_get dd_M_field_93 fg_M_26 (mr_38 hM) rfl ?_
                  refine ag_aload_n dd_M_field_96 rfl ?_
                  refine ag_get dd_M_field_97 fg_M_152 (mr_38 hM) rfl ?_
                  refine ag_iload_n dd_M_field_100 rfl ?_
                  refine ms_40 dd_M_field_101 hM (by (subst_vars; (try dsimp only); omega)) (fun h S12 eS12 hM => ?_)
                  refine ag_aload_n dd_M_field_102 rfl ?_
                  refine ag_get dd_M_field_103 fg_M_30 (mr_38 hM) rfl ?_
                  refine ag_aload_n dd_M_field_106 rfl ?_
                  refine ag_get dd_M_field_107 fg_M_152 (mr_38 hM) rfl ?_
                  refine ag_iload_n dd_M_field_110 rfl ?_
                  refine ms_41 dd_M_field_111 hM (by (subst_vars; (try dsimp only); omega)) (fun h S13 eS13 hM => ?_)
                  refine ag_aload_n dd_M_field_112 rfl ?_
                  refine ag_get dd_M_field_113 fg_M_33 (mr_38 hM) rfl ?_
                  refine ag_aload_n dd_M_field_116 rfl ?_
                  refine ag_get dd_M_field_117 fg_M_152 (mr_38 hM) rfl ?_
                  refine ag_iload_n dd_M_field_120 rfl ?_
                  refine ms_42 dd_M_field_121 hM (by (subst_vars; (try dsimp only); omega)) (fun h S14 eS14 hM => ?_)
                  refine ag_aload_n dd_M_field_122 rfl ?_
                  refine ag_get dd_M_field_123 fg_M_36 (mr_38 hM) rfl ?_
                  refine ag_aload_n dd_M_field_126 rfl ?_
                  refine ag_get dd_M_field_127 fg_M_152 (mr_38 hM) rfl ?_
                  refine ag_iload dd_M_field_130 rfl ?_
                  refine ms_43 dd_M_field_132 hM (by (subst_vars; (try dsimp only); omega)) (fun h S15 eS15 hM => ?_)
                  refine ag_aload_n dd_M_field_133 rfl ?_
                  refine ag_get dd_M_field_134 fg_M_39 (mr_38 hM) rfl ?_
                  refine ag_aload_n dd_M_field_137 rfl ?_
                  refine ag_get dd_M_field_138 fg_M_152 (mr_38 hM) rfl ?_
                  refine ag_iload dd_M_field_141 rfl ?_
                  refine ms_44 dd_M_field_143 hM (by (subst_vars; (try dsimp only); omega)) (fun h S16 eS16 hM => ?_)
                  refine ag_aload_n dd_M_field_144 rfl ?_
                  refine ag_get dd_M_field_145 fg_M_42 (mr_38 hM) rfl ?_
                  refine ag_aload_n dd_M_field_148 rfl ?_
                  refine ag_get dd_M_field_149 fg_M_152 (mr_38 hM) rfl ?_
                  refine ag_iload dd_M_field_152 rfl ?_
                  refine ms_45 dd_M_field_154 hM (by (subst_vars; (try dsimp only); omega)) (fun h S17 eS17 hM => ?_)
                  refine ag_aload_n dd_M_field_155 rfl ?_
                  refine ag_get dd_M_field_156 fg_M_54 (mr_38 hM) rfl ?_
                  refine ag_aload_n dd_M_field_159 rfl ?_
                  refine ag_get dd_M_field_160 fg_M_152 (mr_38 hM) rfl ?_
                  refine ag_iconst dd_M_field_163 ?_
                  refine ms_49 dd_M_field_164 hM (by (subst_vars; (try dsimp only); omega)) (fun h S18 eS18 hM => ?_)
                  refine ag_aload_n dd_M_field_165 rfl ?_
                  refine ag_get dd_M_field_166 fg_M_60 (mr_38 hM) rfl ?_
                  refine ag_aload_n dd_M_field_169 rfl ?_
                  refine ag_get dd_M_field_170 fg_M_152 (mr_38 hM) rfl ?_
                  refine ag_iconst dd_M_field_173 ?_
                  refine ms_51 dd_M_field_174 hM (by (subst_vars; (try dsimp only); omega)) (fun h S19 eS19 hM => ?_)
                  refine ag_aload_n dd_M_field_175 rfl ?_
                  refine ag_dup dd_M_field_176 rfl ?_
                  refine ag_get dd_M_field_177 fg_M_152 (mr_38 hM) rfl ?_
                  refine ag_iconst dd_M_field_180 ?_
                  refine ag_iadd dd_M_field_181 ?_
                  refine mp_2 dd_M_field_182 fp_M_152 hM (fun h S20 eS20 hM => ?_)
                  refine ag_aload_n dd_M_field_185 rfl ?_
                  refine ag_get dd_M_field_186 fg_M_152 (mr_38 hM) rfl ?_
                  refine ag_iconst dd_M_field_189 ?_
                  refine ag_isub dd_M_field_190 ?_
                  refine ag_iret dd_M_field_191 rfl ?_
                  unfold sp_field
                  first | rw [if_pos (by omega)] | rw [if_neg (by omega)]
                  subst_vars
                  refine ⟨?_, hM⟩
                  show some (av_i (ai_up S.1 2 (S.1 2 + 1) 2 - 1)) = some (av_i (S.1 2))
                  rw [ai_up_s]
                  congr 2
                  omega
                · refine ag_iconst dd_M_field_90 ?_
                  refine ag_iret dd_M_field_91 rfl ?_
                  unfold sp_field
                  first | rw [if_pos (by omega)] | rw [if_neg (by omega)]
                  subst_vars
                  exact ⟨rfl, hM⟩
        · refine ag_iconst dd_M_field_46 ?_
          refine ag_goto (tgt := 51) dd_M_field_47 (by decide) ?_
          refine ag_istore (L' := [some (av_r 38), some (av_i (a)), some (av_i (b)), some (av_i (c)), some (av_i (e)), some (av_i (f)), some (av_i (g)), some (av_i (1))]) dd_M_field_51 rfl rfl (by decide) ?_
          refine ag_iload dd_M_field_53 rfl ?_
          refine ag_if_ne (tgt := 90) dd_M_field_55 (by decide) (by omega) (fun c21 => ?_) (fun c21 => ?_)
          · refine ag_iconst dd_M_field_90 ?_
            refine ag_iret dd_M_field_91 rfl ?_
            unfold sp_field
            first | rw [if_pos (by omega)] | rw [if_neg (by omega)]
            subst_vars
            exact ⟨rfl, hM⟩
          · exfalso; omega
def sp_weather (S : ms_T) (z a b : Int) : Option av_T × ms_T := if (S.1 0 ≤ a ∧ a ≤ 4000) ∧ (a < b ∧ b ≤ 4000) ∧ S.1 21 < 20 then
    (some (av_i 1), (ai_up S.1 21 (S.1 21 + 1), ai_up (ai_up (ai_up S.2 52 (ai_up (S.2 52) (S.1 21).toNat z)) 53 (ai_up (S.2 53) (S.1 21).toNat a)) 54 (ai_up (S.2 54) (S.1 21).toNat b)))
  else (some (av_i 0), S)
set_option maxHeartbeats 1000000 in
theorem mc_M_weather {w : aw_T} {h0 h : ah_T} {S : ms_T} {d : Nat} (hd : 1 ≤ d) (hM : mo_I h0 h S) {z : Int} (hz : z = 0 ∨ z = 1) {a : Int} (ha : -2147483648 ≤ a ∧ a < 2147483648) {b : Int} (hb : -2147483648 ≤ b ∧ b < 2147483648) (hc : 0 ≤ S.1 0 ∧ S.1 0 ≤ 4000) (hw : 0 ≤ S.1 21 ∧ S.1 21 ≤ 20) : am_M w mm_M_weather d [av_r 38, av_i z, av_i a, av_i b] h 0 0 (mo_P h0 (sp_weather S z a b)) := by
  refine am_intro [some (av_r 38), some (av_i (z)), some (av_i (a)), some (av_i (b))] (by decide +kernel) (Nat.le_of_ble_eq_true rfl) rfl ?_
  refine ag_iload_n dd_M_weather_0 rfl ?_
  refine ag_aload_n dd_M_weather_1 rfl ?_
  refine ag_get dd_M_weather_2 fg_M_159 (mr_38 hM) rfl ?_
  refine ag_sipush dd_M_weather_5 (by decide +kernel) ?_
  refine ag_rS dd_M_weather_8 fi_M_155 (mc_M_isIn (d := 0) (by omega) (by omega) (by omega)) rfl rfl (by omega) (Nat.le_of_ble_eq_true rfl) ?_
  refine ag_if_eqB (tgt := 36) dd_M_weather_11 (by decide) (fun c1 => ?_) (fun c1 => ?_)
  · refine ag_iconst dd_M_weather_36 ?_
    refine ag_zret dd_M_weather_37 rfl (by first | exact Or.inl rfl | exact Or.inr rfl | omega) ?_
    unfold sp_weather
    first | rw [if_pos (by omega)] | rw [if_neg (by omega)]
    subst_vars
    exact ⟨rfl, hM⟩
  · refine ag_iload_n dd_M_weather_14 rfl ?_
    refine ag_iload_n dd_M_weather_15 rfl ?_
    refine ag_iconst dd_M_weather_16 ?_
    refine ag_iadd dd_M_weather_17 ?_
    refine ag_sipush dd_M_weather_18 (by decide +kernel) ?_
    refine ag_rS dd_M_weather_21 fi_M_155 (mc_M_isIn (d := 0) (by omega) (by omega) (by omega)) rfl rfl (by omega) (Nat.le_of_ble_eq_true rfl) ?_
    refine ag_if_eqB (tgt := 36) dd_M_weather_24 (by decide) (fun c2 => ?_) (fun c2 => ?_)
    · refine ag_iconst dd_M_weather_36 ?_
      refine ag_zret dd_M_weather_37 rfl (by first | exact Or.inl rfl | exact Or.inr rfl | omega) ?_
      unfold sp_weather
      first | rw [if_pos (by omega)] | rw [if_neg (by omega)]
      subst_vars
      exact ⟨rfl, hM⟩
    · refine ag_aload_n dd_M_weather_27 rfl ?_
      refine ag_get dd_M_weather_28 fg_M_169 (mr_38 hM) rfl ?_
      refine ag_bipush dd_M_weather_31 (by decide +kernel) ?_
      refine ag_icmp_ne (tgt := 38) dd_M_weather_33 (by decide) (by omega) (by omega) (fun c3 => ?_) (fun c3 => ?_)
      · refine ag_aload_n dd_M_weather_38 rfl ?_
        refine ag_get dd_M_weather_39 fg_M_63 (mr_38 hM) rfl ?_
        refine ag_aload_n dd_M_weather_42 rfl ?_
        refine ag_get dd_M_weather_43 fg_M_169 (mr_38 hM) rfl ?_
        refine ag_iload_n dd_M_weather_46 rfl ?_
        refine ms_52 dd_M_weather_47 hM (by (subst_vars; (try dsimp only); omega)) (by exact hz) (fun h S4 eS4 hM => ?_)
        refine ag_aload_n dd_M_weather_48 rfl ?_
        refine ag_get dd_M_weather_49 fg_M_67 (mr_38 hM) rfl ?_
        refine ag_aload_n dd_M_weather_52 rfl ?_
        refine ag_get dd_M_weather_53 fg_M_169 (mr_38 hM) rfl ?_
        refine ag_iload_n dd_M_weather_56 rfl ?_
        refine ms_53 dd_M_weather_57 hM (by (subst_vars; (try dsimp only); omega)) (fun h S5 eS5 hM => ?_)
        refine ag_aload_n dd_M_weather_58 rfl ?_
        refine ag_get dd_M_weather_59 fg_M_70 (mr_38 hM) rfl ?_
        refine ag_aload_n dd_M_weather_62 rfl ?_
        refine ag_get dd_M_weather_63 fg_M_169 (mr_38 hM) rfl ?_
        refine ag_iload_n dd_M_weather_66 rfl ?_
        refine ms_54 dd_M_weather_67 hM (by (subst_vars; (try dsimp only); omega)) (fun h S6 eS6 hM => ?_)
        refine ag_aload_n dd_M_weather_68 rfl ?_
        refine ag_dup dd_M_weather_69 rfl ?_
        refine ag_get dd_M_weather_70 fg_M_169 (mr_38 hM) rfl ?_
        refine ag_iconst dd_M_weather_73 ?_
        refine ag_iadd dd_M_weather_74 ?_
        refine mp_21 dd_M_weather_75 fp_M_169 hM (fun h S7 eS7 hM => ?_)
        refine ag_iconst dd_M_weather_78 ?_
        refine ag_zret dd_M_weather_79 rfl (by first | exact Or.inl rfl | exact Or.inr rfl | omega) ?_
        unfold sp_weather
        first | rw [if_pos (by omega)] | rw [if_neg (by omega)]
        subst_vars
        exact ⟨rfl, hM⟩
      · refine ag_iconst dd_M_weather_36 ?_
        refine ag_zret dd_M_weather_37 rfl (by first | exact Or.inl rfl | exact Or.inr rfl | omega) ?_
        unfold sp_weather
        first | rw [if_pos (by omega)] | rw [if_neg (by omega)]
        subst_vars
        exact ⟨rfl, hM⟩
def sp_hinN (S : ms_T) (z t : Int) : Nat → Nat → Bool
  | 0, _ => false
  | r + 1, i => if S.2 52 i = z ∧ S.2 53 i ≤ t ∧ t < S.2 54 i then true else sp_hinN S z t r (i + 1)
def sp_hin (S : ms_T) (z t : Int) : Bool := sp_hinN S z t (S.1 21).toNat 0
set_option maxHeartbeats 1000000 in
theorem ml_M_isHindered {w : aw_T} {h0 h : ah_T} {S : ms_T} {d : Nat} (hd : 0 ≤ d) (hM : mo_I h0 h S) (hw : 0 ≤ S.1 21 ∧ S.1 21 ≤ 20) (hv : ∀ i : Nat, (i : Int) < S.1 21 → (0 ≤ S.2 52 i ∧ S.2 52 i ≤ 1) ∧ (0 ≤ S.2 53 i ∧ S.2 53 i ≤ 4000) ∧ (0 ≤ S.2 54 i ∧ S.2 54 i ≤ 4000)) {z t : Int} (hz : 0 ≤ z ∧ z ≤ 1) (ht : 0 ≤ t ∧ t ≤ 4000) {P : ap_T} : ∀ (r k : Nat), (k : Int) + r = S.1 21 → P (some (av_i (if sp_hinN S z t r k = true then 1 else 0))) h → aw_W w mm_M_isHindered d P 2 [some (av_r 38), some (av_i (z)), some (av_i (t)), some (av_i ((k : Int)))] [] h 0 0 := by
  intro r
  induction r with
  | zero =>
    intro k hk hP
    refine ag_iload_n dd_M_isHindered_2 rfl ?_
    refine ag_aload_n dd_M_isHindered_3 rfl ?_
    refine ag_get dd_M_isHindered_4 fg_M_169 (mr_38 hM) rfl ?_
    refine ag_icmp_ge (tgt := 48) dd_M_isHindered_7 (by decide) (by omega) (by omega) (fun c1 => ?_) (fun c1 => ?_)
    · refine ag_iconst dd_M_isHindered_48 ?_
      refine ag_zret dd_M_isHindered_49 rfl (by first | exact Or.inl rfl | exact Or.inr rfl | omega) ?_
      exact hP
    · exfalso; omega
  | succ r ih =>
    intro k hk hP
    refine ag_iload_n dd_M_isHindered_2 rfl ?_
    refine ag_aload_n dd_M_isHindered_3 rfl ?_
    refine ag_get dd_M_isHindered_4 fg_M_169 (mr_38 hM) rfl ?_
    refine ag_icmp_ge (tgt := 48) dd_M_isHindered_7 (by decide) (by omega) (by omega) (fun c1 => ?_) (fun c1 => ?_)
    · exfalso; omega
    · have hvk := hv k (by omega)
      refine ag_aload_n dd_M_isHindered_10 rfl ?_
      refine ag_get dd_M_isHindered_11 fg_M_63 (mr_38 hM) rfl ?_
      refine ag_iload_n dd_M_isHindered_14 rfl ?_
      refine ag_zaldN dd_M_isHindered_15 (mr_52 hM) (by decide) (by omega) ?_
      refine ag_iload_n dd_M_isHindered_16 rfl ?_
      refine ag_icmp_ne (tgt := 42) dd_M_isHindered_17 (by decide) (by omega) (by omega) (fun c2 => ?_) (fun c2 => ?_)
      · refine ag_iincN (Lf := fun y => [some (av_r 38), some (av_i (z)), some (av_i (t)), some (av_i (y))]) dd_M_isHindered_42 rfl (fun _ => rfl) rfl (by decide) (fun y3 ey3 => ?_)
        refine ag_goto (tgt := 2) dd_M_isHindered_45 (by decide) ?_
        have eh : sp_hinN S z t (r + 1) k = sp_hinN S z t r (k + 1) := by
          rw [sp_hinN]; exact if_neg (by omega)
        rw [eh] at hP
        obtain rfl : y3 = ((k + 1 : Nat) : Int) := by omega
        exact ih (k + 1) (by omega) hP
      · refine ag_iload_n dd_M_isHindered_20 rfl ?_
        refine ag_aload_n dd_M_isHindered_21 rfl ?_
        refine ag_get dd_M_isHindered_22 fg_M_67 (mr_38 hM) rfl ?_
        refine ag_iload_n dd_M_isHindered_25 rfl ?_
        refine ag_ialdN dd_M_isHindered_26 (mr_53 hM) (by decide) (by omega) ?_
        refine ag_icmp_lt (tgt := 42) dd_M_isHindered_27 (by decide) (by omega) (by omega) (fun c4 => ?_) (fun c4 => ?_)
        · refine ag_iincN (Lf := fun y => [some (av_r 38), some (av_i (z)), some (av_i (t)), some (av_i (y))]) dd_M_isHindered_42 rfl (fun _ => rfl) rfl (by decide) (fun y5 ey5 => ?_)
          refine ag_goto (tgt := 2) dd_M_isHindered_45 (by decide) ?_
          have eh : sp_hinN S z t (r + 1) k = sp_hinN S z t r (k + 1) := by
            rw [sp_hinN]; exact if_neg (by omega)
          rw [eh] at hP
          obtain rfl : y5 = ((k + 1 : Nat) : Int) := by omega
          exact ih (k + 1) (by omega) hP
        · refine ag_iload_n dd_M_isHindered_30 rfl ?_
          refine ag_aload_n dd_M_isHindered_31 rfl ?_
          refine ag_get dd_M_isHindered_32 fg_M_70 (mr_38 hM) rfl ?_
          refine ag_iload_n dd_M_isHindered_35 rfl ?_
          refine ag_ialdN dd_M_isHindered_36 (mr_54 hM) (by decide) (by omega) ?_
          refine ag_icmp_ge (tgt := 42) dd_M_isHindered_37 (by decide) (by omega) (by omega) (fun c6 => ?_) (fun c6 => ?_)
          · refine ag_iincN (Lf := fun y => [some (av_r 38), some (av_i (z)), some (av_i (t)), some (av_i (y))]) dd_M_isHindered_42 rfl (fun _ => rfl) rfl (by decide) (fun y7 ey7 => ?_)
            refine ag_goto (tgt := 2) dd_M_isHindered_45 (by decide) ?_
            have eh : sp_hinN S z t (r + 1) k = sp_hinN S z t r (k + 1) := by
              rw [sp_hinN]; exact if_neg (by omega)
            rw [eh] at hP
            obtain rfl : y7 = ((k + 1 : Nat) : Int) := by omega
            exact ih (k + 1) (by omega) hP
          · refine ag_iconst dd_M_isHindered_40 ?_
            refine ag_zret dd_M_isHindered_41 rfl (by first | exact Or.inl rfl | exact Or.inr rfl | omega) ?_
            have eh : sp_hinN S z t (r + 1) k = true := by
              rw [sp_hinN]; exact if_pos (by omega)
            rw [eh] at hP
            exact hP
set_option maxHeartbeats 1000000 in
theorem mc_M_isHindered {w : aw_T} {h0 h : ah_T} {S : ms_T} {d : Nat} (hd : 0 ≤ d) (hM : mo_I h0 h S) (hw : 0 ≤ S.1 21 ∧ S.1 21 ≤ 20) (hv : ∀ i : Nat, (i : Int) < S.1 21 → (0 ≤ S.2 52 i ∧ S.2 52 i ≤ 1) ∧ (0 ≤ S.2 53 i ∧ S.2 53 i ≤ 4000) ∧ (0 ≤ S.2 54 i ∧ S.2 54 i ≤ 4000)) {z t : Int} (hz : 0 ≤ z ∧ z ≤ 1) (ht : 0 ≤ t ∧ t ≤ 4000) : am_M w mm_M_isHindered d [av_r 38, av_i z, av_i t] h 0 0 (fun r h' => r = some (av_i (if sp_hin S z t = true then 1 else 0)) ∧ h' = h) := by
  refine am_intro [some (av_r 38), some (av_i (z)), some (av_i (t)), none] (by decide +kernel) (Nat.le_of_ble_eq_true rfl) rfl ?_
  refine ag_iconst dd_M_isHindered_0 ?_
  refine ag_istore_n (L' := [some (av_r 38), some (av_i (z)), some (av_i (t)), some (av_i (0))]) dd_M_isHindered_1 rfl rfl (by decide) ?_
  exact ml_M_isHindered hd hM hw hv hz ht (S.1 21).toNat 0 (by omega) ⟨rfl, rfl⟩
def sp_tn (S : ms_T) : Nat → Nat → Int
  | 0, _ => -1
  | r + 1, i => if S.2 67 (S.2 66 i).toNat = 0 then S.2 66 i else sp_tn S r (i + 1)
def sp_turn (S : ms_T) : Int := sp_tn S (S.1 39).toNat 0
/-- the round's order is of farms, those through are marked by 0 or 1 -/
def iv_ord (S : ms_T) : Prop := (0 ≤ S.1 39 ∧ S.1 39 ≤ 10) ∧ (∀ i : Nat, (i : Int) < S.1 39 → 0 ≤ S.2 66 i ∧ S.2 66 i < 10) ∧ ∀ i : Nat, 0 ≤ S.2 67 i ∧ S.2 67 i ≤ 1
set_option maxHeartbeats 1000000 in
theorem ml_M_turn {w : aw_T} {h0 h : ah_T} {S : ms_T} {d : Nat} (hd : 0 ≤ d) (hM : mo_I h0 h S) (ho : iv_ord S) {P : ap_T} {kc ks : Nat} : ∀ (r k : Nat), (k : Int) + r = S.1 39 → P (some (av_i (sp_tn S r k))) h → aw_W w mm_M_turn d P 2 [some (av_r 38), some (av_i ((k : Int)))] [] h kc ks := by
  intro r
  induction r with
  | zero =>
    intro k hk hP
    have ho1 := ho.1
    refine ag_iload_n dd_M_turn_2 rfl ?_
    refine ag_aload_n dd_M_turn_3 rfl ?_
    refine ag_get dd_M_turn_4 fg_M_172 (mr_38 hM) rfl ?_
    refine ag_icmp_ge (tgt := 37) dd_M_turn_7 (by decide) (by have := ho.1; omega) (by have := ho.1; omega) (fun c1 => ?_) (fun c1 => ?_)
    · refine ag_iconst dd_M_turn_37 ?_
      refine ag_iret dd_M_turn_38 rfl ?_
      exact hP
    · exfalso; omega
  | succ r ih =>
    intro k hk hP
    have ho1 := ho.1
    refine ag_iload_n dd_M_turn_2 rfl ?_
    refine ag_aload_n dd_M_turn_3 rfl ?_
    refine ag_get dd_M_turn_4 fg_M_172 (mr_38 hM) rfl ?_
    refine ag_icmp_ge (tgt := 37) dd_M_turn_7 (by decide) (by omega) (by omega) (fun c1 => ?_) (fun c1 => ?_)
    · exfalso; omega
    · have hok := ho.2.1 k (by omega)
      have htk := ho.2.2 (S.2 66 k).toNat
      rw [sp_tn] at hP
      refine ag_aload_n dd_M_turn_10 rfl ?_
      refine ag_get dd_M_turn_11 fg_M_113 (mr_38 hM) rfl ?_
      refine ag_aload_n dd_M_turn_14 rfl ?_
      refine ag_get dd_M_turn_15 fg_M_110 (mr_38 hM) rfl ?_
      refine ag_iload_n dd_M_turn_18 rfl ?_
      refine ag_ialdN dd_M_turn_19 (mr_66 hM) (by decide) (by omega) ?_
      refine ag_zald dd_M_turn_20 (mr_67 hM) (by decide) (by omega) ?_
      refine ag_if_ne (tgt := 31) dd_M_turn_21 (by decide) (by omega) (fun c2 => ?_) (fun c2 => ?_)
      · refine ag_iincN (Lf := fun y => [some (av_r 38), some (av_i (y))]) dd_M_turn_31 rfl (fun _ => rfl) rfl (by decide) (fun y3 ey3 => ?_)
        refine ag_goto (tgt := 2) dd_M_turn_34 (by decide) ?_
        rw [if_neg (by omega)] at hP
        obtain rfl : y3 = ((k + 1 : Nat) : Int) := by omega
        exact ih (k + 1) (by omega) hP
      · refine ag_aload_n dd_M_turn_24 rfl ?_
        refine ag_get dd_M_turn_25 fg_M_110 (mr_38 hM) rfl ?_
        refine ag_iload_n dd_M_turn_28 rfl ?_
        refine ag_ialdN dd_M_turn_29 (mr_66 hM) (by decide) (by omega) ?_
        refine ag_iret dd_M_turn_30 rfl ?_
        rw [if_pos (by omega)] at hP
        exact hP
set_option maxHeartbeats 1000000 in
theorem mc_M_turn {w : aw_T} {h0 h : ah_T} {S : ms_T} {d : Nat} (hd : 0 ≤ d) (hM : mo_I h0 h S) (ho : iv_ord S) : am_M w mm_M_turn d [av_r 38] h 0 0 (fun r h' => r = some (av_i (sp_turn S)) ∧ h' = h) := by
  refine am_intro [some (av_r 38), none] (by decide +kernel) (Nat.le_of_ble_eq_true rfl) rfl ?_
  refine ag_iconst dd_M_turn_0 ?_
  refine ag_istore_n (L' := [some (av_r 38), some (av_i (0))]) dd_M_turn_1 rfl rfl (by decide) ?_
  exact ml_M_turn hd hM ho (S.1 39).toNat 0 (by have := ho.1; omega) ⟨rfl, rfl⟩
