def cq_ (h0 : ah_T) (G : gh_T) (q : Option av_T × ms_T) : ap_T := fun r h' => r = q.1 ∧ co_I h0 h' q.2 G
set_option maxHeartbeats 1000000 in
theorem mc_X_isWithin {w : aw_T} {h : ah_T} {d : Nat} {a : Int} (ha : -2147483648 ≤ a ∧ a < 2147483648) {b : Int} (hb : -2147483648 ≤ b ∧ b < 2147483648) {c : Int} (hc : -2147483648 ≤ c ∧ c < 2147483648) : am_M w mm_X_isWithin d [av_i a, av_i b, av_i c] h 0 0 (fun r h' => r = some (av_i (if b ≤ a ∧ a ≤ c then 1 else 0)) ∧ h' = h) := by
  refine am_intro [some (av_i (a)), some (av_i (b)), some (av_i (c))] (by decide +kernel) (Nat.le_of_ble_eq_true rfl) rfl ?_
  refine ag_iload_n dd_X_isWithin_0 rfl ?_
  refine ag_iload_n dd_X_isWithin_1 rfl ?_
  refine ag_icmp_lt (tgt := 14) dd_X_isWithin_2 (by decide) (by omega) (by omega) (fun c1 => ?_) (fun c1 => ?_)
  · refine ag_iconst dd_X_isWithin_14 ?_
    refine ag_zret dd_X_isWithin_15 rfl (by first | exact Or.inl rfl | exact Or.inr rfl | omega) ?_
    refine ⟨congrArg (fun z => some (av_i z)) ?_, rfl⟩
    first | rw [if_pos (by omega)] | rw [if_neg (by omega)]
  · refine ag_iload_n dd_X_isWithin_5 rfl ?_
    refine ag_iload_n dd_X_isWithin_6 rfl ?_
    refine ag_icmp_gt (tgt := 14) dd_X_isWithin_7 (by decide) (by omega) (by omega) (fun c2 => ?_) (fun c2 => ?_)
    · refine ag_iconst dd_X_isWithin_14 ?_
      refine ag_zret dd_X_isWithin_15 rfl (by first | exact Or.inl rfl | exact Or.inr rfl | omega) ?_
      refine ⟨congrArg (fun z => some (av_i z)) ?_, rfl⟩
      first | rw [if_pos (by omega)] | rw [if_neg (by omega)]
    · refine ag_iconst dd_X_isWithin_10 ?_
      refine ag_goto (tgt := 15) dd_X_isWithin_11 (by decide) ?_
      refine ag_zret dd_X_isWithin_15 rfl (by first | exact Or.inl rfl | exact Or.inr rfl | omega) ?_
      refine ⟨congrArg (fun z => some (av_i z)) ?_, rfl⟩
      first | rw [if_pos (by omega)] | rw [if_neg (by omega)]
set_option maxHeartbeats 1000000 in
theorem mc_X_isTold {w : aw_T} {h : ah_T} {d : Nat} (hd : 1 ≤ d) {a : Int} (ha : -2147483648 ≤ a ∧ a < 2147483648) : am_M w mm_X_isTold d [av_i a] h 0 0 (fun r h' => r = some (av_i (if -1000000 ≤ a ∧ a ≤ 1000000 then 1 else 0)) ∧ h' = h) := by
  refine am_intro [some (av_i (a))] (by decide +kernel) (Nat.le_of_ble_eq_true rfl) rfl ?_
  refine ag_iload_n dd_X_isTold_0 rfl ?_
  refine ag_ldcw (a := -1000000) dd_X_isTold_1 fc_X_356 (by decide +kernel) ?_
  refine ag_ldcw (a := 1000000) dd_X_isTold_4 fc_X_357 (by decide +kernel) ?_
  refine ag_rS dd_X_isTold_7 fi_X_76 (mc_X_isWithin (d := 0) (by omega) (by omega) (by omega)) rfl rfl (by omega) (Nat.le_of_ble_eq_true rfl) ?_
  refine ag_zret dd_X_isTold_10 rfl (by split <;> omega) ?_
  exact ⟨rfl, rfl⟩
set_option maxHeartbeats 1000000 in
theorem mc_X_holdsBit {w : aw_T} {h : ah_T} {d : Nat} {p f : Nat} (hp : p < 2 ^ 31) (hf : f < 31) : am_M w mm_X_holdsBit d [av_i (p : Int), av_i (f : Int)] h 0 0 (fun r h' => r = some (av_i (if p / 2 ^ f % 2 = 1 then 1 else 0)) ∧ h' = h) := by
  refine am_intro [some (av_i ((p : Int))), some (av_i ((f : Int)))] (by decide +kernel) (Nat.le_of_ble_eq_true rfl) rfl ?_
  refine ag_iload_n dd_X_holdsBit_0 rfl ?_
  refine ag_iload_n dd_X_holdsBit_1 rfl ?_
  refine ag_ishr dd_X_holdsBit_2 ?_
  refine ag_iconst dd_X_holdsBit_3 ?_
  refine ag_iand dd_X_holdsBit_4 ?_
  refine ag_to (show _ = ((p / 2 ^ f % 2 : Nat) : Int) from sp_bt_nat hp hf) ?_
  refine ag_if_eq (tgt := 12) dd_X_holdsBit_5 (by decide) (by omega) (fun c1 => ?_) (fun c1 => ?_)
  · refine ag_iconst dd_X_holdsBit_12 ?_
    refine ag_zret dd_X_holdsBit_13 rfl (by first | exact Or.inl rfl | exact Or.inr rfl | omega) ?_
    refine ⟨congrArg (fun z => some (av_i z)) ?_, rfl⟩
    first | rw [if_pos (by omega)] | rw [if_neg (by omega)]
  · refine ag_iconst dd_X_holdsBit_8 ?_
    refine ag_goto (tgt := 13) dd_X_holdsBit_9 (by decide) ?_
    refine ag_zret dd_X_holdsBit_13 rfl (by first | exact Or.inl rfl | exact Or.inr rfl | omega) ?_
    refine ⟨congrArg (fun z => some (av_i z)) ?_, rfl⟩
    first | rw [if_pos (by omega)] | rw [if_neg (by omega)]
set_option maxHeartbeats 1000000 in
theorem mc_X_quotient {w : aw_T} {h : ah_T} {d : Nat} {a : Int} (ha : -2147483648 ≤ a ∧ a < 2147483648) {b : Int} (hb : -2147483648 ≤ b ∧ b < 2147483648) : am_M w mm_X_quotient d [av_i a, av_i b] h 0 0 (fun r h' => r = some (av_i (if b = 0 then 0 else a.tdiv b)) ∧ h' = h) := by
  refine am_intro [some (av_i (a)), some (av_i (b))] (by decide +kernel) (Nat.le_of_ble_eq_true rfl) rfl ?_
  refine ag_iload_n dd_X_quotient_0 rfl ?_
  refine ag_if_ne (tgt := 8) dd_X_quotient_1 (by decide) (by omega) (fun c1 => ?_) (fun c1 => ?_)
  · refine ag_iload_n dd_X_quotient_8 rfl ?_
    refine ag_iload_n dd_X_quotient_9 rfl ?_
    refine ag_idiv dd_X_quotient_10 (by omega) (by omega) (by omega) ?_
    refine ag_iret dd_X_quotient_11 rfl ?_
    refine ⟨congrArg (fun z => some (av_i z)) ?_, rfl⟩
    first | rw [if_pos (by omega)] | rw [if_neg (by omega)]
  · refine ag_iconst dd_X_quotient_4 ?_
    refine ag_goto (tgt := 11) dd_X_quotient_5 (by decide) ?_
    refine ag_iret dd_X_quotient_11 rfl ?_
    refine ⟨congrArg (fun z => some (av_i z)) ?_, rfl⟩
    first | rw [if_pos (by omega)] | rw [if_neg (by omega)]
set_option maxHeartbeats 1000000 in
theorem mc_X_rules {w : aw_T} {h0 h : ah_T} {S : ms_T} {G : gh_T} {d : Nat} (hd : 1 ≤ d) (hC : co_I h0 h S G) {a : Int} (ha : -2147483648 ≤ a ∧ a < 2147483648) {b : Int} (hb : -2147483648 ≤ b ∧ b < 2147483648) {c : Int} (hc : -2147483648 ≤ c ∧ c < 2147483648) {e : Int} (he : -2147483648 ≤ e ∧ e < 2147483648) (hc : 0 ≤ S.1 0 ∧ S.1 0 ≤ 4000) : am_M w mm_X_rules d [av_r 0, av_i a, av_i b, av_i c, av_i e] h 0 0 (cq_ h0 G (sp_rules S a b c e)) := by
  refine am_intro [some (av_r 0), some (av_i (a)), some (av_i (b)), some (av_i (c)), some (av_i (e)), none] (by decide +kernel) (Nat.le_of_ble_eq_true rfl) rfl ?_
  refine ag_iload_n dd_X_rules_0 rfl ?_
  refine ag_iconst dd_X_rules_1 ?_
  refine ag_bipush dd_X_rules_2 (by decide +kernel) ?_
  refine ag_rS dd_X_rules_4 fi_X_76 (mc_X_isWithin (d := 0) (by omega) (by omega) (by omega)) rfl rfl (by omega) (Nat.le_of_ble_eq_true rfl) ?_
  refine ag_if_eqB (tgt := 45) dd_X_rules_7 (by decide) (fun c1 => ?_) (fun c1 => ?_)
  · refine ag_iconst dd_X_rules_45 ?_
    refine ag_istore (L' := [some (av_r 0), some (av_i (a)), some (av_i (b)), some (av_i (c)), some (av_i (e)), some (av_i (0))]) dd_X_rules_46 rfl rfl (by decide) ?_
    refine ag_iload dd_X_rules_48 rfl ?_
    refine ag_if_eq (tgt := 60) dd_X_rules_50 (by decide) (by omega) (fun c2 => ?_) (fun c2 => ?_)
    · refine ag_iconst dd_X_rules_60 ?_
      refine ag_zret dd_X_rules_61 rfl (by first | exact Or.inl rfl | exact Or.inr rfl | omega) ?_
      unfold sp_rules
      rw [if_neg (by omega)]
      exact ⟨rfl, hC⟩
    · exfalso; omega
  · refine ag_iload_n dd_X_rules_10 rfl ?_
    refine ag_iconst dd_X_rules_11 ?_
    refine ag_bipush dd_X_rules_12 (by decide +kernel) ?_
    refine ag_rS dd_X_rules_14 fi_X_76 (mc_X_isWithin (d := 0) (by omega) (by omega) (by omega)) rfl rfl (by omega) (Nat.le_of_ble_eq_true rfl) ?_
    refine ag_if_eqB (tgt := 45) dd_X_rules_17 (by decide) (fun c3 => ?_) (fun c3 => ?_)
    · refine ag_iconst dd_X_rules_45 ?_
      refine ag_istore (L' := [some (av_r 0), some (av_i (a)), some (av_i (b)), some (av_i (c)), some (av_i (e)), some (av_i (0))]) dd_X_rules_46 rfl rfl (by decide) ?_
      refine ag_iload dd_X_rules_48 rfl ?_
      refine ag_if_eq (tgt := 60) dd_X_rules_50 (by decide) (by omega) (fun c4 => ?_) (fun c4 => ?_)
      · refine ag_iconst dd_X_rules_60 ?_
        refine ag_zret dd_X_rules_61 rfl (by first | exact Or.inl rfl | exact Or.inr rfl | omega) ?_
        unfold sp_rules
        rw [if_neg (by omega)]
        exact ⟨rfl, hC⟩
      · exfalso; omega
    · refine ag_iload_n dd_X_rules_20 rfl ?_
      refine ag_iconst dd_X_rules_21 ?_
      refine ag_bipush dd_X_rules_22 (by decide +kernel) ?_
      refine ag_rS dd_X_rules_24 fi_X_76 (mc_X_isWithin (d := 0) (by omega) (by omega) (by omega)) rfl rfl (by omega) (Nat.le_of_ble_eq_true rfl) ?_
      refine ag_if_eqB (tgt := 45) dd_X_rules_27 (by decide) (fun c5 => ?_) (fun c5 => ?_)
      · refine ag_iconst dd_X_rules_45 ?_
        refine ag_istore (L' := [some (av_r 0), some (av_i (a)), some (av_i (b)), some (av_i (c)), some (av_i (e)), some (av_i (0))]) dd_X_rules_46 rfl rfl (by decide) ?_
        refine ag_iload dd_X_rules_48 rfl ?_
        refine ag_if_eq (tgt := 60) dd_X_rules_50 (by decide) (by omega) (fun c6 => ?_) (fun c6 => ?_)
        · refine ag_iconst dd_X_rules_60 ?_
          refine ag_zret dd_X_rules_61 rfl (by first | exact Or.inl rfl | exact Or.inr rfl | omega) ?_
          unfold sp_rules
          rw [if_neg (by omega)]
          exact ⟨rfl, hC⟩
        · exfalso; omega
      · refine ag_iload dd_X_rules_30 rfl ?_
        refine ag_iconst dd_X_rules_32 ?_
        refine ag_bipush dd_X_rules_33 (by decide +kernel) ?_
        refine ag_rS dd_X_rules_35 fi_X_76 (mc_X_isWithin (d := 0) (by omega) (by omega) (by omega)) rfl rfl (by omega) (Nat.le_of_ble_eq_true rfl) ?_
        refine ag_if_eqB (tgt := 45) dd_X_rules_38 (by decide) (fun c7 => ?_) (fun c7 => ?_)
        · refine ag_iconst dd_X_rules_45 ?_
          refine ag_istore (L' := [some (av_r 0), some (av_i (a)), some (av_i (b)), some (av_i (c)), some (av_i (e)), some (av_i (0))]) dd_X_rules_46 rfl rfl (by decide) ?_
          refine ag_iload dd_X_rules_48 rfl ?_
          refine ag_if_eq (tgt := 60) dd_X_rules_50 (by decide) (by omega) (fun c8 => ?_) (fun c8 => ?_)
          · refine ag_iconst dd_X_rules_60 ?_
            refine ag_zret dd_X_rules_61 rfl (by first | exact Or.inl rfl | exact Or.inr rfl | omega) ?_
            unfold sp_rules
            rw [if_neg (by omega)]
            exact ⟨rfl, hC⟩
          · exfalso; omega
        · refine ag_iconst dd_X_rules_41 ?_
          refine ag_goto (tgt := 46) dd_X_rules_42 (by decide) ?_
          refine ag_istore (L' := [some (av_r 0), some (av_i (a)), some (av_i (b)), some (av_i (c)), some (av_i (e)), some (av_i (1))]) dd_X_rules_46 rfl rfl (by decide) ?_
          refine ag_iload dd_X_rules_48 rfl ?_
          refine ag_if_eq (tgt := 60) dd_X_rules_50 (by decide) (by omega) (fun c9 => ?_) (fun c9 => ?_)
          · exfalso; omega
          · refine ag_aload_n dd_X_rules_53 rfl ?_
            refine ag_get dd_X_rules_54 fg_X_80 (cr_0 hC) rfl ?_
            refine ag_if_le (tgt := 62) dd_X_rules_57 (by decide) (by omega) (fun c10 => ?_) (fun c10 => ?_)
            · refine ag_aload_n dd_X_rules_62 rfl ?_
              refine ag_iload_n dd_X_rules_63 rfl ?_
              refine cp_4 dd_X_rules_64 fp_X_7 hC (fun h S11 eS11 hC => ?_)
              refine ag_aload_n dd_X_rules_67 rfl ?_
              refine ag_iload_n dd_X_rules_68 rfl ?_
              refine cp_5 dd_X_rules_69 fp_X_13 hC (fun h S12 eS12 hC => ?_)
              refine ag_aload_n dd_X_rules_72 rfl ?_
              refine ag_iload_n dd_X_rules_73 rfl ?_
              refine cp_6 dd_X_rules_74 fp_X_16 hC (fun h S13 eS13 hC => ?_)
              refine ag_aload_n dd_X_rules_77 rfl ?_
              refine ag_iload dd_X_rules_78 rfl ?_
              refine cp_7 dd_X_rules_80 fp_X_19 hC (fun h S14 eS14 hC => ?_)
              refine ag_iconst dd_X_rules_83 ?_
              refine ag_zret dd_X_rules_84 rfl (by first | exact Or.inl rfl | exact Or.inr rfl | omega) ?_
              unfold sp_rules
              rw [if_pos (by omega)]
              refine ⟨rfl, ?_⟩
              subst_vars
              exact hC
            · refine ag_iconst dd_X_rules_60 ?_
              refine ag_zret dd_X_rules_61 rfl (by first | exact Or.inl rfl | exact Or.inr rfl | omega) ?_
              unfold sp_rules
              rw [if_neg (by omega)]
              exact ⟨rfl, hC⟩
set_option maxHeartbeats 1000000 in
theorem mc_Farms_add {w : aw_T} {h0 h : ah_T} {S : ms_T} {G : gh_T} {d : Nat} (hd : 0 ≤ d) (hC : co_I h0 h S G) (h1 : 0 ≤ S.1 1 ∧ S.1 1 ≤ 10) : am_M w mm_Farms_add d [av_r 1] h 0 0 (cq_ h0 G (sp_farm S)) := by
  refine am_intro [some (av_r 1)] (by decide +kernel) (Nat.le_of_ble_eq_true rfl) rfl ?_
  refine ag_aload_n dd_Farms_add_0 rfl ?_
  refine ag_get dd_Farms_add_1 fg_Farms_19 (cr_1 hC) rfl ?_
  refine ag_bipush dd_Farms_add_4 (by decide +kernel) ?_
  refine ag_icmp_lt (tgt := 11) dd_Farms_add_6 (by decide) (by omega) (by omega) (fun c1 => ?_) (fun c1 => ?_)
  · refine ag_aload_n dd_Farms_add_11 rfl ?_
    refine ag_dup dd_Farms_add_12 rfl ?_
    refine ag_get dd_Farms_add_13 fg_Farms_19 (cr_1 hC) rfl ?_
    refine ag_iconst dd_Farms_add_16 ?_
    refine ag_iadd dd_Farms_add_17 ?_
    refine cp_1 dd_Farms_add_18 fp_Farms_19 hC (fun h S2 eS2 hC => ?_)
    refine ag_aload_n dd_Farms_add_21 rfl ?_
    refine ag_get dd_Farms_add_22 fg_Farms_19 (cr_1 hC) rfl ?_
    refine ag_iconst dd_Farms_add_25 ?_
    refine ag_isub dd_Farms_add_26 ?_
    refine ag_iret dd_Farms_add_27 rfl ?_
    unfold sp_farm
    rw [if_neg (by omega)]
    subst_vars
    refine ⟨congrArg (fun z => some (av_i z)) ?_, hC⟩
    show S.1 1 + 1 - 1 = S.1 1
    omega
  · refine ag_iconst dd_Farms_add_9 ?_
    refine ag_iret dd_Farms_add_10 rfl ?_
    unfold sp_farm
    rw [if_pos (by omega)]
    exact ⟨rfl, hC⟩
set_option maxHeartbeats 1000000 in
theorem mc_X_farm {w : aw_T} {h0 h : ah_T} {S : ms_T} {G : gh_T} {d : Nat} (hd : 1 ≤ d) (hC : co_I h0 h S G) (h1 : 0 ≤ S.1 1 ∧ S.1 1 ≤ 10) : am_M w mm_X_farm d [av_r 0] h 0 0 (cq_ h0 G (sp_farm S)) := by
  refine am_intro [some (av_r 0)] (by decide +kernel) (Nat.le_of_ble_eq_true rfl) rfl ?_
  have hv : ∃ v, (sp_farm S).1 = some (av_i v) := by unfold sp_farm; split <;> exact ⟨_, rfl⟩
  obtain ⟨v, hv⟩ := hv
  refine ag_aload_n dd_X_farm_0 rfl ?_
  refine ag_get dd_X_farm_1 fg_X_28 (cr_0 hC) rfl ?_
  refine ag_wV dd_X_farm_4 fi_X_83 (cr_1 hC) rfl (mc_Farms_add (d := 0) (by omega) hC h1) rfl rfl (by omega) (Nat.le_of_ble_eq_true rfl) (fun r1 h hP => ?_)
  obtain ⟨rfl, hC⟩ := hP
  rw [hv]
  refine ag_iret dd_X_farm_7 rfl ?_
  exact ⟨hv.symm, hC⟩
set_option maxHeartbeats 1000000 in
theorem mc_X_fieldCount {w : aw_T} {h0 h : ah_T} {S : ms_T} {G : gh_T} {d : Nat} (hd : 0 ≤ d) (hC : co_I h0 h S G) (h2 : 0 ≤ S.1 2 ∧ S.1 2 ≤ 16) : am_M w mm_X_fieldCount d [av_r 0] h 0 0 (fun r h' => r = some (av_i (S.1 2)) ∧ h' = h) := by
  refine am_intro [some (av_r 0)] (by decide +kernel) (Nat.le_of_ble_eq_true rfl) rfl ?_
  by_cases hz : (S.1 2).toNat = 0
  · refine ag_aload_n dd_X_fieldCount_0 rfl ?_
    refine ag_get dd_X_fieldCount_1 fg_X_98 (cr_0 hC) rfl ?_
    rw [rl_e hz]
    refine ag_ifnonnull (tgt := 11) dd_X_fieldCount_4 (by decide) (fun _ q => by cases q) (fun _ => ?_)
    refine ag_iconst dd_X_fieldCount_7 ?_
    refine ag_goto (tgt := 20) dd_X_fieldCount_8 (by decide) ?_
    refine ag_iret dd_X_fieldCount_20 rfl ?_
    refine ⟨congrArg (fun z => some (av_i z)) ?_, rfl⟩
    omega
  · refine ag_aload_n dd_X_fieldCount_0 rfl ?_
    refine ag_get dd_X_fieldCount_1 fg_X_98 (cr_0 hC) rfl ?_
    rw [rl_s hz]
    refine ag_ifnonnull (tgt := 11) dd_X_fieldCount_4 (by decide) (fun _ _ => ?_) (fun q => by cases q)
    refine ag_aload_n dd_X_fieldCount_11 rfl ?_
    refine ag_get dd_X_fieldCount_12 fg_X_98 (cr_0 hC) rfl ?_
    rw [rl_s hz]
    refine ag_get dd_X_fieldCount_15 fg_X_196 (cr_F hC (by omega)) rfl ?_
    refine ag_iconst dd_X_fieldCount_18 ?_
    refine ag_iadd dd_X_fieldCount_19 ?_
    refine ag_iret dd_X_fieldCount_20 rfl ?_
    refine ⟨congrArg (fun z => some (av_i z)) ?_, rfl⟩
    omega
set_option maxHeartbeats 1000000 in
theorem mc_X_loadCount {w : aw_T} {h0 h : ah_T} {S : ms_T} {G : gh_T} {d : Nat} (hd : 0 ≤ d) (hC : co_I h0 h S G) (h2 : 0 ≤ S.1 3 ∧ S.1 3 ≤ 16) : am_M w mm_X_loadCount d [av_r 0] h 0 0 (fun r h' => r = some (av_i (S.1 3)) ∧ h' = h) := by
  refine am_intro [some (av_r 0)] (by decide +kernel) (Nat.le_of_ble_eq_true rfl) rfl ?_
  by_cases hz : (S.1 3).toNat = 0
  · refine ag_aload_n dd_X_loadCount_0 rfl ?_
    refine ag_get dd_X_loadCount_1 fg_X_255 (cr_0 hC) rfl ?_
    rw [rl_e hz]
    refine ag_ifnonnull (tgt := 11) dd_X_loadCount_4 (by decide) (fun _ q => by cases q) (fun _ => ?_)
    refine ag_iconst dd_X_loadCount_7 ?_
    refine ag_goto (tgt := 20) dd_X_loadCount_8 (by decide) ?_
    refine ag_iret dd_X_loadCount_20 rfl ?_
    refine ⟨congrArg (fun z => some (av_i z)) ?_, rfl⟩
    omega
  · refine ag_aload_n dd_X_loadCount_0 rfl ?_
    refine ag_get dd_X_loadCount_1 fg_X_255 (cr_0 hC) rfl ?_
    rw [rl_s hz]
    refine ag_ifnonnull (tgt := 11) dd_X_loadCount_4 (by decide) (fun _ _ => ?_) (fun q => by cases q)
    refine ag_aload_n dd_X_loadCount_11 rfl ?_
    refine ag_get dd_X_loadCount_12 fg_X_255 (cr_0 hC) rfl ?_
    rw [rl_s hz]
    refine ag_get dd_X_loadCount_15 fg_X_259 (cr_L hC (by omega)) rfl ?_
    refine ag_iconst dd_X_loadCount_18 ?_
    refine ag_iadd dd_X_loadCount_19 ?_
    refine ag_iret dd_X_loadCount_20 rfl ?_
    refine ⟨congrArg (fun z => some (av_i z)) ?_, rfl⟩
    omega
set_option maxHeartbeats 1000000 in
theorem ml_X_findField {w : aw_T} {h0 h : ah_T} {S : ms_T} {G : gh_T} {d : Nat} (hd : 0 ≤ d) (hC : co_I h0 h S G) (h2 : 0 ≤ S.1 2 ∧ S.1 2 ≤ 16) {f : Int} (hf : -2147483648 ≤ f ∧ f < 2147483648) {P : ap_T} (hP : P (some (av_q (if 0 ≤ f ∧ f < S.1 2 then some (G 1 f.toNat) else none))) h) : ∀ (m j : Nat), (j : Int) + m = S.1 2 → ¬ (0 ≤ f ∧ f < j) → aw_W w mm_X_findField d P 5 [some (av_r 0), some (av_i (f)), some (av_q (rf_ G 1 (S.1 2).toNat j))] [] h 0 0 := by
  intro m
  induction m with
  | zero =>
    intro j hj hf
    rw [rf_e (by omega)]
    refine ag_aload_n dd_X_findField_5 rfl ?_
    refine ag_ifnull (tgt := 27) dd_X_findField_6 (by decide) (fun _ => ?_) (fun _ q => by cases q)
    refine ag_null dd_X_findField_27 ?_
    refine ag_aret dd_X_findField_28 rfl ?_
    have e9 : (if 0 ≤ f ∧ f < S.1 2 then some (G 1 f.toNat) else none) = none := if_neg (by omega)
    rw [e9] at hP
    exact hP
  | succ m ih =>
    intro j hj hf
    rw [rf_s (by omega)]
    refine ag_aload_n dd_X_findField_5 rfl ?_
    refine ag_ifnull (tgt := 27) dd_X_findField_6 (by decide) (fun q => by cases q) (fun _ _ => ?_)
    refine ag_aload_n dd_X_findField_9 rfl ?_
    refine ag_get dd_X_findField_10 fg_X_196 (cr_F hC (by omega)) rfl ?_
    refine ag_iload_n dd_X_findField_13 rfl ?_
    refine ag_icmp_ne (tgt := 19) dd_X_findField_14 (by decide) (by omega) (by omega) (fun c2 => ?_) (fun c2 => ?_)
    · refine ag_aload_n dd_X_findField_19 rfl ?_
      refine ag_get dd_X_findField_20 fg_X_105 (cr_F hC (by omega)) rfl ?_
      refine ag_astore_n (L' := [some (av_r 0), some (av_i (f)), some (av_q (rf_ G 1 (S.1 2).toNat (j + 1)))]) dd_X_findField_23 rfl rfl (by decide) ?_
      refine ag_goto (tgt := 5) dd_X_findField_24 (by decide) ?_
      exact ih (j + 1) (by omega) (by omega)
    · refine ag_aload_n dd_X_findField_17 rfl ?_
      refine ag_aret dd_X_findField_18 rfl ?_
      have e9 : (if 0 ≤ f ∧ f < S.1 2 then some (G 1 f.toNat) else none) = some (G 1 j) := by rw [if_pos (by omega), show f.toNat = j by omega]
      rw [e9] at hP
      exact hP
set_option maxHeartbeats 1000000 in
theorem mc_X_findField {w : aw_T} {h0 h : ah_T} {S : ms_T} {G : gh_T} {d : Nat} (hd : 0 ≤ d) (hC : co_I h0 h S G) (h2 : 0 ≤ S.1 2 ∧ S.1 2 ≤ 16) {f : Int} (hf : -2147483648 ≤ f ∧ f < 2147483648) : am_M w mm_X_findField d [av_r 0, av_i f] h 0 0 (fun r h' => r = some (av_q (if 0 ≤ f ∧ f < S.1 2 then some (G 1 f.toNat) else none)) ∧ h' = h) := by
  refine am_intro [some (av_r 0), some (av_i (f)), none] (by decide +kernel) (Nat.le_of_ble_eq_true rfl) rfl ?_
  refine ag_aload_n dd_X_findField_0 rfl ?_
  refine ag_get dd_X_findField_1 fg_X_102 (cr_0 hC) rfl ?_
  refine ag_astore_n (L' := [some (av_r 0), some (av_i (f)), some (av_q (rf_ G 1 (S.1 2).toNat 0))]) dd_X_findField_4 rfl rfl (by decide) ?_
  exact ml_X_findField hd hC h2 hf ⟨rfl, rfl⟩ (S.1 2).toNat 0 (by omega) (by omega)
set_option maxHeartbeats 1000000 in
theorem ml_X_findLoad {w : aw_T} {h0 h : ah_T} {S : ms_T} {G : gh_T} {d : Nat} (hd : 0 ≤ d) (hC : co_I h0 h S G) (h2 : 0 ≤ S.1 3 ∧ S.1 3 ≤ 16) {f : Int} (hf : -2147483648 ≤ f ∧ f < 2147483648) {P : ap_T} (hP : P (some (av_q (if 0 ≤ f ∧ f < S.1 3 then some (G 2 f.toNat) else none))) h) : ∀ (m j : Nat), (j : Int) + m = S.1 3 → ¬ (0 ≤ f ∧ f < j) → aw_W w mm_X_findLoad d P 5 [some (av_r 0), some (av_i (f)), some (av_q (rf_ G 2 (S.1 3).toNat j))] [] h 0 0 := by
  intro m
  induction m with
  | zero =>
    intro j hj hf
    rw [rf_e (by omega)]
    refine ag_aload_n dd_X_findLoad_5 rfl ?_
    refine ag_ifnull (tgt := 27) dd_X_findLoad_6 (by decide) (fun _ => ?_) (fun _ q => by cases q)
    refine ag_null dd_X_findLoad_27 ?_
    refine ag_aret dd_X_findLoad_28 rfl ?_
    have e9 : (if 0 ≤ f ∧ f < S.1 3 then some (G 2 f.toNat) else none) = none := if_neg (by omega)
    rw [e9] at hP
    exact hP
  | succ m ih =>
    intro j hj hf
    rw [rf_s (by omega)]
    refine ag_aload_n dd_X_findLoad_5 rfl ?_
    refine ag_ifnull (tgt := 27) dd_X_findLoad_6 (by decide) (fun q => by cases q) (fun _ _ => ?_)
    refine ag_aload_n dd_X_findLoad_9 rfl ?_
    refine ag_get dd_X_findLoad_10 fg_X_259 (cr_L hC (by omega)) rfl ?_
    refine ag_iload_n dd_X_findLoad_13 rfl ?_
    refine ag_icmp_ne (tgt := 19) dd_X_findLoad_14 (by decide) (by omega) (by omega) (fun c2 => ?_) (fun c2 => ?_)
    · refine ag_aload_n dd_X_findLoad_19 rfl ?_
      refine ag_get dd_X_findLoad_20 fg_X_263 (cr_L hC (by omega)) rfl ?_
      refine ag_astore_n (L' := [some (av_r 0), some (av_i (f)), some (av_q (rf_ G 2 (S.1 3).toNat (j + 1)))]) dd_X_findLoad_23 rfl rfl (by decide) ?_
      refine ag_goto (tgt := 5) dd_X_findLoad_24 (by decide) ?_
      exact ih (j + 1) (by omega) (by omega)
    · refine ag_aload_n dd_X_findLoad_17 rfl ?_
      refine ag_aret dd_X_findLoad_18 rfl ?_
      have e9 : (if 0 ≤ f ∧ f < S.1 3 then some (G 2 f.toNat) else none) = some (G 2 j) := by rw [if_pos (by omega), show f.toNat = j by omega]
      rw [e9] at hP
      exact hP
set_option maxHeartbeats 1000000 in
theorem mc_X_findLoad {w : aw_T} {h0 h : ah_T} {S : ms_T} {G : gh_T} {d : Nat} (hd : 0 ≤ d) (hC : co_I h0 h S G) (h2 : 0 ≤ S.1 3 ∧ S.1 3 ≤ 16) {f : Int} (hf : -2147483648 ≤ f ∧ f < 2147483648) : am_M w mm_X_findLoad d [av_r 0, av_i f] h 0 0 (fun r h' => r = some (av_q (if 0 ≤ f ∧ f < S.1 3 then some (G 2 f.toNat) else none)) ∧ h' = h) := by
  refine am_intro [some (av_r 0), some (av_i (f)), none] (by decide +kernel) (Nat.le_of_ble_eq_true rfl) rfl ?_
  refine ag_aload_n dd_X_findLoad_0 rfl ?_
  refine ag_get dd_X_findLoad_1 fg_X_260 (cr_0 hC) rfl ?_
  refine ag_astore_n (L' := [some (av_r 0), some (av_i (f)), some (av_q (rf_ G 2 (S.1 3).toNat 0))]) dd_X_findLoad_4 rfl rfl (by decide) ?_
  exact ml_X_findLoad hd hC h2 hf ⟨rfl, rfl⟩ (S.1 3).toNat 0 (by omega) (by omega)
