set_option maxHeartbeats 1000000 in
theorem mc_M_isIn {w : aw_T} {h : ah_T} {d : Nat} {a b c : Int} (ha : -2147483648 ≤ a ∧ a < 2147483648) (hb : -2147483648 ≤ b ∧ b < 2147483648) (hc : -2147483648 ≤ c ∧ c < 2147483648) : am_M w mm_M_isIn d [av_i a, av_i b, av_i c] h 0 0 (fun r h' => r = some (av_i (if b ≤ a ∧ a ≤ c then 1 else 0)) ∧ h' = h) := by
  refine am_intro [some (av_i (a)), some (av_i (b)), some (av_i (c))] (by decide +kernel) (by decide) rfl ?_
  refine ag_iload_n dd_M_isIn_0 rfl ?_
  refine ag_iload_n dd_M_isIn_1 rfl ?_
  refine ag_icmp_lt (tgt := 14) dd_M_isIn_2 (by decide) (by omega) (by omega) (fun c1 => ?_) (fun c1 => ?_)
  · refine ag_iconst dd_M_isIn_14 ?_
    refine ag_zret dd_M_isIn_15 rfl (by first | exact Or.inl rfl | exact Or.inr rfl | omega) ?_
    exact ⟨by first | rw [if_pos (by omega)] | rw [if_neg (by omega)], rfl⟩
  · refine ag_iload_n dd_M_isIn_5 rfl ?_
    refine ag_iload_n dd_M_isIn_6 rfl ?_
    refine ag_icmp_gt (tgt := 14) dd_M_isIn_7 (by decide) (by omega) (by omega) (fun c2 => ?_) (fun c2 => ?_)
    · refine ag_iconst dd_M_isIn_14 ?_
      refine ag_zret dd_M_isIn_15 rfl (by first | exact Or.inl rfl | exact Or.inr rfl | omega) ?_
      exact ⟨by first | rw [if_pos (by omega)] | rw [if_neg (by omega)], rfl⟩
    · refine ag_iconst dd_M_isIn_10 ?_
      refine ag_goto (tgt := 15) dd_M_isIn_11 (by decide) ?_
      refine ag_zret dd_M_isIn_15 rfl (by first | exact Or.inl rfl | exact Or.inr rfl | omega) ?_
      exact ⟨by first | rw [if_pos (by omega)] | rw [if_neg (by omega)], rfl⟩
set_option maxHeartbeats 1000000 in
theorem mc_M_isField {w : aw_T} {h0 h : ah_T} {S : ms_T} {d : Nat} (hd : 1 ≤ d) (hM : mo_I h0 h S) {a : Int} (ha : -2147483648 ≤ a ∧ a < 2147483648) (hf : 0 ≤ S.1 2 ∧ S.1 2 ≤ 16) : am_M w mm_M_isField d [av_r 38, av_i a] h 0 0 (fun r h' => r = some (av_i (if 0 ≤ a ∧ a < S.1 2 then 1 else 0)) ∧ h' = h) := by
  refine am_intro [some (av_r 38), some (av_i (a))] (by decide +kernel) (by decide) rfl ?_
  refine ag_iload_n dd_M_isField_0 rfl ?_
  refine ag_iconst dd_M_isField_1 ?_
  refine ag_aload_n dd_M_isField_2 rfl ?_
  refine ag_get dd_M_isField_3 fg_M_152 (mr_38 hM) rfl ?_
  refine ag_iconst dd_M_isField_6 ?_
  refine ag_isub dd_M_isField_7 ?_
  refine ag_rS dd_M_isField_8 fi_M_155 (mc_M_isIn (d := 0) (by omega) (by omega) (by omega)) rfl rfl (by omega) (by decide) ?_
  refine ag_zret dd_M_isField_11 rfl (by first | exact Or.inl rfl | exact Or.inr rfl | omega) ?_
  refine ⟨?_, rfl⟩
  congr 2
  by_cases q : 0 ≤ a ∧ a < S.1 2
  · rw [if_pos (by omega), if_pos q]
  · rw [if_neg (by omega), if_neg q]
set_option maxHeartbeats 1000000 in
theorem mc_M_isHour {w : aw_T} {h0 h : ah_T} {S : ms_T} {d : Nat} (hd : 0 ≤ d) (hM : mo_I h0 h S) (hc : -2147483648 ≤ S.1 0 ∧ S.1 0 < 2147483648) : am_M w mm_M_isHour d [av_r 38] h 0 0 (fun r h' => r = some (av_i (if 0 < S.1 0 then 1 else 0)) ∧ h' = h) := by
  refine am_intro [some (av_r 38)] (by decide +kernel) (by decide) rfl ?_
  refine ag_aload_n dd_M_isHour_0 rfl ?_
  refine ag_get dd_M_isHour_1 fg_M_159 (mr_38 hM) rfl ?_
  refine ag_if_le (tgt := 11) dd_M_isHour_4 (by decide) (by omega) (fun c1 => ?_) (fun c1 => ?_)
  · refine ag_iconst dd_M_isHour_11 ?_
    refine ag_zret dd_M_isHour_12 rfl (by first | exact Or.inl rfl | exact Or.inr rfl | omega) ?_
    exact ⟨by first | rw [if_pos (by omega)] | rw [if_neg (by omega)], rfl⟩
  · refine ag_iconst dd_M_isHour_7 ?_
    refine ag_goto (tgt := 12) dd_M_isHour_8 (by decide) ?_
    refine ag_zret dd_M_isHour_12 rfl (by first | exact Or.inl rfl | exact Or.inr rfl | omega) ?_
    exact ⟨by first | rw [if_pos (by omega)] | rw [if_neg (by omega)], rfl⟩
