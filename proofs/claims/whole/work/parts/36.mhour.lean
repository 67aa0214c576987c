def sp_ct (S : ms_T) (f : Nat) (g : Int) : ms_T := (S.1, ai_up (ai_up S.2 46 (ai_up (S.2 46) f 1)) 48 (ai_up (S.2 48) f g))
def sp_cut (S : ms_T) (f g : Int) : Option av_T × ms_T := if (0 ≤ f ∧ f < S.1 2) ∧ S.2 46 f.toNat = 0 ∧ (1 ≤ g ∧ g ≤ 9) ∧ g ≤ sp_fg S ∧ (sp_turn S = S.2 40 f.toNat ∨ 0 ≤ S.2 49 f.toNat) then (some (av_i 1), sp_ct (if sp_turn S = S.2 40 f.toNat then sp_thr S (S.2 40 f.toNat) else S) f.toNat g) else (some (av_i 0), S)
def sp_fire (S : ms_T) (f : Int) : Option av_T × ms_T := if (0 ≤ f ∧ f < S.1 2) ∧ S.2 46 f.toNat = 0 ∧ S.2 49 f.toNat < 0 then (some (av_i 1), (S.1, ai_up (ai_up S.2 50 (ai_up (S.2 50) f.toNat (if sp_swt S f.toNat (S.1 0) - 2 < 0 then 0 else sp_swt S f.toNat (S.1 0) - 2))) 49 (ai_up (S.2 49) f.toNat (S.1 0)))) else (some (av_i 0), S)
theorem sp_fg_b {S : ms_T} (hfs : iv_fs S) (hg : 1 ≤ S.1 4 ∧ S.1 4 ≤ 9) : -200 ≤ sp_fg S ∧ sp_fg S ≤ 9 := by
  have h := sp_fgN_b hfs hg (S.1 2).toNat (by have := hfs.1; omega)
  have := hfs.1
  unfold sp_fg
  omega
set_option maxHeartbeats 1000000 in
theorem mc_M_cut {w : aw_T} {h0 h : ah_T} {S : ms_T} {d : Nat} (hd : 2 ≤ d) (hM : mo_I h0 h S) {f : Int} (hf : -2147483648 ≤ f ∧ f < 2147483648) {g : Int} (hg : -2147483648 ≤ g ∧ g < 2147483648) (hfs : iv_fs S) (hg4 : 1 ≤ S.1 4 ∧ S.1 4 ≤ 9) (hfm : S.1 1 ≤ 10) (ho : iv_ord S) : am_M w mm_M_cut d [av_r 38, av_i f, av_i g] h 0 0 (mo_P h0 (sp_cut S f g)) := by
  refine am_intro [some (av_r 38), some (av_i (f)), some (av_i (g)), none] (by decide +kernel) (Nat.le_of_ble_eq_true rfl) rfl ?_
  have htb := sp_turn_b ho
  have hgb := sp_fg_b hfs hg4
  have hf2 := hfs.1
  refine ag_aload_n dd_M_cut_0 rfl ?_
  refine ag_iload_n dd_M_cut_1 rfl ?_
  refine ag_rV dd_M_cut_2 fi_M_180 (mr_38 hM) rfl (mc_M_isField (d := 1) (by omega) hM (by omega) (by omega)) rfl rfl (by omega) (Nat.le_of_ble_eq_true rfl) ?_
  refine ag_if_eqB (tgt := 35) dd_M_cut_5 (by decide) (fun c1 => ?_) (fun c1 => ?_)
  · refine ag_iconst dd_M_cut_35 ?_
    refine ag_zret dd_M_cut_36 rfl (by first | exact Or.inl rfl | exact Or.inr rfl | omega) ?_
    unfold sp_cut
    rw [if_neg (by omega)]
    exact ⟨rfl, hM⟩
  · obtain ⟨n, rfl⟩ : ∃ n : Nat, f = (n : Int) := ⟨f.toNat, by omega⟩
    obtain ⟨h40, -, -, -, -, -, h46, -, h48, h49, h50, -⟩ := hfs.2 n (by omega)
    refine ag_aload_n dd_M_cut_8 rfl ?_
    refine ag_get dd_M_cut_9 fg_M_45 (mr_38 hM) rfl ?_
    refine ag_iload_n dd_M_cut_12 rfl ?_
    refine ag_ialdN dd_M_cut_13 (mr_46 hM) (by decide) (by omega) ?_
    refine ag_if_ne (tgt := 35) dd_M_cut_14 (by decide) (by omega) (fun c2 => ?_) (fun c2 => ?_)
    · refine ag_iconst dd_M_cut_35 ?_
      refine ag_zret dd_M_cut_36 rfl (by first | exact Or.inl rfl | exact Or.inr rfl | omega) ?_
      unfold sp_cut
      simp only [Int.toNat_natCast]
      rw [if_neg (by omega)]
      exact ⟨rfl, hM⟩
    · refine ag_iload_n dd_M_cut_17 rfl ?_
      refine ag_iconst dd_M_cut_18 ?_
      refine ag_bipush dd_M_cut_19 (by decide +kernel) ?_
      refine ag_rS dd_M_cut_21 fi_M_155 (mc_M_isIn (d := 0) (by omega) (by omega) (by omega)) rfl rfl (by omega) (Nat.le_of_ble_eq_true rfl) ?_
      refine ag_if_eqB (tgt := 35) dd_M_cut_24 (by decide) (fun c3 => ?_) (fun c3 => ?_)
      · refine ag_iconst dd_M_cut_35 ?_
        refine ag_zret dd_M_cut_36 rfl (by first | exact Or.inl rfl | exact Or.inr rfl | omega) ?_
        unfold sp_cut
        simp only [Int.toNat_natCast]
        rw [if_neg (by omega)]
        exact ⟨rfl, hM⟩
      · refine ag_iload_n dd_M_cut_27 rfl ?_
        refine ag_aload_n dd_M_cut_28 rfl ?_
        refine ag_rV dd_M_cut_29 fi_M_184 (mr_38 hM) rfl (mc_M_freeGangs (d := 0) (by omega) hM hfs (by omega)) rfl rfl (by omega) (Nat.le_of_ble_eq_true rfl) ?_
        refine ag_icmp_le (tgt := 37) dd_M_cut_32 (by decide) (by omega) (by omega) (fun c4 => ?_) (fun c4 => ?_)
        · refine ag_aload_n dd_M_cut_37 rfl ?_
          refine ag_rV dd_M_cut_38 fi_M_176 (mr_38 hM) rfl (mc_M_turn (d := 0) (by omega) hM ho) rfl rfl (by omega) (Nat.le_of_ble_eq_true rfl) ?_
          refine ag_aload_n dd_M_cut_41 rfl ?_
          refine ag_get dd_M_cut_42 fg_M_26 (mr_38 hM) rfl ?_
          refine ag_iload_n dd_M_cut_45 rfl ?_
          refine ag_ialdN dd_M_cut_46 (mr_40 hM) (by decide) (by omega) ?_
          refine ag_icmp_ne (tgt := 54) dd_M_cut_47 (by decide) (by omega) (by omega) (fun c5 => ?_) (fun c5 => ?_)
          · refine ag_iconst dd_M_cut_54 ?_
            refine ag_istore_n (L' := [some (av_r 38), some (av_i ((n : Int))), some (av_i (g)), some (av_i (0))]) dd_M_cut_55 rfl rfl (by decide) ?_
            refine ag_iload_n dd_M_cut_56 rfl ?_
            refine ag_if_ne (tgt := 71) dd_M_cut_57 (by decide) (by omega) (fun c6 => ?_) (fun c6 => ?_)
            · exfalso; omega
            · refine ag_aload_n dd_M_cut_60 rfl ?_
              refine ag_get dd_M_cut_61 fg_M_54 (mr_38 hM) rfl ?_
              refine ag_iload_n dd_M_cut_64 rfl ?_
              refine ag_ialdN dd_M_cut_65 (mr_49 hM) (by decide) (by omega) ?_
              refine ag_if_ge (tgt := 71) dd_M_cut_66 (by decide) (by omega) (fun c7 => ?_) (fun c7 => ?_)
              · refine ag_iload_n dd_M_cut_71 rfl ?_
                refine ag_if_eq (tgt := 87) dd_M_cut_72 (by decide) (by omega) (fun c8 => ?_) (fun c8 => ?_)
                · refine ag_aload_n dd_M_cut_87 rfl ?_
                  refine ag_get dd_M_cut_88 fg_M_45 (mr_38 hM) rfl ?_
                  refine ag_iload_n dd_M_cut_91 rfl ?_
                  refine ag_iconst dd_M_cut_92 ?_
                  refine ms_46N dd_M_cut_93 hM (by omega) (fun h S9 eS9 hM => ?_)
                  refine ag_aload_n dd_M_cut_94 rfl ?_
                  refine ag_get dd_M_cut_95 fg_M_51 (mr_38 hM) rfl ?_
                  refine ag_iload_n dd_M_cut_98 rfl ?_
                  refine ag_iload_n dd_M_cut_99 rfl ?_
                  refine ms_48N dd_M_cut_100 hM (by omega) (fun h S10 eS10 hM => ?_)
                  refine ag_iconst dd_M_cut_101 ?_
                  refine ag_zret dd_M_cut_102 rfl (by first | exact Or.inl rfl | exact Or.inr rfl | omega) ?_
                  unfold sp_cut
                  simp only [Int.toNat_natCast]
                  rw [if_pos (by omega)]
                  first | rw [if_pos (by omega)] | rw [if_neg (by omega)]
                  subst_vars
                  exact ⟨rfl, hM⟩
                · exfalso; omega
              · refine ag_iconst dd_M_cut_69 ?_
                refine ag_zret dd_M_cut_70 rfl (by first | exact Or.inl rfl | exact Or.inr rfl | omega) ?_
                unfold sp_cut
                simp only [Int.toNat_natCast]
                rw [if_neg (by omega)]
                exact ⟨rfl, hM⟩
          · refine ag_iconst dd_M_cut_50 ?_
            refine ag_goto (tgt := 55) dd_M_cut_51 (by decide) ?_
            refine ag_istore_n (L' := [some (av_r 38), some (av_i ((n : Int))), some (av_i (g)), some (av_i (1))]) dd_M_cut_55 rfl rfl (by decide) ?_
            refine ag_iload_n dd_M_cut_56 rfl ?_
            refine ag_if_ne (tgt := 71) dd_M_cut_57 (by decide) (by omega) (fun c11 => ?_) (fun c11 => ?_)
            · refine ag_iload_n dd_M_cut_71 rfl ?_
              refine ag_if_eq (tgt := 87) dd_M_cut_72 (by decide) (by omega) (fun c12 => ?_) (fun c12 => ?_)
              · exfalso; omega
              · refine ag_aload_n dd_M_cut_75 rfl ?_
                refine ag_get dd_M_cut_76 fg_M_113 (mr_38 hM) rfl ?_
                refine ag_aload_n dd_M_cut_79 rfl ?_
                refine ag_get dd_M_cut_80 fg_M_26 (mr_38 hM) rfl ?_
                refine ag_iload_n dd_M_cut_83 rfl ?_
                refine ag_ialdN dd_M_cut_84 (mr_40 hM) (by decide) (by omega) ?_
                refine ag_iconst dd_M_cut_85 ?_
                refine ms_67 dd_M_cut_86 hM (by omega) (by first | exact Or.inl rfl | exact Or.inr rfl | omega) (fun h S13 eS13 hM => ?_)
                refine ag_aload_n dd_M_cut_87 rfl ?_
                refine ag_get dd_M_cut_88 fg_M_45 (mr_38 hM) rfl ?_
                refine ag_iload_n dd_M_cut_91 rfl ?_
                refine ag_iconst dd_M_cut_92 ?_
                refine ms_46N dd_M_cut_93 hM (by omega) (fun h S14 eS14 hM => ?_)
                refine ag_aload_n dd_M_cut_94 rfl ?_
                refine ag_get dd_M_cut_95 fg_M_51 (mr_38 hM) rfl ?_
                refine ag_iload_n dd_M_cut_98 rfl ?_
                refine ag_iload_n dd_M_cut_99 rfl ?_
                refine ms_48N dd_M_cut_100 hM (by omega) (fun h S15 eS15 hM => ?_)
                refine ag_iconst dd_M_cut_101 ?_
                refine ag_zret dd_M_cut_102 rfl (by first | exact Or.inl rfl | exact Or.inr rfl | omega) ?_
                unfold sp_cut
                simp only [Int.toNat_natCast]
                rw [if_pos (by omega)]
                first | rw [if_pos (by omega)] | rw [if_neg (by omega)]
                subst_vars
                exact ⟨rfl, hM⟩
            · exfalso; omega
        · refine ag_iconst dd_M_cut_35 ?_
          refine ag_zret dd_M_cut_36 rfl (by first | exact Or.inl rfl | exact Or.inr rfl | omega) ?_
          unfold sp_cut
          simp only [Int.toNat_natCast]
          rw [if_neg (by omega)]
          exact ⟨rfl, hM⟩
set_option maxHeartbeats 1000000 in
theorem mc_M_fire {w : aw_T} {h0 h : ah_T} {S : ms_T} {d : Nat} (hd : 2 ≤ d) (hM : mo_I h0 h S) {f : Int} (hf : -2147483648 ≤ f ∧ f < 2147483648) (hfs : iv_fs S) (hc : 0 ≤ S.1 0 ∧ S.1 0 ≤ 4000) : am_M w mm_M_fire d [av_r 38, av_i f] h 0 0 (mo_P h0 (sp_fire S f)) := by
  refine am_intro [some (av_r 38), some (av_i (f)), none] (by decide +kernel) (Nat.le_of_ble_eq_true rfl) rfl ?_
  have hf2 := hfs.1
  refine ag_aload_n dd_M_fire_0 rfl ?_
  refine ag_iload_n dd_M_fire_1 rfl ?_
  refine ag_rV dd_M_fire_2 fi_M_180 (mr_38 hM) rfl (mc_M_isField (d := 1) (by omega) hM (by omega) (by omega)) rfl rfl (by omega) (Nat.le_of_ble_eq_true rfl) ?_
  refine ag_if_eqB (tgt := 26) dd_M_fire_5 (by decide) (fun c1 => ?_) (fun c1 => ?_)
  · refine ag_iconst dd_M_fire_26 ?_
    refine ag_zret dd_M_fire_27 rfl (by first | exact Or.inl rfl | exact Or.inr rfl | omega) ?_
    unfold sp_fire
    rw [if_neg (by omega)]
    exact ⟨rfl, hM⟩
  · obtain ⟨n, rfl⟩ : ∃ n : Nat, f = (n : Int) := ⟨f.toNat, by omega⟩
    have hfn := (hfs.2 n (by omega))
    have hsb := sp_swt_b (t := S.1 0) hfn
    obtain ⟨h40, -, -, -, -, -, h46, -, h48, h49, h50, -⟩ := id hfn
    refine ag_aload_n dd_M_fire_8 rfl ?_
    refine ag_get dd_M_fire_9 fg_M_45 (mr_38 hM) rfl ?_
    refine ag_iload_n dd_M_fire_12 rfl ?_
    refine ag_ialdN dd_M_fire_13 (mr_46 hM) (by decide) (by omega) ?_
    refine ag_if_ne (tgt := 26) dd_M_fire_14 (by decide) (by omega) (fun c2 => ?_) (fun c2 => ?_)
    · refine ag_iconst dd_M_fire_26 ?_
      refine ag_zret dd_M_fire_27 rfl (by first | exact Or.inl rfl | exact Or.inr rfl | omega) ?_
      unfold sp_fire
      simp only [Int.toNat_natCast]
      rw [if_neg (by omega)]
      exact ⟨rfl, hM⟩
    · refine ag_aload_n dd_M_fire_17 rfl ?_
      refine ag_get dd_M_fire_18 fg_M_54 (mr_38 hM) rfl ?_
      refine ag_iload_n dd_M_fire_21 rfl ?_
      refine ag_ialdN dd_M_fire_22 (mr_49 hM) (by decide) (by omega) ?_
      refine ag_if_lt (tgt := 28) dd_M_fire_23 (by decide) (by omega) (fun c3 => ?_) (fun c3 => ?_)
      · refine ag_aload_n dd_M_fire_28 rfl ?_
        refine ag_iload_n dd_M_fire_29 rfl ?_
        refine ag_aload_n dd_M_fire_30 rfl ?_
        refine ag_get dd_M_fire_31 fg_M_159 (mr_38 hM) rfl ?_
        refine ag_rV dd_M_fire_34 fi_M_187 (mr_38 hM) rfl (mc_M_sweetAt (d := 0) (by omega) hM (by omega) hfn.sw (by omega)) rfl rfl (by omega) (Nat.le_of_ble_eq_true rfl) ?_
        refine ag_iconst dd_M_fire_37 ?_
        refine ag_isub dd_M_fire_38 ?_
        refine ag_istore_nN (Lf := fun y => [some (av_r 38), some (av_i ((n : Int))), some (av_i (y))]) dd_M_fire_39 (fun _ => rfl) rfl (by decide) (fun y4 ey4 => ?_)
        refine ag_aload_n dd_M_fire_40 rfl ?_
        refine ag_get dd_M_fire_41 fg_M_57 (mr_38 hM) rfl ?_
        refine ag_iload_n dd_M_fire_44 rfl ?_
        refine ag_iload_n dd_M_fire_45 rfl ?_
        refine ag_if_ge (tgt := 53) dd_M_fire_46 (by decide) (by omega) (fun c5 => ?_) (fun c5 => ?_)
        · refine ag_iload_n dd_M_fire_53 rfl ?_
          refine ms_50N dd_M_fire_54 hM (by omega) (fun h S6 eS6 hM => ?_)
          refine ag_aload_n dd_M_fire_55 rfl ?_
          refine ag_get dd_M_fire_56 fg_M_54 (mr_38 hM) rfl ?_
          refine ag_iload_n dd_M_fire_59 rfl ?_
          refine ag_aload_n dd_M_fire_60 rfl ?_
          refine ag_get dd_M_fire_61 fg_M_159 (mr_38 hM) rfl ?_
          refine ms_49N dd_M_fire_64 hM (by omega) (fun h S7 eS7 hM => ?_)
          refine ag_iconst dd_M_fire_65 ?_
          refine ag_zret dd_M_fire_66 rfl (by first | exact Or.inl rfl | exact Or.inr rfl | omega) ?_
          unfold sp_fire
          simp only [Int.toNat_natCast]
          rw [if_pos (by omega)]
          first | rw [if_pos (by omega)] | rw [if_neg (by omega)]
          subst_vars
          exact ⟨rfl, hM⟩
        · refine ag_iconst dd_M_fire_49 ?_
          refine ag_goto (tgt := 54) dd_M_fire_50 (by decide) ?_
          refine ms_50N dd_M_fire_54 hM (by omega) (fun h S8 eS8 hM => ?_)
          refine ag_aload_n dd_M_fire_55 rfl ?_
          refine ag_get dd_M_fire_56 fg_M_54 (mr_38 hM) rfl ?_
          refine ag_iload_n dd_M_fire_59 rfl ?_
          refine ag_aload_n dd_M_fire_60 rfl ?_
          refine ag_get dd_M_fire_61 fg_M_159 (mr_38 hM) rfl ?_
          refine ms_49N dd_M_fire_64 hM (by omega) (fun h S9 eS9 hM => ?_)
          refine ag_iconst dd_M_fire_65 ?_
          refine ag_zret dd_M_fire_66 rfl (by first | exact Or.inl rfl | exact Or.inr rfl | omega) ?_
          unfold sp_fire
          simp only [Int.toNat_natCast]
          rw [if_pos (by omega)]
          first | rw [if_pos (by omega)] | rw [if_neg (by omega)]
          subst_vars
          exact ⟨rfl, hM⟩
      · refine ag_iconst dd_M_fire_26 ?_
        refine ag_zret dd_M_fire_27 rfl (by first | exact Or.inl rfl | exact Or.inr rfl | omega) ?_
        unfold sp_fire
        simp only [Int.toNat_natCast]
        rw [if_neg (by omega)]
        exact ⟨rfl, hM⟩
set_option maxHeartbeats 1000000 in
theorem mc_M_left {w : aw_T} {h0 h : ah_T} {S : ms_T} {d : Nat} (hd : 0 ≤ d) (hM : mo_I h0 h S) (hI : iv_S S) {l : Nat} (hl : (l : Int) < S.1 3) : am_M w mm_M_left d [av_r 38, av_i (l : Int)] h 0 0 (fun r h' => r = some (av_i (sp_left S l)) ∧ h' = h) := by
  refine am_intro [some (av_r 38), some (av_i ((l : Int)))] (by decide +kernel) (Nat.le_of_ble_eq_true rfl) rfl ?_
  have hb := sp_left_b hI hl
  have h3 := hI.1.2.2.2.1
  have h2 := hI.1.2.2.1
  refine ag_aload_n dd_M_left_0 rfl ?_
  refine ag_get dd_M_left_1 fg_M_30 (mr_38 hM) rfl ?_
  refine ag_aload_n dd_M_left_4 rfl ?_
  refine ag_get dd_M_left_5 fg_M_73 (mr_38 hM) rfl ?_
  refine ag_iload_n dd_M_left_8 rfl ?_
  refine ag_ialdN dd_M_left_9 (mr_55 hM) (by decide) (by omega) ?_
  refine ag_iald dd_M_left_10 (mr_41 hM) (by decide) (by omega) ?_
  refine ag_aload_n dd_M_left_11 rfl ?_
  refine ag_get dd_M_left_12 fg_M_88 (mr_38 hM) rfl ?_
  refine ag_iload_n dd_M_left_15 rfl ?_
  refine ag_ialdN dd_M_left_16 (mr_60 hM) (by decide) (by omega) ?_
  refine ag_isub dd_M_left_17 ?_
  refine ag_aload_n dd_M_left_18 rfl ?_
  refine ag_get dd_M_left_19 fg_M_91 (mr_38 hM) rfl ?_
  refine ag_iload_n dd_M_left_22 rfl ?_
  refine ag_ialdN dd_M_left_23 (mr_61 hM) (by decide) (by omega) ?_
  refine ag_isub dd_M_left_24 ?_
  refine ag_iret dd_M_left_25 rfl ?_
  exact ⟨rfl, rfl⟩
set_option maxHeartbeats 1000000 in
theorem mc_M_cutOn {w : aw_T} {h0 h : ah_T} {S : ms_T} {d : Nat} (hd : 1 ≤ d) (hM : mo_I h0 h S) (hI : iv_S S) {f : Nat} (hf : (f : Int) < S.1 2) (h1 : S.2 46 f = 1) (hc : S.1 0 ≤ 3999) : am_M w mm_M_cutOn d [av_r 38, av_i (f : Int)] h 0 0 (mo_P h0 (none, sp_co S f)) := by
  refine am_intro [some (av_r 38), some (av_i ((f : Int))), none, none] (by decide +kernel) (Nat.le_of_ble_eq_true rfl) rfl ?_
  obtain ⟨hfn, hgn⟩ := hI.2.1 f hf
  have hb := sp_dn_b hfn hI.1.2.2.2.2.2.1
  have a0 := hI.1.1
  have a2 := hI.1.2.2.1
  have a3 := hI.1.2.2.2.1
  obtain ⟨b40, b41, b42, b43, b44, b45, b46, b47, b48, b49, b50, b51⟩ := id hfn
  refine ag_aload_n dd_M_cutOn_0 rfl ?_
  refine ag_get dd_M_cutOn_1 fg_M_13 (mr_38 hM) rfl ?_
  refine ag_aload_n dd_M_cutOn_4 rfl ?_
  refine ag_get dd_M_cutOn_5 fg_M_51 (mr_38 hM) rfl ?_
  refine ag_iload_n dd_M_cutOn_8 rfl ?_
  refine ag_ialdN dd_M_cutOn_9 (mr_48 hM) (by decide) (by omega) ?_
  refine ag_imul dd_M_cutOn_10 ?_
  refine ag_istore_nN (Lf := fun y => [some (av_r 38), some (av_i ((f : Int))), some (av_i (y)), none]) dd_M_cutOn_11 (fun _ => rfl) rfl (by decide) (fun y1 ey1 => ?_)
  refine ag_aload_n dd_M_cutOn_12 rfl ?_
  refine ag_get dd_M_cutOn_13 fg_M_48 (mr_38 hM) rfl ?_
  refine ag_iload_n dd_M_cutOn_16 rfl ?_
  refine ag_aload_n dd_M_cutOn_17 rfl ?_
  refine ag_get dd_M_cutOn_18 fg_M_48 (mr_38 hM) rfl ?_
  refine ag_iload_n dd_M_cutOn_21 rfl ?_
  refine ag_ialdN dd_M_cutOn_22 (mr_47 hM) (by decide) (by omega) ?_
  refine ag_iload_n dd_M_cutOn_23 rfl ?_
  refine ag_iadd dd_M_cutOn_24 ?_
  refine ag_aload_n dd_M_cutOn_25 rfl ?_
  refine ag_get dd_M_cutOn_26 fg_M_30 (mr_38 hM) rfl ?_
  refine ag_iload_n dd_M_cutOn_29 rfl ?_
  refine ag_ialdN dd_M_cutOn_30 (mr_41 hM) (by decide) (by omega) ?_
  refine ag_icmp_le (tgt := 43) dd_M_cutOn_31 (by decide) (by omega) (by omega) (fun c2 => ?_) (fun c2 => ?_)
  · refine ag_aload_n dd_M_cutOn_43 rfl ?_
    refine ag_get dd_M_cutOn_44 fg_M_48 (mr_38 hM) rfl ?_
    refine ag_iload_n dd_M_cutOn_47 rfl ?_
    refine ag_ialdN dd_M_cutOn_48 (mr_47 hM) (by decide) (by omega) ?_
    refine ag_iload_n dd_M_cutOn_49 rfl ?_
    refine ag_iadd dd_M_cutOn_50 ?_
    refine ms_47N dd_M_cutOn_51 hM (by omega) (fun h S3 eS3 hM => ?_)
    obtain rfl : S3 = sp_co1 S f := by
      rw [eS3]
      unfold sp_co1 sp_dn
      rw [← ey1]
      first | rw [if_pos (by omega)] | rw [if_neg (by omega)]
    have v47 : (sp_co1 S f).2 47 f = sp_dn S f := ai_up_s _ _ _
    have v41 : (sp_co1 S f).2 41 f = S.2 41 f := rfl
    refine ag_aload_n dd_M_cutOn_52 rfl ?_
    refine ag_get dd_M_cutOn_53 fg_M_48 (mr_38 hM) rfl ?_
    refine ag_iload_n dd_M_cutOn_56 rfl ?_
    refine ag_ialdN dd_M_cutOn_57 (mr_47 hM) (by decide) (by omega) ?_
    refine ag_aload_n dd_M_cutOn_58 rfl ?_
    refine ag_get dd_M_cutOn_59 fg_M_30 (mr_38 hM) rfl ?_
    refine ag_iload_n dd_M_cutOn_62 rfl ?_
    refine ag_ialdN dd_M_cutOn_63 (mr_41 hM) (by decide) (by omega) ?_
    refine ag_icmp_ge (tgt := 68) dd_M_cutOn_64 (by decide) (by omega) (by omega) (fun c4 => ?_) (fun c4 => ?_)
    · have hr := iv_room hI hf (by omega)
      refine ag_aload_n dd_M_cutOn_68 rfl ?_
      refine ag_get dd_M_cutOn_69 fg_M_45 (mr_38 hM) rfl ?_
      refine ag_iload_n dd_M_cutOn_72 rfl ?_
      refine ag_iconst dd_M_cutOn_73 ?_
      refine ms_46N dd_M_cutOn_74 hM (by omega) (fun h S5 eS5 hM => ?_)
      refine ag_aload_n dd_M_cutOn_75 rfl ?_
      refine ag_get dd_M_cutOn_76 fg_M_51 (mr_38 hM) rfl ?_
      refine ag_iload_n dd_M_cutOn_79 rfl ?_
      refine ag_iconst dd_M_cutOn_80 ?_
      refine ms_48N dd_M_cutOn_81 hM (by omega) (fun h S6 eS6 hM => ?_)
      refine ag_aload_n dd_M_cutOn_82 rfl ?_
      refine ag_get dd_M_cutOn_83 fg_M_191 (mr_38 hM) rfl ?_
      refine ag_istore_nN (Lf := fun y => [some (av_r 38), some (av_i ((f : Int))), some (av_i (y1)), some (av_i (y))]) dd_M_cutOn_86 (fun _ => rfl) rfl (by decide) (fun y7 ey7 => ?_)
      obtain rfl : y7 = S.1 3 := by
        rw [ey7]
        subst_vars
        rfl
      refine ag_aload_n dd_M_cutOn_87 rfl ?_
      refine ag_dup dd_M_cutOn_88 rfl ?_
      refine ag_get dd_M_cutOn_89 fg_M_191 (mr_38 hM) rfl ?_
      refine ag_iconst dd_M_cutOn_92 ?_
      refine ag_iadd dd_M_cutOn_93 ?_
      refine mp_3 dd_M_cutOn_94 fp_M_191 hM (fun h S8 eS8 hM => ?_)
      refine ag_aload_n dd_M_cutOn_97 rfl ?_
      refine ag_get dd_M_cutOn_98 fg_M_60 (mr_38 hM) rfl ?_
      refine ag_iload_n dd_M_cutOn_101 rfl ?_
      refine ag_iload_n dd_M_cutOn_102 rfl ?_
      refine ms_51N dd_M_cutOn_103 hM (by omega) (fun h S9 eS9 hM => ?_)
      refine ag_aload_n dd_M_cutOn_104 rfl ?_
      refine ag_get dd_M_cutOn_105 fg_M_73 (mr_38 hM) rfl ?_
      refine ag_iload_n dd_M_cutOn_108 rfl ?_
      refine ag_iload_n dd_M_cutOn_109 rfl ?_
      refine ms_55 dd_M_cutOn_110 hM (by omega) (fun h S10 eS10 hM => ?_)
      refine ag_aload_n dd_M_cutOn_111 rfl ?_
      refine ag_get dd_M_cutOn_112 fg_M_76 (mr_38 hM) rfl ?_
      refine ag_iload_n dd_M_cutOn_115 rfl ?_
      refine ag_aload_n dd_M_cutOn_116 rfl ?_
      refine ag_get dd_M_cutOn_117 fg_M_159 (mr_38 hM) rfl ?_
      refine ag_iconst dd_M_cutOn_120 ?_
      refine ag_iadd dd_M_cutOn_121 ?_
      refine ms_56 dd_M_cutOn_122 hM (by omega) (fun h S11 eS11 hM => ?_)
      refine ag_aload_n dd_M_cutOn_123 rfl ?_
      refine ag_get dd_M_cutOn_124 fg_M_79 (mr_38 hM) rfl ?_
      refine ag_iload_n dd_M_cutOn_127 rfl ?_
      refine ag_aload_n dd_M_cutOn_128 rfl ?_
      refine ag_iload_n dd_M_cutOn_129 rfl ?_
      refine ag_aload_n dd_M_cutOn_130 rfl ?_
      refine ag_get dd_M_cutOn_131 fg_M_159 (mr_38 hM) rfl ?_
      refine ag_iconst dd_M_cutOn_134 ?_
      refine ag_iadd dd_M_cutOn_135 ?_
      have hs0 : S11.1 0 = S.1 0 := by subst_vars; rfl
      have hsw : iv_sw S11 f := by subst_vars; exact hfn.sw
      refine ag_rV dd_M_cutOn_136 fi_M_187 (mr_38 hM) rfl (mc_M_sweetAt (d := 0) (by omega) hM (by omega) hsw (by omega)) rfl rfl (by omega) (Nat.le_of_ble_eq_true rfl) ?_
      refine ms_57 dd_M_cutOn_139 hM (by omega) (fun h S12 eS12 hM => ?_)
      refine ag_aload_n dd_M_cutOn_140 rfl ?_
      refine ag_get dd_M_cutOn_141 fg_M_82 (mr_38 hM) rfl ?_
      refine ag_iload_n dd_M_cutOn_144 rfl ?_
      refine ag_aload_n dd_M_cutOn_145 rfl ?_
      refine ag_get dd_M_cutOn_146 fg_M_159 (mr_38 hM) rfl ?_
      refine ag_iconst dd_M_cutOn_149 ?_
      refine ag_iadd dd_M_cutOn_150 ?_
      refine ag_aload_n dd_M_cutOn_151 rfl ?_
      refine ag_get dd_M_cutOn_152 fg_M_54 (mr_38 hM) rfl ?_
      have v49 : S12.2 49 f = S.2 49 f := by subst_vars; rfl
      refine ag_iload_n dd_M_cutOn_155 rfl ?_
      refine ag_ialdN dd_M_cutOn_156 (mr_49 hM) (by decide) (by omega) ?_
      refine ag_if_lt (tgt := 165) dd_M_cutOn_157 (by decide) (by omega) (fun c13 => ?_) (fun c13 => ?_)
      · refine ag_bipush dd_M_cutOn_165 (by decide +kernel) ?_
        refine ag_iadd dd_M_cutOn_167 ?_
        refine ms_58 dd_M_cutOn_168 hM (by omega) (fun h S14 eS14 hM => ?_)
        refine ag_aload_n dd_M_cutOn_169 rfl ?_
        refine ag_get dd_M_cutOn_170 fg_M_85 (mr_38 hM) rfl ?_
        refine ag_iload_n dd_M_cutOn_173 rfl ?_
        refine ag_iconst dd_M_cutOn_174 ?_
        refine ms_59 dd_M_cutOn_175 hM (by omega) (fun h S15 eS15 hM => ?_)
        refine ag_aload_n dd_M_cutOn_176 rfl ?_
        refine ag_get dd_M_cutOn_177 fg_M_94 (mr_38 hM) rfl ?_
        refine ag_iload_n dd_M_cutOn_180 rfl ?_
        refine ag_iconst dd_M_cutOn_181 ?_
        refine ms_62 dd_M_cutOn_182 hM (by omega) (fun h S16 eS16 hM => ?_)
        refine ag_aload_n dd_M_cutOn_183 rfl ?_
        refine ag_get dd_M_cutOn_184 fg_M_97 (mr_38 hM) rfl ?_
        refine ag_iload_n dd_M_cutOn_187 rfl ?_
        refine ag_ldc (a := -2000000000) dd_M_cutOn_188 fc_M_194 (by decide +kernel) ?_
        refine ms_63 dd_M_cutOn_190 hM (by omega) (fun h S17 eS17 hM => ?_)
        refine ag_vret dd_M_cutOn_191 rfl ?_
        unfold sp_co
        rw [if_neg (by omega)]
        refine ⟨rfl, ?_⟩
        have eN : S17 = sp_nl S f := by
          unfold sp_nl
          first | rw [if_pos (by omega)] | rw [if_neg (by omega)]
          subst_vars
          rfl
        rw [← eN]
        exact hM
      · refine ag_bipush dd_M_cutOn_160 (by decide +kernel) ?_
        refine ag_goto (tgt := 167) dd_M_cutOn_162 (by decide) ?_
        refine ag_iadd dd_M_cutOn_167 ?_
        refine ms_58 dd_M_cutOn_168 hM (by omega) (fun h S18 eS18 hM => ?_)
        refine ag_aload_n dd_M_cutOn_169 rfl ?_
        refine ag_get dd_M_cutOn_170 fg_M_85 (mr_38 hM) rfl ?_
        refine ag_iload_n dd_M_cutOn_173 rfl ?_
        refine ag_iconst dd_M_cutOn_174 ?_
        refine ms_59 dd_M_cutOn_175 hM (by omega) (fun h S19 eS19 hM => ?_)
        refine ag_aload_n dd_M_cutOn_176 rfl ?_
        refine ag_get dd_M_cutOn_177 fg_M_94 (mr_38 hM) rfl ?_
        refine ag_iload_n dd_M_cutOn_180 rfl ?_
        refine ag_iconst dd_M_cutOn_181 ?_
        refine ms_62 dd_M_cutOn_182 hM (by omega) (fun h S20 eS20 hM => ?_)
        refine ag_aload_n dd_M_cutOn_183 rfl ?_
        refine ag_get dd_M_cutOn_184 fg_M_97 (mr_38 hM) rfl ?_
        refine ag_iload_n dd_M_cutOn_187 rfl ?_
        refine ag_ldc (a := -2000000000) dd_M_cutOn_188 fc_M_194 (by decide +kernel) ?_
        refine ms_63 dd_M_cutOn_190 hM (by omega) (fun h S21 eS21 hM => ?_)
        refine ag_vret dd_M_cutOn_191 rfl ?_
        unfold sp_co
        rw [if_neg (by omega)]
        refine ⟨rfl, ?_⟩
        have eN : S21 = sp_nl S f := by
          unfold sp_nl
          first | rw [if_pos (by omega)] | rw [if_neg (by omega)]
          subst_vars
          rfl
        rw [← eN]
        exact hM
    · refine ag_vret dd_M_cutOn_67 rfl ?_
      unfold sp_co
      rw [if_pos (by omega)]
      exact ⟨rfl, hM⟩
  · refine ag_aload_n dd_M_cutOn_34 rfl ?_
    refine ag_get dd_M_cutOn_35 fg_M_30 (mr_38 hM) rfl ?_
    refine ag_iload_n dd_M_cutOn_38 rfl ?_
    refine ag_ialdN dd_M_cutOn_39 (mr_41 hM) (by decide) (by omega) ?_
    refine ag_goto (tgt := 51) dd_M_cutOn_40 (by decide) ?_
    refine ms_47N dd_M_cutOn_51 hM (by omega) (fun h S22 eS22 hM => ?_)
    obtain rfl : S22 = sp_co1 S f := by
      rw [eS22]
      unfold sp_co1 sp_dn
      rw [← ey1]
      first | rw [if_pos (by omega)] | rw [if_neg (by omega)]
    have v47 : (sp_co1 S f).2 47 f = sp_dn S f := ai_up_s _ _ _
    have v41 : (sp_co1 S f).2 41 f = S.2 41 f := rfl
    refine ag_aload_n dd_M_cutOn_52 rfl ?_
    refine ag_get dd_M_cutOn_53 fg_M_48 (mr_38 hM) rfl ?_
    refine ag_iload_n dd_M_cutOn_56 rfl ?_
    refine ag_ialdN dd_M_cutOn_57 (mr_47 hM) (by decide) (by omega) ?_
    refine ag_aload_n dd_M_cutOn_58 rfl ?_
    refine ag_get dd_M_cutOn_59 fg_M_30 (mr_38 hM) rfl ?_
    refine ag_iload_n dd_M_cutOn_62 rfl ?_
    refine ag_ialdN dd_M_cutOn_63 (mr_41 hM) (by decide) (by omega) ?_
    refine ag_icmp_ge (tgt := 68) dd_M_cutOn_64 (by decide) (by omega) (by omega) (fun c23 => ?_) (fun c23 => ?_)
    · have hr := iv_room hI hf (by omega)
      refine ag_aload_n dd_M_cutOn_68 rfl ?_
      refine ag_get dd_M_cutOn_69 fg_M_45 (mr_38 hM) rfl ?_
      refine ag_iload_n dd_M_cutOn_72 rfl ?_
      refine ag_iconst dd_M_cutOn_73 ?_
      refine ms_46N dd_M_cutOn_74 hM (by omega) (fun h S24 eS24 hM => ?_)
      refine ag_aload_n dd_M_cutOn_75 rfl ?_
      refine ag_get dd_M_cutOn_76 fg_M_51 (mr_38 hM) rfl ?_
      refine ag_iload_n dd_M_cutOn_79 rfl ?_
      refine ag_iconst dd_M_cutOn_80 ?_
      refine ms_48N dd_M_cutOn_81 hM (by omega) (fun h S25 eS25 hM => ?_)
      refine ag_aload_n dd_M_cutOn_82 rfl ?_
      refine ag_get dd_M_cutOn_83 fg_M_191 (mr_38 hM) rfl ?_
      refine ag_istore_nN (Lf := fun y => [some (av_r 38), some (av_i ((f : Int))), some (av_i (y1)), some (av_i (y))]) dd_M_cutOn_86 (fun _ => rfl) rfl (by decide) (fun y26 ey26 => ?_)
      obtain rfl : y26 = S.1 3 := by
        rw [ey26]
        subst_vars
        rfl
      refine ag_aload_n dd_M_cutOn_87 rfl ?_
      refine ag_dup dd_M_cutOn_88 rfl ?_
      refine ag_get dd_M_cutOn_89 fg_M_191 (mr_38 hM) rfl ?_
      refine ag_iconst dd_M_cutOn_92 ?_
      refine ag_iadd dd_M_cutOn_93 ?_
      refine mp_3 dd_M_cutOn_94 fp_M_191 hM (fun h S27 eS27 hM => ?_)
      refine ag_aload_n dd_M_cutOn_97 rfl ?_
      refine ag_get dd_M_cutOn_98 fg_M_60 (mr_38 hM) rfl ?_
      refine ag_iload_n dd_M_cutOn_101 rfl ?_
      refine ag_iload_n dd_M_cutOn_102 rfl ?_
      refine ms_51N dd_M_cutOn_103 hM (by omega) (fun h S28 eS28 hM => ?_)
      refine ag_aload_n dd_M_cutOn_104 rfl ?_
      refine ag_get dd_M_cutOn_105 fg_M_73 (mr_38 hM) rfl ?_
      refine ag_iload_n dd_M_cutOn_108 rfl ?_
      refine ag_iload_n dd_M_cutOn_109 rfl ?_
      refine ms_55 dd_M_cutOn_110 hM (by omega) (fun h S29 eS29 hM => ?_)
      refine ag_aload_n dd_M_cutOn_111 rfl ?_
      refine ag_get dd_M_cutOn_112 fg_M_76 (mr_38 hM) rfl ?_
      refine ag_iload_n dd_M_cutOn_115 rfl ?_
      refine ag_aload_n dd_M_cutOn_116 rfl ?_
      refine ag_get dd_M_cutOn_117 fg_M_159 (mr_38 hM) rfl ?_
      refine ag_iconst dd_M_cutOn_120 ?_
      refine ag_iadd dd_M_cutOn_121 ?_
      refine ms_56 dd_M_cutOn_122 hM (by omega) (fun h S30 eS30 hM => ?_)
      refine ag_aload_n dd_M_cutOn_123 rfl ?_
      refine ag_get dd_M_cutOn_124 fg_M_79 (mr_38 hM) rfl ?_
      refine ag_iload_n dd_M_cutOn_127 rfl ?_
      refine ag_aload_n dd_M_cutOn_128 rfl ?_
      refine ag_iload_n dd_M_cutOn_129 rfl ?_
      refine ag_aload_n dd_M_cutOn_130 rfl ?_
      refine ag_get dd_M_cutOn_131 fg_M_159 (mr_38 hM) rfl ?_
      refine ag_iconst dd_M_cutOn_134 ?_
      refine ag_iadd dd_M_cutOn_135 ?_
      have hs0 : S30.1 0 = S.1 0 := by subst_vars; rfl
      have hsw : iv_sw S30 f := by subst_vars; exact hfn.sw
      refine ag_rV dd_M_cutOn_136 fi_M_187 (mr_38 hM) rfl (mc_M_sweetAt (d := 0) (by omega) hM (by omega) hsw (by omega)) rfl rfl (by omega) (Nat.le_of_ble_eq_true rfl) ?_
      refine ms_57 dd_M_cutOn_139 hM (by omega) (fun h S31 eS31 hM => ?_)
      refine ag_aload_n dd_M_cutOn_140 rfl ?_
      refine ag_get dd_M_cutOn_141 fg_M_82 (mr_38 hM) rfl ?_
      refine ag_iload_n dd_M_cutOn_144 rfl ?_
      refine ag_aload_n dd_M_cutOn_145 rfl ?_
      refine ag_get dd_M_cutOn_146 fg_M_159 (mr_38 hM) rfl ?_
      refine ag_iconst dd_M_cutOn_149 ?_
      refine ag_iadd dd_M_cutOn_150 ?_
      refine ag_aload_n dd_M_cutOn_151 rfl ?_
      refine ag_get dd_M_cutOn_152 fg_M_54 (mr_38 hM) rfl ?_
      have v49 : S31.2 49 f = S.2 49 f := by subst_vars; rfl
      refine ag_iload_n dd_M_cutOn_155 rfl ?_
      refine ag_ialdN dd_M_cutOn_156 (mr_49 hM) (by decide) (by omega) ?_
      refine ag_if_lt (tgt := 165) dd_M_cutOn_157 (by decide) (by omega) (fun c32 => ?_) (fun c32 => ?_)
      · refine ag_bipush dd_M_cutOn_165 (by decide +kernel) ?_
        refine ag_iadd dd_M_cutOn_167 ?_
        refine ms_58 dd_M_cutOn_168 hM (by omega) (fun h S33 eS33 hM => ?_)
        refine ag_aload_n dd_M_cutOn_169 rfl ?_
        refine ag_get dd_M_cutOn_170 fg_M_85 (mr_38 hM) rfl ?_
        refine ag_iload_n dd_M_cutOn_173 rfl ?_
        refine ag_iconst dd_M_cutOn_174 ?_
        refine ms_59 dd_M_cutOn_175 hM (by omega) (fun h S34 eS34 hM => ?_)
        refine ag_aload_n dd_M_cutOn_176 rfl ?_
        refine ag_get dd_M_cutOn_177 fg_M_94 (mr_38 hM) rfl ?_
        refine ag_iload_n dd_M_cutOn_180 rfl ?_
        refine ag_iconst dd_M_cutOn_181 ?_
        refine ms_62 dd_M_cutOn_182 hM (by omega) (fun h S35 eS35 hM => ?_)
        refine ag_aload_n dd_M_cutOn_183 rfl ?_
        refine ag_get dd_M_cutOn_184 fg_M_97 (mr_38 hM) rfl ?_
        refine ag_iload_n dd_M_cutOn_187 rfl ?_
        refine ag_ldc (a := -2000000000) dd_M_cutOn_188 fc_M_194 (by decide +kernel) ?_
        refine ms_63 dd_M_cutOn_190 hM (by omega) (fun h S36 eS36 hM => ?_)
        refine ag_vret dd_M_cutOn_191 rfl ?_
        unfold sp_co
        rw [if_neg (by omega)]
        refine ⟨rfl, ?_⟩
        have eN : S36 = sp_nl S f := by
          unfold sp_nl
          first | rw [if_pos (by omega)] | rw [if_neg (by omega)]
          subst_vars
          rfl
        rw [← eN]
        exact hM
      · refine ag_bipush dd_M_cutOn_160 (by decide +kernel) ?_
        refine ag_goto (tgt := 167) dd_M_cutOn_162 (by decide) ?_
        refine ag_iadd dd_M_cutOn_167 ?_
        refine ms_58 dd_M_cutOn_168 hM (by omega) (fun h S37 eS37 hM => ?_)
        refine ag_aload_n dd_M_cutOn_169 rfl ?_
        refine ag_get dd_M_cutOn_170 fg_M_85 (mr_38 hM) rfl ?_
        refine ag_iload_n dd_M_cutOn_173 rfl ?_
        refine ag_iconst dd_M_cutOn_174 ?_
        refine ms_59 dd_M_cutOn_175 hM (by omega) (fun h S38 eS38 hM => ?_)
        refine ag_aload_n dd_M_cutOn_176 rfl ?_
        refine ag_get dd_M_cutOn_177 fg_M_94 (mr_38 hM) rfl ?_
        refine ag_iload_n dd_M_cutOn_180 rfl ?_
        refine ag_iconst dd_M_cutOn_181 ?_
        refine ms_62 dd_M_cutOn_182 hM (by omega) (fun h S39 eS39 hM => ?_)
        refine ag_aload_n dd_M_cutOn_183 rfl ?_
        refine ag_get dd_M_cutOn_184 fg_M_97 (mr_38 hM) rfl ?_
        refine ag_iload_n dd_M_cutOn_187 rfl ?_
        refine ag_ldc (a := -2000000000) dd_M_cutOn_188 fc_M_194 (by decide +kernel) ?_
        refine ms_63 dd_M_cutOn_190 hM (by omega) (fun h S40 eS40 hM => ?_)
        refine ag_vret dd_M_cutOn_191 rfl ?_
        unfold sp_co
        rw [if_neg (by omega)]
        refine ⟨rfl, ?_⟩
        have eN : S40 = sp_nl S f := by
          unfold sp_nl
          first | rw [if_pos (by omega)] | rw [if_neg (by omega)]
          subst_vars
          rfl
        rw [← eN]
        exact hM
    · refine ag_vret dd_M_cutOn_67 rfl ?_
      unfold sp_co
      rw [if_pos (by omega)]
      exact ⟨rfl, hM⟩
theorem sp_ft_eq (S : ms_T) : ∀ (r k : Nat), (∀ j, j < k → ¬ S.2 64 j ≤ S.1 0) → (k : Int) + r = S.1 6 → sp_ftN S r k = sp_ft S := by
  intro r k hk hr
  have key : ∀ (k r : Nat), (∀ j, j < k → ¬ S.2 64 j ≤ S.1 0) → sp_ftN S (k + r) 0 = sp_ftN S r k := by
    intro k
    have gen : ∀ (n i r : Nat), (∀ j, i ≤ j → j < i + n → ¬ S.2 64 j ≤ S.1 0) → sp_ftN S (n + r) i = sp_ftN S r (i + n) := by
      intro n
      induction n with
      | zero => intro i r _; rw [Nat.zero_add]; rfl
      | succ n ih =>
        intro i r h
        rw [show n + 1 + r = (n + r) + 1 by omega, sp_ftN, if_neg (h i (Nat.le_refl _) (by omega)), ih (i + 1) r (fun j h1 h2 => h j (by omega) (by omega))]
        rw [show i + 1 + n = i + (n + 1) by omega]
    intro r h
    have := gen k 0 r (fun j _ h2 => h j (by omega))
    rw [this, Nat.zero_add]
  unfold sp_ft
  rw [← key k r hk]
  congr 1
  omega
set_option maxHeartbeats 1000000 in
theorem ml_M_send2 {w : aw_T} {h0 h : ah_T} {S : ms_T} {d : Nat} (hd : 1 ≤ d) (hM : mo_I h0 h S) (hI : iv_S S) {l : Nat} (hl : (l : Int) < S.1 3) (hm : ¬ 0 ≤ S.2 59 l) (ho : ¬ 0 ≤ S.2 62 l) {P : ap_T} (hP : ∀ h, mo_I h0 h (sp_send S l) → P none h) {k : Nat} (hkt : sp_ft S = k) : aw_W w mm_M_send d P 48 [some (av_r 38), some (av_i ((l : Int))), some (av_i ((k : Int))), none] [] h 0 0 := by
  have a0 := hI.1.1
  have a3 := hI.1.2.2.2.1
  have a6 := hI.1.2.2.2.2.2.2.1
  have hlb := sp_left_b hI hl
  have a2 := hI.1.2.2.1
  obtain ⟨q1, q2, q3, q4, q5, q6, q7, q8, q9, q10, q11⟩ := hI.2.2.2.1 l hl
  have hft : 0 ≤ sp_ft S ∧ sp_ft S ≤ 0 + (S.1 6).toNat := sp_ftN_b S (S.1 6).toNat 0
  have hkm := iv_km hI hl
  have htb := sp_trip_b hkm
  refine ag_iload_n dd_M_send_48 rfl ?_
  refine ag_aload_n dd_M_send_49 rfl ?_
  refine ag_get dd_M_send_50 fg_M_16 (mr_38 hM) rfl ?_
  refine ag_icmp_ne (tgt := 57) dd_M_send_53 (by decide) (by omega) (by omega) (fun c1 => ?_) (fun c1 => ?_)
  · refine ag_aload_n dd_M_send_57 rfl ?_
    refine ag_get dd_M_send_58 fg_M_33 (mr_38 hM) rfl ?_
    refine ag_aload_n dd_M_send_61 rfl ?_
    refine ag_get dd_M_send_62 fg_M_73 (mr_38 hM) rfl ?_
    refine ag_iload_n dd_M_send_65 rfl ?_
    refine ag_ialdN dd_M_send_66 (mr_55 hM) (by decide) (by omega) ?_
    refine ag_iald dd_M_send_67 (mr_42 hM) (by decide) (by omega) ?_
    refine ag_rS dd_M_send_68 fi_M_195 (mc_M_trip (d := 0) (iv_km hI hl)) rfl rfl (by omega) (Nat.le_of_ble_eq_true rfl) ?_
    refine ag_istore_nN (Lf := fun y => [some (av_r 38), some (av_i ((l : Int))), some (av_i ((k : Int))), some (av_i (y))]) dd_M_send_71 (fun _ => rfl) rfl (by decide) (fun y2 ey2 => ?_)
    have e0 : y2 = sp_trip (S.2 42 (S.2 55 l).toNat) := ey2
    refine ag_aload_n dd_M_send_72 rfl ?_
    refine ag_get dd_M_send_73 fg_M_85 (mr_38 hM) rfl ?_
    refine ag_iload_n dd_M_send_76 rfl ?_
    refine ag_aload_n dd_M_send_77 rfl ?_
    refine ag_get dd_M_send_78 fg_M_159 (mr_38 hM) rfl ?_
    refine ag_iconst dd_M_send_81 ?_
    refine ag_iadd dd_M_send_82 ?_
    refine ag_iload_n dd_M_send_83 rfl ?_
    refine ag_iadd dd_M_send_84 ?_
    refine ms_59N dd_M_send_85 hM (by omega) (fun h S3 eS3 hM => ?_)
    refine ag_aload_n dd_M_send_86 rfl ?_
    refine ag_get dd_M_send_87 fg_M_100 (mr_38 hM) rfl ?_
    refine ag_iload_n dd_M_send_90 rfl ?_
    refine ag_aload_n dd_M_send_91 rfl ?_
    refine ag_get dd_M_send_92 fg_M_85 (mr_38 hM) rfl ?_
    refine ag_iload_n dd_M_send_95 rfl ?_
    refine ag_ialdN dd_M_send_96 (mr_59 hM) (by decide) (by omega) ?_
    refine ag_to (show S3.2 59 l = S.1 0 + 1 + y2 from by rw [eS3]; exact ai_up_s _ _ _) ?_
    refine ag_iload_n dd_M_send_97 rfl ?_
    refine ag_iadd dd_M_send_98 ?_
    refine ms_64N dd_M_send_99 hM (by omega) (fun h S4 eS4 hM => ?_)
    refine ag_vret dd_M_send_100 rfl ?_
    refine hP h ?_
    unfold sp_send
    rw [if_neg (by omega)]
    have eN : S4 = sp_go S l := by
      subst_vars
      rfl
    rw [← eN]
    exact hM
  · refine ag_vret dd_M_send_56 rfl ?_
    refine hP h ?_
    unfold sp_send
    rw [if_pos (by first | omega | exact Or.inr (Or.inr (by omega)))]
    exact hM
set_option maxHeartbeats 1000000 in
theorem ml_M_send {w : aw_T} {h0 h : ah_T} {S : ms_T} {d : Nat} (hd : 1 ≤ d) (hM : mo_I h0 h S) (hI : iv_S S) {l : Nat} (hl : (l : Int) < S.1 3) (hm : ¬ 0 ≤ S.2 59 l) (ho : ¬ 0 ≤ S.2 62 l) {P : ap_T} (hP : ∀ h, mo_I h0 h (sp_send S l) → P none h) : ∀ (r k : Nat), (k : Int) + r = S.1 6 → (∀ j, j < k → ¬ S.2 64 j ≤ S.1 0) → aw_W w mm_M_send d P 21 [some (av_r 38), some (av_i ((l : Int))), some (av_i ((k : Int))), none] [] h 0 0 := by
  intro r
  induction r with
  | zero =>
    intro k hk hk2
    have a0 := hI.1.1
    have a3 := hI.1.2.2.2.1
    have a6 := hI.1.2.2.2.2.2.2.1
    have hlb := sp_left_b hI hl
    have a2 := hI.1.2.2.1
    obtain ⟨q1, q2, q3, q4, q5, q6, q7, q8, q9, q10, q11⟩ := hI.2.2.2.1 l hl
    refine ag_iload_n dd_M_send_21 rfl ?_
    refine ag_aload_n dd_M_send_22 rfl ?_
    refine ag_get dd_M_send_23 fg_M_16 (mr_38 hM) rfl ?_
    refine ag_icmp_ge (tgt := 48) dd_M_send_26 (by decide) (by omega) (by omega) (fun c1 => ?_) (fun c1 => ?_)
    · exact ml_M_send2 hd hM hI hl hm ho hP (by have := sp_ft_eq S 0 k hk2 hk; rw [← this]; rfl)
    · exfalso; omega
  | succ r ih =>
    intro k hk hk2
    have a0 := hI.1.1
    have a3 := hI.1.2.2.2.1
    have a6 := hI.1.2.2.2.2.2.2.1
    have hlb := sp_left_b hI hl
    have a2 := hI.1.2.2.1
    obtain ⟨q1, q2, q3, q4, q5, q6, q7, q8, q9, q10, q11⟩ := hI.2.2.2.1 l hl
    refine ag_iload_n dd_M_send_21 rfl ?_
    refine ag_aload_n dd_M_send_22 rfl ?_
    refine ag_get dd_M_send_23 fg_M_16 (mr_38 hM) rfl ?_
    refine ag_icmp_ge (tgt := 48) dd_M_send_26 (by decide) (by omega) (by omega) (fun c1 => ?_) (fun c1 => ?_)
    · exfalso; omega
    · have hT := hI.2.2.2.2.2.2.2 k
      refine ag_aload_n dd_M_send_29 rfl ?_
      refine ag_get dd_M_send_30 fg_M_100 (mr_38 hM) rfl ?_
      refine ag_iload_n dd_M_send_33 rfl ?_
      refine ag_ialdN dd_M_send_34 (mr_64 hM) (by decide) (by omega) ?_
      refine ag_aload_n dd_M_send_35 rfl ?_
      refine ag_get dd_M_send_36 fg_M_159 (mr_38 hM) rfl ?_
      refine ag_icmp_le (tgt := 48) dd_M_send_39 (by decide) (by omega) (by omega) (fun c2 => ?_) (fun c2 => ?_)
      · exact ml_M_send2 hd hM hI hl hm ho hP (by have := sp_ft_eq S (r + 1) k hk2 hk; rw [← this, sp_ftN, if_pos (by omega)])
      · refine ag_iincN (Lf := fun y => [some (av_r 38), some (av_i ((l : Int))), some (av_i (y)), none]) dd_M_send_42 rfl (fun _ => rfl) rfl (by decide) (fun y3 ey3 => ?_)
        refine ag_goto (tgt := 21) dd_M_send_45 (by decide) ?_
        obtain rfl : y3 = ((k + 1 : Nat) : Int) := by omega
        exact ih (k + 1) (by omega) (fun j hj => by
          by_cases e : j = k
          · subst e; omega
          · exact hk2 j (by omega))
set_option maxHeartbeats 1000000 in
theorem mc_M_send {w : aw_T} {h0 h : ah_T} {S : ms_T} {d : Nat} (hd : 1 ≤ d) (hM : mo_I h0 h S) (hI : iv_S S) {l : Nat} (hl : (l : Int) < S.1 3) : am_M w mm_M_send d [av_r 38, av_i (l : Int)] h 0 0 (mo_P h0 (none, sp_send S l)) := by
  refine am_intro [some (av_r 38), some (av_i ((l : Int))), none, none] (by decide +kernel) (Nat.le_of_ble_eq_true rfl) rfl ?_
  have a0 := hI.1.1
  have a3 := hI.1.2.2.2.1
  have a6 := hI.1.2.2.2.2.2.2.1
  have hlb := sp_left_b hI hl
  have a2 := hI.1.2.2.1
  obtain ⟨q1, q2, q3, q4, q5, q6, q7, q8, q9, q10, q11⟩ := hI.2.2.2.1 l hl
  refine ag_aload_n dd_M_send_0 rfl ?_
  refine ag_get dd_M_send_1 fg_M_85 (mr_38 hM) rfl ?_
  refine ag_iload_n dd_M_send_4 rfl ?_
  refine ag_ialdN dd_M_send_5 (mr_59 hM) (by decide) (by omega) ?_
  refine ag_if_ge (tgt := 18) dd_M_send_6 (by decide) (by omega) (fun c1 => ?_) (fun c1 => ?_)
  · refine ag_vret dd_M_send_18 rfl ?_
    refine ⟨rfl, ?_⟩
    show mo_I h0 h (sp_send S l)
    unfold sp_send
    rw [if_pos (by omega)]
    exact hM
  · refine ag_aload_n dd_M_send_9 rfl ?_
    refine ag_get dd_M_send_10 fg_M_94 (mr_38 hM) rfl ?_
    refine ag_iload_n dd_M_send_13 rfl ?_
    refine ag_ialdN dd_M_send_14 (mr_62 hM) (by decide) (by omega) ?_
    refine ag_if_lt (tgt := 19) dd_M_send_15 (by decide) (by omega) (fun c2 => ?_) (fun c2 => ?_)
    · refine ag_iconst dd_M_send_19 ?_
      refine ag_istore_n (L' := [some (av_r 38), some (av_i ((l : Int))), some (av_i (0)), none]) dd_M_send_20 rfl rfl (by decide) ?_
      exact ml_M_send hd hM hI hl (by omega) (by omega) (fun h hM => ⟨rfl, hM⟩) (S.1 6).toNat 0 (by omega) (fun j hj => absurd hj (Nat.not_lt_zero j))
    · refine ag_vret dd_M_send_18 rfl ?_
      refine ⟨rfl, ?_⟩
      show mo_I h0 h (sp_send S l)
      unfold sp_send
      rw [if_pos (by omega)]
      exact hM
