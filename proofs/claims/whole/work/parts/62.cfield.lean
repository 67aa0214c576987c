theorem hp_i {w : aw_T} {M : am_T} {d : Nat} {P : ap_T} {pc n : Nat} {L : al_T} {st : List av_T} {h : ah_T} {kc ks : Nat} {idx ci k a : Nat} {fs : List av_T} {x : Int} (hd : ad_D M pc (.putfield idx) 3 n) (hf : af_put M.1.cls M.1.name idx ci k .int) (hc : h[a]? = some (ac_o ci fs)) (hl : k < fs.length) (kk : ∀ h' : ah_T, hu_ h h' a (ac_o ci (fs.set k (av_i x))) → aw_W w M d P n L st h' kc ks) : aw_W w M d P pc L (av_i x :: av_r a :: st) h kc ks := ag_puti hd hf hc hl (kk _ (hu_set hc))
theorem hp_z {w : aw_T} {M : am_T} {d : Nat} {P : ap_T} {pc n : Nat} {L : al_T} {st : List av_T} {h : ah_T} {kc ks : Nat} {idx ci k a : Nat} {fs : List av_T} {x : Int} (hd : ad_D M pc (.putfield idx) 3 n) (hf : af_put M.1.cls M.1.name idx ci k .boolean) (hc : h[a]? = some (ac_o ci fs)) (hl : k < fs.length) (hz : x = 0 ∨ x = 1) (kk : ∀ h' : ah_T, hu_ h h' a (ac_o ci (fs.set k (av_i x))) → aw_W w M d P n L st h' kc ks) : aw_W w M d P pc L (av_i x :: av_r a :: st) h kc ks := ag_putz hd hf hc hl hz (kk _ (hu_set hc))
theorem hp_o {w : aw_T} {M : am_T} {d : Nat} {P : ap_T} {pc n : Nat} {L : al_T} {st : List av_T} {h : ah_T} {kc ks : Nat} {idx ci k a : Nat} {fs : List av_T} {q : Option Nat} {nm : String} (hd : ad_D M pc (.putfield idx) 3 n) (hf : af_put M.1.cls M.1.name idx ci k (.object nm)) (hc : h[a]? = some (ac_o ci fs)) (hl : k < fs.length) (kk : ∀ h' : ah_T, hu_ h h' a (ac_o ci (fs.set k (av_q q))) → aw_W w M d P n L st h' kc ks) : aw_W w M d P pc L (av_q q :: av_r a :: st) h kc ks := ag_puto hd hf hc hl (kk _ (hu_set hc))
/-- a field's cell is set anew -/
theorem co_uF {h0 h h' : ah_T} {S S' : ms_T} {G : gh_T} {i : Nat} {c : ac_T} (hC : co_I h0 h S G) (hi : (i : Int) < S.1 2) (hu : hu_ h h' (G 1 i) c) (hc : c = cx_F S' G i) (h1 : S'.1 = S.1) (h2 : ∀ a j, ¬ ((40 ≤ a ∧ a ≤ 51) ∧ j = i) → S'.2 a j = S.2 a j) : co_I h0 h' S' G := by
  subst hc
  have e39 : S'.2 39 = S.2 39 := funext (fun j => h2 39 j (by omega))
  have e66 : S'.2 66 = S.2 66 := funext (fun j => h2 66 j (by omega))
  have e68 : S'.2 68 = S.2 68 := funext (fun j => h2 68 j (by omega))
  refine ⟨co_up hC.1 (k0 := 1) (i0 := i) hi hu (co_K ⟨Or.inl (by decide), rfl, Or.inr ?_⟩ ⟨Or.inl (by decide), rfl, Or.inr ?_⟩ ⟨Or.inl (by decide), rfl, Or.inr ?_⟩ ⟨Or.inl (by decide), rfl, Or.inr ?_⟩ ⟨Or.inl (by decide), rfl, Or.inr ?_⟩ ⟨Or.inl (by decide), rfl, Or.inr rfl⟩ ⟨Or.inr (Or.inl rfl), rfl, Or.inr ?_⟩ ⟨Or.inr (Or.inr rfl), rfl, Or.inr ?_⟩ (fun j hj => ⟨?_, rfl, ?_⟩) (fun j hj => ⟨?_, rfl, Or.inr ?_⟩) (fun j hj => ⟨?_, rfl, Or.inr ?_⟩) (fun j hj => ⟨hj, rfl, Or.inr rfl⟩)), cf_hu hC.2 hu (Or.inr (Or.inr (Or.inr ((hC.1.2.1 1 i hi).2 (by decide)))))⟩
  · show cx_0 S' G = cx_0 S G
    unfold cx_0
    rw [h1]
  · show cx_1 S' G = cx_1 S G
    unfold cx_1
    rw [h1]
  · show ac_l 10 (S'.2 39) = _
    rw [e39]
    rfl
  · show ac_a 0 10 (S'.2 66) = _
    rw [e66]
    rfl
  · show cx_4 S' G = cx_4 S G
    unfold cx_4
    rw [h1]
  · show cx_30 S' = cx_30 S
    unfold cx_30
    rw [h1]
  · show ac_a 1 100 (fun j => sb_ (S'.2 68 j)) = _
    rw [e68]
    rfl
  · show (j : Int) < S.1 2
    rw [← h1]; exact hj
  · by_cases q : j = i
    · exact Or.inl ⟨rfl, q⟩
    · right
      show cx_F S' G j = cx_F S G j
      unfold cx_F
      rw [h1, h2 40 j (by omega), h2 41 j (by omega), h2 42 j (by omega), h2 43 j (by omega), h2 44 j (by omega), h2 45 j (by omega), h2 46 j (by omega), h2 47 j (by omega), h2 48 j (by omega), h2 49 j (by omega), h2 50 j (by omega), h2 51 j (by omega)]
  · show (j : Int) < S.1 3
    rw [← h1]; exact hj
  · show cx_L S' G j = cx_L S G j
    unfold cx_L
    rw [h1, h2 55 j (by omega), h2 56 j (by omega), h2 57 j (by omega), h2 58 j (by omega), h2 59 j (by omega), h2 60 j (by omega), h2 61 j (by omega), h2 62 j (by omega), h2 63 j (by omega)]
  · show (j : Int) < S.1 21
    rw [← h1]; exact hj
  · show cx_S S' G j = cx_S S G j
    unfold cx_S
    rw [h2 52 j (by omega), h2 53 j (by omega), h2 54 j (by omega)]
set_option maxHeartbeats 1000000 in
theorem mc_Field_sweetAt {w : aw_T} {h0 h : ah_T} {S : ms_T} {G : gh_T} {d : Nat} (hd : 1 ≤ d) (hC : co_I h0 h S G) {i : Nat} (hi : (i : Int) < S.1 2) (hs : iv_sw S i) {t : Int} (ht : 0 ≤ t ∧ t ≤ 100000) : am_M w mm_Field_sweetAt d [av_r (G 1 i), av_i t] h 0 0 (fun r h' => r = some (av_i (sp_swt S i t)) ∧ h' = h) := by
  refine am_intro [some (av_r ((G 1 i))), some (av_i (t))] (by decide +kernel) (Nat.le_of_ble_eq_true rfl) rfl ?_
  obtain ⟨h43, h44, h45, h49, h50⟩ := hs
  obtain ⟨sw, hsw⟩ : ∃ v, v = sp_swt S i t := ⟨_, rfl⟩
  rw [← hsw]
  refine ag_aload_n dd_Field_sweetAt_0 rfl ?_
  refine ag_get dd_Field_sweetAt_1 fg_Field_39 (cr_F hC hi) rfl ?_
  refine ag_if_eqB (tgt := 12) dd_Field_sweetAt_4 (by decide) (fun c1 => ?_) (fun c1 => ?_)
  · refine ag_iconst dd_Field_sweetAt_12 ?_
    refine ag_aload_n dd_Field_sweetAt_13 rfl ?_
    refine ag_get dd_Field_sweetAt_14 fg_Field_30 (cr_F hC hi) rfl ?_
    refine ag_iload_n dd_Field_sweetAt_17 rfl ?_
    refine ag_aload_n dd_Field_sweetAt_18 rfl ?_
    refine ag_get dd_Field_sweetAt_19 fg_Field_33 (cr_F hC hi) rfl ?_
    refine ag_isub dd_Field_sweetAt_22 ?_
    refine ag_abs dd_Field_sweetAt_23 fi_Field_46 fo_abss fo_m fo_absc (by omega) (by omega) (Nat.le_of_ble_eq_true rfl) ?_
    refine ag_aload_n dd_Field_sweetAt_26 rfl ?_
    refine ag_get dd_Field_sweetAt_27 fg_Field_36 (cr_F hC hi) rfl ?_
    have hab : (if 0 ≤ (t - (S.2 44 i)) then (t - (S.2 44 i)) else -((t - (S.2 44 i)))) = (if S.2 44 i < t then t - S.2 44 i else S.2 44 i - t) := by split <;> split <;> omega
    rw [hab]
    have hab2 : 0 ≤ (if S.2 44 i < t then t - S.2 44 i else S.2 44 i - t) ∧ (if S.2 44 i < t then t - S.2 44 i else S.2 44 i - t) ≤ 2147483647 := by split <;> omega
    have htd := sp_td (b := S.2 45 i) hab2.1 h45.1
    unfold sp_swt at hsw
    rw [if_neg (by omega)] at hsw
    generalize (if S.2 44 i < t then t - S.2 44 i else S.2 44 i - t) = ab at *
    refine ag_rS dd_Field_sweetAt_30 fi_Field_52 (mc_X_quotient (by omega) (by omega)) rfl rfl (by omega) (Nat.le_of_ble_eq_true rfl) ?_
    rw [if_neg (by omega)]
    generalize ab.tdiv (S.2 45 i) = z at *
    refine ag_isub dd_Field_sweetAt_33 ?_
    refine ag_max dd_Field_sweetAt_34 fi_Field_56 fo_maxs fo_m fo_maxc (by omega) (by omega) (by omega) (Nat.le_of_ble_eq_true rfl) ?_
    refine ag_iret dd_Field_sweetAt_37 rfl ?_
    refine ⟨congrArg (fun z => some (av_i z)) ?_, rfl⟩
    rw [hsw]
    split <;> omega
  · refine ag_aload_n dd_Field_sweetAt_7 rfl ?_
    refine ag_get dd_Field_sweetAt_8 fg_Field_43 (cr_F hC hi) rfl ?_
    refine ag_iret dd_Field_sweetAt_11 rfl ?_
    refine ⟨congrArg (fun z => some (av_i z)) ?_, rfl⟩
    unfold sp_swt at hsw
    rw [if_pos (by omega)] at hsw
    exact hsw.symm
set_option maxHeartbeats 1000000 in
theorem mc_Field_hoursToMill {w : aw_T} {h0 h : ah_T} {S : ms_T} {G : gh_T} {d : Nat} (hd : 1 ≤ d) (hC : co_I h0 h S G) {i : Nat} (hi : (i : Int) < S.1 2) (hk : 0 ≤ S.2 42 i ∧ S.2 42 i ≤ 60) : am_M w mm_Field_hoursToMill d [av_r (G 1 i)] h 0 0 (fun r h' => r = some (av_i (sp_trip (S.2 42 i))) ∧ h' = h) := by
  refine am_intro [some (av_r ((G 1 i)))] (by decide +kernel) (Nat.le_of_ble_eq_true rfl) rfl ?_
  refine ag_iconst dd_Field_hoursToMill_0 ?_
  refine ag_aload_n dd_Field_hoursToMill_1 rfl ?_
  refine ag_get dd_Field_hoursToMill_2 fg_Field_27 (cr_F hC hi) rfl ?_
  refine ag_bipush dd_Field_hoursToMill_5 (by decide +kernel) ?_
  refine ag_iadd dd_Field_hoursToMill_7 ?_
  refine ag_bipush dd_Field_hoursToMill_8 (by decide +kernel) ?_
  refine ag_idiv dd_Field_hoursToMill_10 (by omega) (by omega) (by omega) ?_
  have htd := sp_td (a := S.2 42 i + 9) (b := 10) (by omega) (by omega)
  refine ag_max dd_Field_hoursToMill_11 fi_Field_56 fo_maxs fo_m fo_maxc (by omega) (by omega) (by omega) (Nat.le_of_ble_eq_true rfl) ?_
  refine ag_iret dd_Field_hoursToMill_14 rfl ?_
  refine ⟨congrArg (fun z => some (av_i z)) ?_, rfl⟩
  unfold sp_trip
  rw [Int.tdiv_eq_ediv_of_nonneg (by omega)]
  split <;> omega
set_option maxHeartbeats 1000000 in
theorem mc_Field_hoursToDeath {w : aw_T} {h0 h : ah_T} {S : ms_T} {G : gh_T} {d : Nat} (hd : 0 ≤ d) (hC : co_I h0 h S G) {i : Nat} (hi : (i : Int) < S.1 2) : am_M w mm_Field_hoursToDeath d [av_r (G 1 i)] h 0 0 (fun r h' => r = some (av_i (if 0 ≤ S.2 49 i then 12 else 24)) ∧ h' = h) := by
  refine am_intro [some (av_r ((G 1 i)))] (by decide +kernel) (Nat.le_of_ble_eq_true rfl) rfl ?_
  refine ag_aload_n dd_Field_hoursToDeath_0 rfl ?_
  refine ag_get dd_Field_hoursToDeath_1 fg_Field_39 (cr_F hC hi) rfl ?_
  refine ag_if_eqB (tgt := 12) dd_Field_hoursToDeath_4 (by decide) (fun c1 => ?_) (fun c1 => ?_)
  · refine ag_bipush dd_Field_hoursToDeath_12 (by decide +kernel) ?_
    refine ag_iret dd_Field_hoursToDeath_14 rfl ?_
    refine ⟨congrArg (fun z => some (av_i z)) ?_, rfl⟩
    first | rw [if_pos (by omega)] | rw [if_neg (by omega)]
  · refine ag_bipush dd_Field_hoursToDeath_7 (by decide +kernel) ?_
    refine ag_goto (tgt := 14) dd_Field_hoursToDeath_9 (by decide) ?_
    refine ag_iret dd_Field_hoursToDeath_14 rfl ?_
    refine ⟨congrArg (fun z => some (av_i z)) ?_, rfl⟩
    first | rw [if_pos (by omega)] | rw [if_neg (by omega)]
def sp_bn (S : ms_T) (f : Nat) (t : Int) : ms_T := (S.1, ai_up (ai_up S.2 50 (ai_up (S.2 50) f (if sp_swt S f t - 2 < 0 then 0 else sp_swt S f t - 2))) 49 (ai_up (S.2 49) f t))
theorem sp_swt_c {S : ms_T} {f : Nat} (h : iv_sw S f) {t : Int} (ht : 0 ≤ t ∧ t ≤ 100000) : 0 ≤ sp_swt S f t ∧ sp_swt S f t ≤ 30 := by
  obtain ⟨h43, h44, h45, h49, h50⟩ := h
  unfold sp_swt
  split
  · exact h50
  · have hab2 : 0 ≤ (if S.2 44 f < t then t - S.2 44 f else S.2 44 f - t) := by split <;> omega
    have htd := sp_td (b := S.2 45 f) hab2 h45.1
    generalize (if S.2 44 f < t then t - S.2 44 f else S.2 44 f - t).tdiv (S.2 45 f) = z at *
    split <;> omega
set_option maxHeartbeats 1000000 in
theorem mc_Field_burn {w : aw_T} {h0 h : ah_T} {S : ms_T} {G : gh_T} {d : Nat} (hd : 2 ≤ d) (hC : co_I h0 h S G) {i : Nat} (hi : (i : Int) < S.1 2) (hs : iv_sw S i) {t : Int} (ht : 0 ≤ t ∧ t ≤ 4000) : am_M w mm_Field_burn d [av_r (G 1 i), av_i t] h 0 0 (cq_ h0 G (none, sp_bn S i t)) := by
  refine am_intro [some (av_r ((G 1 i))), some (av_i (t))] (by decide +kernel) (Nat.le_of_ble_eq_true rfl) rfl ?_
  have hsb := sp_swt_c hs (by omega : 0 ≤ t ∧ t ≤ 100000)
  refine ag_aload_n dd_Field_burn_0 rfl ?_
  refine ag_iconst dd_Field_burn_1 ?_
  refine ag_aload_n dd_Field_burn_2 rfl ?_
  refine ag_iload_n dd_Field_burn_3 rfl ?_
  refine ag_rV dd_Field_burn_4 fi_Field_59 (cr_F hC hi) rfl (mc_Field_sweetAt (d := 1) (by omega) hC hi hs (by omega)) rfl rfl (by omega) (Nat.le_of_ble_eq_true rfl) ?_
  refine ag_iconst dd_Field_burn_7 ?_
  refine ag_isub dd_Field_burn_8 ?_
  refine ag_max dd_Field_burn_9 fi_Field_56 fo_maxs fo_m fo_maxc (by omega) (by omega) (by omega) (Nat.le_of_ble_eq_true rfl) ?_
  refine hp_i dd_Field_burn_12 fp_Field_43 (cr_F hC hi) (Nat.le_of_ble_eq_true rfl) (fun h huN => ?_)
  have hu1 := huN
  clear huN
  refine ag_aload_n dd_Field_burn_15 rfl ?_
  refine ag_iload_n dd_Field_burn_16 rfl ?_
  refine hp_i dd_Field_burn_17 fp_Field_62 hu1.2.1 (Nat.le_of_ble_eq_true rfl) (fun h huN => ?_)
  replace hu1 := hu_tr hu1 huN
  clear huN
  refine ag_aload_n dd_Field_burn_20 rfl ?_
  refine ag_iconst dd_Field_burn_21 ?_
  refine hp_z dd_Field_burn_22 fp_Field_39 hu1.2.1 (Nat.le_of_ble_eq_true rfl) (by first | exact Or.inl rfl | exact Or.inr rfl | omega) (fun h huN => ?_)
  replace hu1 := hu_tr hu1 huN
  clear huN
  refine ag_vret dd_Field_burn_25 rfl ?_
  refine ⟨rfl, co_uF (S' := sp_bn S i t) hC hi hu1 ?_ rfl ?_⟩
  · have e10 : (if 0 ≤ (sp_bn S i t).2 49 i then (1 : Int) else 0) = 1 := by
      show (if 0 ≤ ai_up (S.2 49) i t i then (1 : Int) else 0) = 1
      rw [ai_up_s, if_pos (by omega)]
    have e11 : max 0 ((sp_bn S i t).2 49 i) = t := by
      show max 0 (ai_up (S.2 49) i t i) = t
      rw [ai_up_s]
      omega
    have e12 : (sp_bn S i t).2 50 i = max 0 (sp_swt S i t - 2) := by
      show ai_up (S.2 50) i _ i = _
      rw [ai_up_s]
      split <;> omega
    unfold cx_F
    rw [e10, e11, e12]
    rfl
  · intro a j hj
    show ai_up (ai_up S.2 50 _) 49 _ a j = _
    by_cases q : a = 49
    · subst q
      rw [ai_up_s, ai_up_n _ _ (by omega)]
    · rw [ai_up_n _ _ q]
      by_cases q2 : a = 50
      · subst q2
        rw [ai_up_s, ai_up_n _ _ (by omega)]
      · rw [ai_up_n _ _ q2]
def sp_gn (S : ms_T) (f : Nat) : ms_T := if sp_dn S f < S.2 41 f then sp_co1 S f else (S.1, ai_up (ai_up (ai_up S.2 47 (ai_up (S.2 47) f (sp_dn S f))) 46 (ai_up (S.2 46) f 2)) 48 (ai_up (S.2 48) f 0))
set_option maxHeartbeats 1000000 in
theorem mc_Field_goOn {w : aw_T} {h0 h : ah_T} {S : ms_T} {G : gh_T} {d : Nat} (hd : 1 ≤ d) (hC : co_I h0 h S G) {i : Nat} (hi : (i : Int) < S.1 2) (hf : iv_f S i) (h5 : 1 ≤ S.1 5 ∧ S.1 5 ≤ 20) : am_M w mm_Field_goOn d [av_r (G 1 i), av_i (S.1 5)] h 0 0 (cq_ h0 G (none, sp_gn S i)) := by
  refine am_intro [some (av_r ((G 1 i))), some (av_i ((S.1 5)))] (by decide +kernel) (Nat.le_of_ble_eq_true rfl) rfl ?_
  obtain ⟨-, h41, -, -, -, -, h46, h47, h48, -⟩ := hf
  have hdn : min (S.2 41 i) (S.2 47 i + S.1 5 * S.2 48 i) = sp_dn S i := by
    unfold sp_dn
    split <;> omega
  have hmu : 0 ≤ S.1 5 * S.2 48 i ∧ S.1 5 * S.2 48 i ≤ 20 * 9 := ⟨Int.mul_nonneg (by omega) (by omega), Int.mul_le_mul (by omega) (by omega) (by omega) (by omega)⟩
  refine ag_aload_n dd_Field_goOn_0 rfl ?_
  refine ag_aload_n dd_Field_goOn_1 rfl ?_
  refine ag_get dd_Field_goOn_2 fg_Field_24 (cr_F hC hi) rfl ?_
  refine ag_aload_n dd_Field_goOn_5 rfl ?_
  refine ag_get dd_Field_goOn_6 fg_Field_65 (cr_F hC hi) rfl ?_
  refine ag_iload_n dd_Field_goOn_9 rfl ?_
  refine ag_aload_n dd_Field_goOn_10 rfl ?_
  refine ag_get dd_Field_goOn_11 fg_Field_68 (cr_F hC hi) rfl ?_
  refine ag_imul dd_Field_goOn_14 ?_
  refine ag_iadd dd_Field_goOn_15 ?_
  refine ag_min dd_Field_goOn_16 fi_Field_71 fo_mins fo_m fo_minc (by omega) (by omega) (by omega) (Nat.le_of_ble_eq_true rfl) ?_
  rw [hdn]
  have hdb : sp_dn S i ≤ S.2 41 i ∧ 0 ≤ sp_dn S i := by unfold sp_dn; split <;> omega
  refine hp_i dd_Field_goOn_19 fp_Field_65 (cr_F hC hi) (Nat.le_of_ble_eq_true rfl) (fun h huN => ?_)
  have hu1 := huN
  clear huN
  refine ag_aload_n dd_Field_goOn_22 rfl ?_
  refine ag_get dd_Field_goOn_23 fg_Field_65 hu1.2.1 rfl ?_
  refine ag_aload_n dd_Field_goOn_26 rfl ?_
  refine ag_get dd_Field_goOn_27 fg_Field_24 hu1.2.1 rfl ?_
  refine ag_icmp_ne (tgt := 43) dd_Field_goOn_30 (by decide) (by omega) (by omega) (fun c1 => ?_) (fun c1 => ?_)
  · refine ag_vret dd_Field_goOn_43 rfl ?_
    have eS : sp_gn S i = sp_co1 S i := if_pos (by omega)
    refine ⟨rfl, ?_⟩
    show co_I h0 h (sp_gn S i) G
    rw [eS]
    refine co_uF hC hi hu1 ?_ rfl ?_
    · have e : (sp_co1 S i).2 47 i = sp_dn S i := ai_up_s _ _ _
      unfold cx_F
      rw [e]
      rfl
    · intro a j hj
      show ai_up S.2 47 _ a j = _
      by_cases q : a = 47
      · subst q
        rw [ai_up_s, ai_up_n _ _ (by omega)]
      · rw [ai_up_n _ _ q]
  · refine ag_aload_n dd_Field_goOn_33 rfl ?_
    refine ag_iconst dd_Field_goOn_34 ?_
    refine hp_i dd_Field_goOn_35 fp_Field_68 hu1.2.1 (Nat.le_of_ble_eq_true rfl) (fun h huN => ?_)
    replace hu1 := hu_tr hu1 huN
    clear huN
    refine ag_aload_n dd_Field_goOn_38 rfl ?_
    refine ag_iconst dd_Field_goOn_39 ?_
    refine hp_i dd_Field_goOn_40 fp_Field_11 hu1.2.1 (Nat.le_of_ble_eq_true rfl) (fun h huN => ?_)
    replace hu1 := hu_tr hu1 huN
    clear huN
    refine ag_vret dd_Field_goOn_43 rfl ?_
    have eS : sp_gn S i = (S.1, ai_up (ai_up (ai_up S.2 47 (ai_up (S.2 47) i (sp_dn S i))) 46 (ai_up (S.2 46) i 2)) 48 (ai_up (S.2 48) i 0)) := if_neg (by omega)
    refine ⟨rfl, ?_⟩
    show co_I h0 h (sp_gn S i) G
    rw [eS]
    refine co_uF hC hi hu1 ?_ rfl ?_
    · have e1 : ai_up (ai_up (ai_up S.2 47 (ai_up (S.2 47) i (sp_dn S i))) 46 (ai_up (S.2 46) i 2)) 48 (ai_up (S.2 48) i 0) 46 i = 2 := ai_up_s (S.2 46) i 2
      have e2 : ai_up (ai_up (ai_up S.2 47 (ai_up (S.2 47) i (sp_dn S i))) 46 (ai_up (S.2 46) i 2)) 48 (ai_up (S.2 48) i 0) 47 i = sp_dn S i := ai_up_s (S.2 47) i _
      have e3 : ai_up (ai_up (ai_up S.2 47 (ai_up (S.2 47) i (sp_dn S i))) 46 (ai_up (S.2 46) i 2)) 48 (ai_up (S.2 48) i 0) 48 i = 0 := ai_up_s (S.2 48) i 0
      unfold cx_F
      dsimp only
      rw [e1, e2, e3]
      rfl
    · intro a j hj
      show ai_up (ai_up (ai_up S.2 47 _) 46 _) 48 _ a j = _
      by_cases q : a = 48
      · subst q
        rw [ai_up_s, ai_up_n _ _ (by omega)]
      · rw [ai_up_n _ _ q]
        by_cases q2 : a = 46
        · subst q2
          rw [ai_up_s, ai_up_n _ _ (by omega)]
        · rw [ai_up_n _ _ q2]
          by_cases q3 : a = 47
          · subst q3
            rw [ai_up_s, ai_up_n _ _ (by omega)]
          · rw [ai_up_n _ _ q3]
set_option maxHeartbeats 1000000 in
theorem ml_X_freeGangs {w : aw_T} {h0 h : ah_T} {S : ms_T} {G : gh_T} {d : Nat} (hd : 0 ≤ d) (hC : co_I h0 h S G) (hI : iv_S S) {P : ap_T} (hP : P (some (av_i (sp_fg S))) h) : ∀ (m j : Nat), (j : Int) + m = S.1 2 → aw_W w mm_X_freeGangs d P 10 [some (av_r 0), some (av_i ((sp_fgN S j))), some (av_q (rf_ G 1 (S.1 2).toNat j))] [] h 0 0 := by
  intro m
  have h2 := hI.1.2.2.1
  induction m with
  | zero =>
    intro j hj
    rw [rf_e (by omega)]
    refine ag_aload_n dd_X_freeGangs_10 rfl ?_
    refine ag_ifnull (tgt := 29) dd_X_freeGangs_11 (by decide) (fun _ => ?_) (fun _ q => by cases q)
    refine ag_iload_n dd_X_freeGangs_29 rfl ?_
    refine ag_iret dd_X_freeGangs_30 rfl ?_
    obtain rfl : j = (S.1 2).toNat := by omega
    exact hP
  | succ m ih =>
    intro j hj
    rw [rf_s (by omega)]
    refine ag_aload_n dd_X_freeGangs_10 rfl ?_
    refine ag_ifnull (tgt := 29) dd_X_freeGangs_11 (by decide) (fun q => by cases q) (fun _ _ => ?_)
    refine ag_iload_n dd_X_freeGangs_14 rfl ?_
    refine ag_aload_n dd_X_freeGangs_15 rfl ?_
    refine ag_get dd_X_freeGangs_16 fg_X_138 (cr_F hC (by omega)) rfl ?_
    refine ag_isub dd_X_freeGangs_19 ?_
    refine ag_istore_nN (Lf := fun y => [some (av_r 0), some (av_i (y)), some (av_r ((G 1 j)))]) dd_X_freeGangs_20 (fun _ => rfl) rfl (by decide) (fun y2 ey2 => ?_)
    refine ag_aload_n dd_X_freeGangs_21 rfl ?_
    refine ag_get dd_X_freeGangs_22 fg_X_105 (cr_F hC (by omega)) rfl ?_
    refine ag_astore_n (L' := [some (av_r 0), some (av_i (y2)), some (av_q (rf_ G 1 (S.1 2).toNat (j + 1)))]) dd_X_freeGangs_25 rfl rfl (by decide) ?_
    refine ag_goto (tgt := 10) dd_X_freeGangs_26 (by decide) ?_
    have ek : y2 = sp_fgN S (j + 1) := by
      rw [ey2, sp_fgN]
      have := (hI.2.1 j (by omega)).2.2.2.1
      by_cases q : S.2 46 j = 1
      · rw [if_pos q]
      · rw [if_neg q, this q]
    rw [ek]
    exact ih (j + 1) (by omega)
set_option maxHeartbeats 1000000 in
theorem mc_X_freeGangs {w : aw_T} {h0 h : ah_T} {S : ms_T} {G : gh_T} {d : Nat} (hd : 0 ≤ d) (hC : co_I h0 h S G) (hI : iv_S S) : am_M w mm_X_freeGangs d [av_r 0] h 0 0 (fun r h' => r = some (av_i (sp_fg S)) ∧ h' = h) := by
  refine am_intro [some (av_r 0), none, none] (by decide +kernel) (Nat.le_of_ble_eq_true rfl) rfl ?_
  refine ag_aload_n dd_X_freeGangs_0 rfl ?_
  refine ag_get dd_X_freeGangs_1 fg_X_7 (cr_0 hC) rfl ?_
  refine ag_istore_nN (Lf := fun y => [some (av_r 0), some (av_i (y)), none]) dd_X_freeGangs_4 (fun _ => rfl) rfl (by decide) (fun y1 ey1 => ?_)
  refine ag_aload_n dd_X_freeGangs_5 rfl ?_
  refine ag_get dd_X_freeGangs_6 fg_X_102 (cr_0 hC) rfl ?_
  refine ag_astore_n (L' := [some (av_r 0), some (av_i (y1)), some (av_q (rf_ G 1 (S.1 2).toNat 0))]) dd_X_freeGangs_9 rfl rfl (by decide) ?_
  subst ey1
  exact ml_X_freeGangs hd hC hI ⟨rfl, rfl⟩ (S.1 2).toNat 0 (by have := hI.1.2.2.1; omega)
/-- how many of the first k loads have a truck on its way at hour t -/
def cl_ (G : gh_T) (t : Int) : Nat → Int
  | 0 => 0
  | k + 1 => cl_ G t k + (if t < (G 5 k : Int) then 1 else 0)
theorem cl_b (G : gh_T) (t : Int) : ∀ k : Nat, 0 ≤ cl_ G t k ∧ cl_ G t k ≤ k
  | 0 => by rw [cl_]; omega
  | k + 1 => by
    have := cl_b G t k
    rw [cl_]
    split <;> omega
set_option maxHeartbeats 1000000 in
theorem ml_X_freeTrucks {w : aw_T} {h0 h : ah_T} {S : ms_T} {G : gh_T} {d : Nat} (hd : 0 ≤ d) (hC : co_I h0 h S G) (ha : iv_a S) (h5 : ∀ l : Nat, (l : Int) < S.1 3 → (G 5 l : Int) ≤ 5000) {P : ap_T} (hP : P (some (av_i (S.1 6 - cl_ G (S.1 0) (S.1 3).toNat))) h) : ∀ (m j : Nat), (j : Int) + m = S.1 3 → aw_W w mm_X_freeTrucks d P 10 [some (av_r 0), some (av_i ((S.1 6 - cl_ G (S.1 0) j))), some (av_q (rf_ G 2 (S.1 3).toNat j))] [] h 0 0 := by
  intro m
  have h2 := ha.2.2.2.1
  have h0c := ha.1
  have h6 := ha.2.2.2.2.2.2.1
  induction m with
  | zero =>
    intro j hj
    rw [rf_e (by omega)]
    refine ag_aload_n dd_X_freeTrucks_10 rfl ?_
    refine ag_ifnull (tgt := 36) dd_X_freeTrucks_11 (by decide) (fun _ => ?_) (fun _ q => by cases q)
    refine ag_iload_n dd_X_freeTrucks_36 rfl ?_
    refine ag_iret dd_X_freeTrucks_37 rfl ?_
    obtain rfl : j = (S.1 3).toNat := by omega
    exact hP
  | succ m ih =>
    intro j hj
    rw [rf_s (by omega)]
    have hb := cl_b G (S.1 0) j
    have h5b := h5 j (by omega)
    refine ag_aload_n dd_X_freeTrucks_10 rfl ?_
    refine ag_ifnull (tgt := 36) dd_X_freeTrucks_11 (by decide) (fun q => by cases q) (fun _ _ => ?_)
    refine ag_aload_n dd_X_freeTrucks_14 rfl ?_
    refine ag_get dd_X_freeTrucks_15 fg_X_265 (cr_L hC (by omega)) rfl ?_
    refine ag_aload_n dd_X_freeTrucks_18 rfl ?_
    refine ag_get dd_X_freeTrucks_19 fg_X_80 (cr_0 hC) rfl ?_
    refine ag_icmp_le (tgt := 28) dd_X_freeTrucks_22 (by decide) (by omega) (by omega) (fun c2 => ?_) (fun c2 => ?_)
    · refine ag_aload_n dd_X_freeTrucks_28 rfl ?_
      refine ag_get dd_X_freeTrucks_29 fg_X_263 (cr_L hC (by omega)) rfl ?_
      refine ag_astore_n (L' := [some (av_r 0), some (av_i ((S.1 6 - cl_ G (S.1 0) j))), some (av_q (rf_ G 2 (S.1 3).toNat (j + 1)))]) dd_X_freeTrucks_32 rfl rfl (by decide) ?_
      refine ag_goto (tgt := 10) dd_X_freeTrucks_33 (by decide) ?_
      have ek : (S.1 6 - cl_ G (S.1 0) j) = S.1 6 - cl_ G (S.1 0) (j + 1) := by
        rw [cl_]
        first | (rw [if_pos (by omega)]; omega) | (rw [if_neg (by omega)]; omega)
      rw [ek]
      exact ih (j + 1) (by omega)
    · refine ag_iincN (Lf := fun y => [some (av_r 0), some (av_i (y)), some (av_r ((G 2 j)))]) dd_X_freeTrucks_25 rfl (fun _ => rfl) rfl (by decide) (fun y3 ey3 => ?_)
      refine ag_aload_n dd_X_freeTrucks_28 rfl ?_
      refine ag_get dd_X_freeTrucks_29 fg_X_263 (cr_L hC (by omega)) rfl ?_
      refine ag_astore_n (L' := [some (av_r 0), some (av_i (y3)), some (av_q (rf_ G 2 (S.1 3).toNat (j + 1)))]) dd_X_freeTrucks_32 rfl rfl (by decide) ?_
      refine ag_goto (tgt := 10) dd_X_freeTrucks_33 (by decide) ?_
      have ek : y3 = S.1 6 - cl_ G (S.1 0) (j + 1) := by
        rw [cl_]
        first | (rw [if_pos (by omega)]; omega) | (rw [if_neg (by omega)]; omega)
      rw [ek]
      exact ih (j + 1) (by omega)
set_option maxHeartbeats 1000000 in
theorem mc_X_freeTrucks {w : aw_T} {h0 h : ah_T} {S : ms_T} {G : gh_T} {d : Nat} (hd : 0 ≤ d) (hC : co_I h0 h S G) (ha : iv_a S) (h5 : ∀ l : Nat, (l : Int) < S.1 3 → (G 5 l : Int) ≤ 5000) : am_M w mm_X_freeTrucks d [av_r 0] h 0 0 (fun r h' => r = some (av_i (S.1 6 - cl_ G (S.1 0) (S.1 3).toNat)) ∧ h' = h) := by
  refine am_intro [some (av_r 0), none, none] (by decide +kernel) (Nat.le_of_ble_eq_true rfl) rfl ?_
  refine ag_aload_n dd_X_freeTrucks_0 rfl ?_
  refine ag_get dd_X_freeTrucks_1 fg_X_16 (cr_0 hC) rfl ?_
  refine ag_istore_nN (Lf := fun y => [some (av_r 0), some (av_i (y)), none]) dd_X_freeTrucks_4 (fun _ => rfl) rfl (by decide) (fun y1 ey1 => ?_)
  refine ag_aload_n dd_X_freeTrucks_5 rfl ?_
  refine ag_get dd_X_freeTrucks_6 fg_X_260 (cr_0 hC) rfl ?_
  refine ag_astore_n (L' := [some (av_r 0), some (av_i (y1)), some (av_q (rf_ G 2 (S.1 3).toNat 0))]) dd_X_freeTrucks_9 rfl rfl (by decide) ?_
  have e0 : y1 = S.1 6 - cl_ G (S.1 0) 0 := by rw [cl_]; omega
  rw [e0]
  exact ml_X_freeTrucks hd hC ha h5 ⟨rfl, rfl⟩ (S.1 3).toNat 0 (by have := ha.2.2.2.1; omega)
set_option maxHeartbeats 1000000 in
theorem ml_X_tonsLost {w : aw_T} {h0 h : ah_T} {S : ms_T} {G : gh_T} {d : Nat} (hd : 0 ≤ d) (hC : co_I h0 h S G) (ha : iv_a S) {P : ap_T} (hP : P (some (av_i (fb_si (S.2 61) (S.1 3).toNat))) h) : ∀ (m j : Nat), (j : Int) + m = S.1 3 → aw_W w mm_X_tonsLost d P 7 [some (av_r 0), some (av_i ((fb_si (S.2 61) j))), some (av_q (rf_ G 2 (S.1 3).toNat j))] [] h 0 0 := by
  intro m
  have h2 := ha.2.2.2.1
  induction m with
  | zero =>
    intro j hj
    rw [rf_e (by omega)]
    refine ag_aload_n dd_X_tonsLost_7 rfl ?_
    refine ag_ifnull (tgt := 26) dd_X_tonsLost_8 (by decide) (fun _ => ?_) (fun _ q => by cases q)
    refine ag_iload_n dd_X_tonsLost_26 rfl ?_
    refine ag_iret dd_X_tonsLost_27 rfl ?_
    obtain rfl : j = (S.1 3).toNat := by omega
    exact hP
  | succ m ih =>
    intro j hj
    rw [rf_s (by omega)]
    refine ag_aload_n dd_X_tonsLost_7 rfl ?_
    refine ag_ifnull (tgt := 26) dd_X_tonsLost_8 (by decide) (fun q => by cases q) (fun _ _ => ?_)
    refine ag_iload_n dd_X_tonsLost_11 rfl ?_
    refine ag_aload_n dd_X_tonsLost_12 rfl ?_
    refine ag_get dd_X_tonsLost_13 fg_X_214 (cr_L hC (by omega)) rfl ?_
    refine ag_iadd dd_X_tonsLost_16 ?_
    refine ag_istore_nN (Lf := fun y => [some (av_r 0), some (av_i (y)), some (av_r ((G 2 j)))]) dd_X_tonsLost_17 (fun _ => rfl) rfl (by decide) (fun y2 ey2 => ?_)
    refine ag_aload_n dd_X_tonsLost_18 rfl ?_
    refine ag_get dd_X_tonsLost_19 fg_X_263 (cr_L hC (by omega)) rfl ?_
    refine ag_astore_n (L' := [some (av_r 0), some (av_i (y2)), some (av_q (rf_ G 2 (S.1 3).toNat (j + 1)))]) dd_X_tonsLost_22 rfl rfl (by decide) ?_
    refine ag_goto (tgt := 7) dd_X_tonsLost_23 (by decide) ?_
    have ek : y2 = fb_si (S.2 61) (j + 1) := by
      rw [ey2]
      rfl
    rw [ek]
    exact ih (j + 1) (by omega)
set_option maxHeartbeats 1000000 in
theorem mc_X_tonsLost {w : aw_T} {h0 h : ah_T} {S : ms_T} {G : gh_T} {d : Nat} (hd : 0 ≤ d) (hC : co_I h0 h S G) (ha : iv_a S) : am_M w mm_X_tonsLost d [av_r 0] h 0 0 (fun r h' => r = some (av_i (fb_si (S.2 61) (S.1 3).toNat)) ∧ h' = h) := by
  refine am_intro [some (av_r 0), none, none] (by decide +kernel) (Nat.le_of_ble_eq_true rfl) rfl ?_
  refine ag_iconst dd_X_tonsLost_0 ?_
  refine ag_istore_n (L' := [some (av_r 0), some (av_i (0)), none]) dd_X_tonsLost_1 rfl rfl (by decide) ?_
  refine ag_aload_n dd_X_tonsLost_2 rfl ?_
  refine ag_get dd_X_tonsLost_3 fg_X_260 (cr_0 hC) rfl ?_
  refine ag_astore_n (L' := [some (av_r 0), some (av_i (0)), some (av_q (rf_ G 2 (S.1 3).toNat 0))]) dd_X_tonsLost_6 rfl rfl (by decide) ?_
  exact ml_X_tonsLost hd hC ha ⟨rfl, rfl⟩ (S.1 3).toNat 0 (by have := ha.2.2.2.1; omega)
