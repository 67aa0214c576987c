theorem sp_pay_b {S : ms_T} (h : iv_S S) (hT : iv_T S) (h38 : iv_b (S.1 38)) {l : Nat} (hl : (l : Int) < S.1 3) : iv_b (sp_pay S l) := by
  obtain ⟨l55, -, -, l56, l57, -, -, -, l62, -, -⟩ := h.2.2.2.1 l hl
  have hb := sp_left_b h hl
  unfold sp_pay
  refine sp_work_b hT ?_ ?_ h38 ?_ ?_
  · unfold iv_b; omega
  · unfold iv_b; omega
  · split <;> (unfold iv_b; omega)
  · unfold iv_b; omega
theorem pd_63 {S : ms_T} (h : iv_S S) (hT : iv_T S) (h38 : iv_b (S.1 38)) : ∀ n : Nat, (n : Int) ≤ S.1 3 → (iv_S (sp_it sp_pp S n) ∧ iv_T (sp_it sp_pp S n)) ∧ ∀ l : Nat, (sp_it sp_pp S n).2 63 l = S.2 63 l ∨ (l < n ∧ iv_b ((sp_it sp_pp S n).2 63 l) ∧ 0 ≤ S.2 62 l ∧ (S.2 62 l).tdiv 24 = (S.1 0).tdiv 24)
  | 0, _ => ⟨⟨h, hT⟩, fun l => Or.inl rfl⟩
  | n + 1, hn => by
    obtain ⟨⟨i1, i2⟩, ih⟩ := pd_63 h hT h38 n (by omega)
    have hk := kr_it kr_pp S n
    have e0 := hk.1 0 (fun z => z)
    have e3 := hk.1 3 (fun z => z)
    have e38 := hk.1 38 (fun z => z)
    have e62 := hk.2 62 (by omega)
    have hb := sp_pay_b i1 i2 (by rw [e38]; exact h38) (l := n) (by omega)
    refine ⟨⟨iv_pp i1 i2 (by rw [e38]; exact h38) (by omega), i2.kp (kp_pp _ n)⟩, fun l => ?_⟩
    obtain ⟨T, hTe⟩ : ∃ T, T = sp_it sp_pp S n := ⟨_, rfl⟩
    rw [← hTe] at e0 e3 e38 e62 hb ih
    show (sp_pp (sp_it sp_pp S n) n).2 63 l = _ ∨ (_ ∧ iv_b ((sp_pp (sp_it sp_pp S n) n).2 63 l) ∧ _)
    rw [← hTe]
    unfold sp_pp
    by_cases c : 0 ≤ T.2 62 n ∧ (T.2 62 n).tdiv 24 = (T.1 0).tdiv 24
    · rw [if_pos c]
      have e63 : ∀ j, ai_up (ai_up T.2 63 (ai_up (T.2 63) n (sp_pay T n))) 39 (ai_up (T.2 39) (T.2 40 (T.2 55 n).toNat).toNat (T.2 39 (T.2 40 (T.2 55 n).toNat).toNat + sp_pay T n)) 63 j = ai_up (T.2 63) n (sp_pay T n) j := fun j => rfl
      dsimp only
      rw [e63]
      by_cases e : l = n
      · right
        rw [e, ai_up_s]
        rw [e62, e0] at c
        exact ⟨by omega, hb, c⟩
      · rw [ai_up_n _ _ e]
        rcases ih l with q | ⟨q1, q2⟩
        · exact Or.inl q
        · exact Or.inr ⟨by omega, q2⟩
    · rw [if_neg c]
      rcases ih l with q | ⟨q1, q2⟩
      · exact Or.inl q
      · exact Or.inr ⟨by omega, q2⟩
theorem pd_c {S : ms_T} : ∀ n : Nat, ∀ l : Nat, l < n → 0 ≤ S.2 62 l → (S.2 62 l).tdiv 24 = (S.1 0).tdiv 24 → ∃ T : ms_T, T = sp_it sp_pp S l ∧ (sp_it sp_pp S n).2 63 l = sp_pay T l
  | 0, l, hl, _, _ => by omega
  | n + 1, l, hl, h1, h2 => by
    have hk := kr_it kr_pp S n
    have e0 := hk.1 0 (fun z => z)
    have e62 := hk.2 62 (by omega)
    obtain ⟨T, hTe⟩ : ∃ T, T = sp_it sp_pp S n := ⟨_, rfl⟩
    by_cases e : l = n
    · refine ⟨T, by rw [e]; exact hTe, ?_⟩
      show (sp_pp (sp_it sp_pp S n) n).2 63 l = _
      rw [← hTe] at e0 e62 ⊢
      unfold sp_pp
      rw [if_pos (by rw [e62, e0, ← e]; exact ⟨h1, h2⟩)]
      show ai_up (T.2 63) n (sp_pay T n) l = _
      rw [e, ai_up_s]
    · obtain ⟨T2, q1, q2⟩ := pd_c n l (by omega) h1 h2
      refine ⟨T2, q1, ?_⟩
      rw [← q2]
      show (sp_pp (sp_it sp_pp S n) n).2 63 l = _
      rw [← hTe]
      unfold sp_pp
      split
      · show ai_up (T.2 63) n (sp_pay T n) l = _
        rw [ai_up_n _ _ e]
      · rfl
theorem py_fin {S : ms_T} (h : py_ S 0) (hI : iv_S S) (hT : iv_T S) : py_ (sp_h7 (sp_h6 S)) 0 := by
  have h0 := hI.1.1
  intro l _ hl
  have hk := kr_h6 S
  have e3 : (sp_h7 (sp_h6 S)).1 3 = S.1 3 := hk.1 3 (by decide)
  have e0 : (sp_h7 (sp_h6 S)).1 0 = S.1 0 + 1 := by
    show (sp_h6 S).1 0 + 1 = _
    rw [hk.1 0 (by decide)]
  have e62 : (sp_h7 (sp_h6 S)).2 62 = S.2 62 := hk.2 62 (by omega)
  rw [e3] at hl
  rw [e62, e0]
  have old := h l (Nat.zero_le l) hl
  have hm := sp_mean_b hI
  show (0 ≤ S.2 62 l → ((sp_h6 S).2 63 l = _ ↔ _)) ∧ (_ → (sp_h6 S).2 63 l = _) ∧ _
  unfold sp_h6
  by_cases q : (S.1 0 + 1).tmod 24 = 0
  · rw [if_pos q]
    have hi38 : iv_b (((ai_up S.1 38 (sp_mean S), S.2) : ms_T).1 38) := by
      show iv_b (sp_mean S)
      unfold iv_b
      omega
    obtain ⟨-, h63⟩ := pd_63 (S := (ai_up S.1 38 (sp_mean S), S.2)) (iv_m38 hI _) (iv_T38 hT _) hi38 (S.1 3).toNat (by show ((S.1 3).toNat : Int) ≤ S.1 3; have := hI.1.2.2.2.1; omega)
    rw [Int.tmod_eq_emod_of_nonneg (by omega)] at q
    have hov := old.2.2
    refine ⟨fun c => ?_, fun c => ?_, by omega⟩
    · have d1 : (S.2 62 l).tdiv 24 ≠ (S.1 0 + 1).tdiv 24 := by
        rw [Int.tdiv_eq_ediv_of_nonneg c, Int.tdiv_eq_ediv_of_nonneg (by omega)]
        omega
      refine ⟨fun z => ?_, fun z => absurd z d1⟩
      exfalso
      by_cases c2 : (S.2 62 l).tdiv 24 = (S.1 0).tdiv 24
      · obtain ⟨T, hTe, hTp⟩ := pd_c (S := (ai_up S.1 38 (sp_mean S), S.2)) (S.1 3).toNat l (by have := hI.1.2.2.2.1; omega) c c2
        obtain ⟨⟨i1, i2⟩, -⟩ := pd_63 (S := (ai_up S.1 38 (sp_mean S), S.2)) (iv_m38 hI _) (iv_T38 hT _) hi38 l (by show (l : Int) ≤ S.1 3; omega)
        have hk2 := kr_it kr_pp (ai_up S.1 38 (sp_mean S), S.2) l
        rw [← hTe] at i1 i2 hk2
        have hb := sp_pay_b i1 i2 (by rw [hk2.1 38 (fun z => z)]; exact hi38) (l := l) (by rw [hk2.1 3 (fun z => z)]; exact hl)
        have z2 : (sp_it sp_pp (ai_up S.1 38 (sp_mean S), S.2) (S.1 3).toNat).2 63 l = -2000000000 := z
        rw [hTp] at z2
        unfold iv_b at hb
        omega
      · have z2 : (sp_it sp_pp (ai_up S.1 38 (sp_mean S), S.2) (S.1 3).toNat).2 63 l = -2000000000 := z
        rcases h63 l with w | ⟨-, -, -, w⟩
        · rw [w] at z2
          exact c2 ((old.1 c).mp z2)
        · exact c2 w
    · show (sp_it sp_pp (ai_up S.1 38 (sp_mean S), S.2) (S.1 3).toNat).2 63 l = _
      rcases h63 l with w | ⟨-, -, w, -⟩
      · rw [w]
        exact old.2.1 c
      · have w2 : 0 ≤ S.2 62 l := w
        omega
  · rw [if_neg q]
    have hov := old.2.2
    rw [Int.tmod_eq_emod_of_nonneg (by omega)] at q
    have d1 : (S.1 0 + 1).tdiv 24 = (S.1 0).tdiv 24 := by
      rw [Int.tdiv_eq_ediv_of_nonneg (by omega), Int.tdiv_eq_ediv_of_nonneg (by omega)]
      omega
    rw [d1]
    exact ⟨old.1, old.2.1, by omega⟩
theorem fb_fin {S : ms_T} (h : fb_ S) (h2 : 0 ≤ S.1 2) : fb_ (sp_h7 (sp_h6 (sp_h5 S))) := by
  have k6 := kr_h6 (sp_h5 S)
  have k5 := kr_h5 S
  intro f hf h46 h49
  have e2 : (sp_h7 (sp_h6 (sp_h5 S))).1 2 = S.1 2 := (k6.1 2 (by decide)).trans (k5.1 2 (fun z => z))
  have e0 : (sp_h7 (sp_h6 (sp_h5 S))).1 0 = S.1 0 + 1 := by
    show (sp_h6 (sp_h5 S)).1 0 + 1 = _
    rw [k6.1 0 (by decide), k5.1 0 (fun z => z)]
  have e46 : (sp_h7 (sp_h6 (sp_h5 S))).2 46 = (sp_h5 S).2 46 := k6.2 46 (by omega)
  have e49 : (sp_h7 (sp_h6 (sp_h5 S))).2 49 = S.2 49 := (k6.2 49 (by omega)).trans (k5.2 49 (by decide))
  rw [e2] at hf
  rw [e46] at h46
  rw [e49] at h49 ⊢
  rw [e0]
  have hq := fb_end h (S.1 2).toNat f (by omega) hf h46 h49
  have hb := fb_frN h (S.1 2).toNat f (by rw [(kr_it kr_fr S (S.1 2).toNat).1 2 (fun z => z)]; exact hf) h46 (by rw [(kr_it kr_fr S (S.1 2).toNat).2 49 (by decide)]; exact h49)
  rw [(kr_it kr_fr S (S.1 2).toNat).2 49 (by decide), (kr_it kr_fr S (S.1 2).toNat).1 0 (fun z => z)] at hb
  omega
theorem tr_fin {S : ms_T} {G : gh_T} (h : tr_ S G) : tr_ (sp_h7 (sp_h6 (sp_h5 (sp_h4 S)))) G := by
  have k4 := kr_h4 S
  have k5 := kr_h5 (sp_h4 S)
  have k6 := kr_h6 (sp_h5 (sp_h4 S))
  have h2 : tr_ (sp_h6 (sp_h5 (sp_h4 S))) G := tr_kp h ((k6.1 0 (by decide)).trans ((k5.1 0 (fun z => z)).trans (k4.1 0 (by decide)))) ((k6.1 3 (by decide)).trans ((k5.1 3 (fun z => z)).trans (k4.1 3 (by decide)))) ((k6.1 6 (by decide)).trans ((k5.1 6 (fun z => z)).trans (k4.1 6 (by decide)))) ((k6.2 64 (by omega)).trans ((k5.2 64 (by decide)).trans (k4.2 64 (by omega)))) ((k6.2 59 (by omega)).trans ((k5.2 59 (by decide)).trans (k4.2 59 (by omega)))) (fun _ => rfl)
  obtain ⟨a1, a2, a3⟩ := h2
  refine ⟨fun t ht => a1 t ?_, a2, a3⟩
  have : (sp_h6 (sp_h5 (sp_h4 S))).1 0 + 1 ≤ t := ht
  omega
theorem br_fin {S : ms_T} {G : gh_T} (h : br_ S G) : br_ (sp_h7 (sp_h6 (sp_h5 (sp_h4 S)))) G := by
  have k4 := kr_h4 S
  have k5 := kr_h5 (sp_h4 S)
  have k6 := kr_h6 (sp_h5 (sp_h4 S))
  exact br_kp h ((k6.1 36 (by decide)).trans ((k5.1 36 (fun z => z)).trans (k4.1 36 (by decide)))) ((k6.2 65 (by omega)).trans ((k5.2 65 (by decide)).trans (k4.2 65 (by omega)))) rfl (fun _ => rfl) (fun _ => rfl)
set_option maxHeartbeats 1000000 in
theorem ml_X_ph42 {w : aw_T} {h0 h : ah_T} {S : ms_T} {G : gh_T} {d : Nat} (hd : 41 ≤ d) (hC : co_I h0 h S G) {Sb : ms_T} (hfm : fm_ h0 Sb G) (hcode : sp_code S = sp_code Sb) (hI : iv_S S) (hT : iv_T S) (hpy : py_ S 0) (hfb : fb_ S) {P : ap_T} (hX : ∀ h, co_I h0 h (sp_h7 (sp_h6 (sp_h5 (sp_h4 S)))) G → P none h) : aw_W w mm_X_passHour d P 42 [some (av_r 0)] [] h 0 0 := by
  refine ag_aload_n dd_X_passHour_42 rfl ?_
  refine ag_wV dd_X_passHour_43 fi_X_281 (cr_0 hC) rfl (mc_X_endLoads (d := 1) (by omega) hC hI) rfl rfl (by omega) (Nat.le_of_ble_eq_true rfl) (fun r1 h hP => ?_)
  obtain ⟨rfl, hC1⟩ := hP
  replace hC1 : co_I h0 h (sp_h4 S) G := hC1
  clear hC
  have hC := hC1
  clear hC1
  have hI4 := iv_h4 hI
  have k4 := kr_h4 S
  have hfb4 : fb_ (sp_h4 S) := fb_kp hfb (k4.1 0 (by decide)) (k4.1 2 (by decide)) (k4.2 46 (by omega)) (k4.2 49 (by omega))
  refine ag_aload_n dd_X_passHour_46 rfl ?_
  refine ag_wV dd_X_passHour_47 fi_X_284 (cr_0 hC) rfl (mc_X_endFires (d := 0) (by omega) hC hI4 hfb4) rfl rfl (by omega) (Nat.le_of_ble_eq_true rfl) (fun r1 h hP => ?_)
  obtain ⟨rfl, hC1⟩ := hP
  replace hC1 : co_I h0 h (sp_h5 (sp_h4 S)) G := hC1
  clear hC
  have hC := hC1
  clear hC1
  have hI5 := iv_h5 hI4
  have k5 := kr_h5 (sp_h4 S)
  have hT5 : iv_T (sp_h5 (sp_h4 S)) := (hT.kp (kp_it kp_el S _)).kp (kp_it kp_fr _ _)
  have hpy5 : py_ (sp_h5 (sp_h4 S)) 0 := py_kp (py_h4 hpy hI.1.1.1 _) (k5.1 3 (fun z => z)) (k5.1 0 (fun z => z)) (k5.2 62 (by decide)) (k5.2 63 (by decide))
  have hco5 : sp_code (sp_h5 (sp_h4 S)) = sp_code Sb := by
    rw [← hcode]
    unfold sp_code
    have k4 := kr_h4 S
    rw [k5.1 44 (fun z => z), k5.2 69 (by decide), k5.2 70 (by decide), k4.1 44 (by decide), k4.2 69 (by omega), k4.2 70 (by omega)]
  have h05 := hI5.1.1
  generalize hS5 : sp_h5 (sp_h4 S) = S5 at *
  refine ag_aload_n dd_X_passHour_50 rfl ?_
  refine ag_get dd_X_passHour_51 fg_X_80 (cr_0 hC) rfl ?_
  refine ag_iconst dd_X_passHour_54 ?_
  refine ag_iadd dd_X_passHour_55 ?_
  refine ag_bipush dd_X_passHour_56 (by decide +kernel) ?_
  refine ag_irem dd_X_passHour_58 (by omega) (by omega) (by omega) ?_
  have htm : (S5.1 0 + 1).tmod 24 = (S5.1 0 + 1) % 24 := Int.tmod_eq_emod_of_nonneg (by omega)
  refine ag_if_ne (tgt := 66) dd_X_passHour_59 (by decide) (by omega) (fun c1 => ?_) (fun c1 => ?_)
  · refine ag_aload_n dd_X_passHour_66 rfl ?_
    refine ag_dup dd_X_passHour_67 rfl ?_
    refine ag_get dd_X_passHour_68 fg_X_80 (cr_0 hC) rfl ?_
    refine ag_iconst dd_X_passHour_71 ?_
    refine ag_iadd dd_X_passHour_72 ?_
    refine cp_0 dd_X_passHour_73 fp_X_80 hC (fun h S2 eS2 hC => ?_)
    refine ag_vret dd_X_passHour_76 rfl ?_
    have e6 : sp_h6 S5 = S5 := by
      unfold sp_h6
      exact if_neg (by omega)
    have eS : S2 = sp_h7 (sp_h6 S5) := by
      rw [eS2, e6]
      rfl
    rw [eS] at hC
    exact hX h hC
  · refine ag_aload_n dd_X_passHour_62 rfl ?_
    refine ag_wV dd_X_passHour_63 fi_X_287 (cr_0 hC) rfl (mc_X_payDay (d := 40) (by omega) hC hfm hco5 hI5 hT5 hpy5) rfl rfl (by omega) (Nat.le_of_ble_eq_true rfl) (fun r1 h hP => ?_)
    obtain ⟨rfl, hC1⟩ := hP
    replace hC1 : co_I h0 h (sp_pd S5) G := hC1
    clear hC
    have hC := hC1
    clear hC1
    refine ag_aload_n dd_X_passHour_66 rfl ?_
    refine ag_dup dd_X_passHour_67 rfl ?_
    refine ag_get dd_X_passHour_68 fg_X_80 (cr_0 hC) rfl ?_
    refine ag_iconst dd_X_passHour_71 ?_
    refine ag_iadd dd_X_passHour_72 ?_
    refine cp_0 dd_X_passHour_73 fp_X_80 hC (fun h S3 eS3 hC => ?_)
    refine ag_vret dd_X_passHour_76 rfl ?_
    have e6 : sp_h6 S5 = sp_pd S5 := by
      unfold sp_h6
      exact if_pos (by omega)
    have eS : S3 = sp_h7 (sp_h6 S5) := by
      rw [eS3, e6]
      rfl
    rw [eS] at hC
    exact hX h hC
theorem fm_G {h : ah_T} {S : ms_T} {G G' : gh_T} (hf : fm_ h S G) (hG : G' 9 0 = G 9 0) : fm_ h S G' := fm_cf hf (cf_rf h) rfl hG
theorem code_kr {J A : Nat → Prop} {S S' : ms_T} (h : kr_ J A S S') (h44 : ¬ J 44) (h69 : ¬ A 69) (h70 : ¬ A 70) : sp_code S' = sp_code S := by
  unfold sp_code
  rw [h.1 44 h44, h.2 69 h69, h.2 70 h70]
set_option maxHeartbeats 1000000 in
theorem ml_X_ph19 {w : aw_T} {h0 h : ah_T} {S : ms_T} {G : gh_T} {d : Nat} (hd : 41 ≤ d) (hC : co_I h0 h S G) {Sb : ms_T} (hfm : fm_ h0 Sb G) (hcode : sp_code S = sp_code Sb) (hI : iv_S S) (hT : iv_T S) (hW : iv_W S) (hpy : py_ S 0) (hfb : fb_ S) (htr : tr_ S G) (hbr : br_ S G) {P : ap_T} (hX : ∀ (h : ah_T) (G2 : gh_T), co_I h0 h (sp_h7 (sp_h6 (sp_h5 (sp_h4 (sp_h3 (sp_h2 S)))))) G2 → tr_ (sp_h3 (sp_h2 S)) G2 → br_ (sp_h3 (sp_h2 S)) G2 → (∀ a b, (a ≠ 2 ∧ a ≠ 4 ∧ a ≠ 5 ∧ a ≠ 7 ∧ a ≠ 8 ∧ ¬ (a = 6 ∧ b = 1)) → G2 a b = G a b) → P none h) : aw_W w mm_X_passHour d P 19 [some (av_r 0)] [] h ((sp_h3 (sp_h2 S)).1 36 - S.1 36).toNat (3 * ((sp_h3 (sp_h2 S)).1 36 - S.1 36).toNat) := by
  refine ag_aload_n dd_X_passHour_19 rfl ?_
  refine ag_wV dd_X_passHour_20 fi_X_275 (cr_0 hC) rfl (mc_X_sendTrucks (d := 3) (by omega) hC hI htr) rfl rfl (by omega) (Nat.le_of_ble_eq_true rfl) (fun r1 h hP => ?_)
  obtain ⟨rfl, G2, hC1, htr2, hg2⟩ := hP
  clear hC
  have hC := hC1
  clear hC1
  have k2 := kr_h2 S
  have hI2 := iv_h2 hI
  have hT2 : iv_T (sp_h2 S) := hT.kp (kp_it kp_send S _)
  have hW2 : iv_W (sp_h2 S) := hW.kp (kp_it kp_send S _)
  have hpy2 : py_ (sp_h2 S) 0 := py_kp hpy (k2.1 3 (fun z => z)) (k2.1 0 (fun z => z)) (k2.2 62 (by omega)) (k2.2 63 (by omega))
  have hfb2 : fb_ (sp_h2 S) := fb_kp hfb (k2.1 0 (fun z => z)) (k2.1 2 (fun z => z)) (k2.2 46 (by omega)) (k2.2 49 (by omega))
  have hbr2 : br_ (sp_h2 S) G2 := br_kp hbr (k2.1 36 (fun z => z)) (k2.2 65 (by omega)) (hg2 6 1 (by decide)) (fun j => hg2 7 j (by decide)) (fun j => hg2 8 j (by decide))
  have hco2 : sp_code (sp_h2 S) = sp_code Sb := (code_kr k2 (fun z => z) (by omega) (by omega)).trans hcode
  have hfm2 : fm_ h0 Sb G2 := fm_G hfm (hg2 9 0 (by decide))
  have e36 : (sp_h2 S).1 36 = S.1 36 := k2.1 36 (fun z => z)
  rw [← e36]
  generalize hS2 : sp_h2 S = S2 at *
  have h21s := hI2.1.2.2.2.2.2.2.2.2
  have hWs := hW2
  have h0c := hI2.1.1
  refine ag_aload_n dd_X_passHour_23 rfl ?_
  refine ag_get dd_X_passHour_24 fg_X_35 (cr_0 hC) rfl ?_
  refine ag_iconst dd_X_passHour_27 ?_
  refine ag_aload_n dd_X_passHour_28 rfl ?_
  refine ag_get dd_X_passHour_29 fg_X_80 (cr_0 hC) rfl ?_
  refine ag_rV dd_X_passHour_32 fi_X_268 (cr_4 hC) rfl (mc_Weather_holds (d := 0) (by omega) hC h21s hWs (z := 1) (by omega) (by omega)) rfl rfl (by omega) (Nat.le_of_ble_eq_true rfl) ?_
  refine ag_if_neB (tgt := 42) dd_X_passHour_35 (by decide) (fun c1 => ?_) (fun c1 => ?_)
  · have e3 : sp_h3 S2 = S2 := if_pos (by assumption)
    have hbr3 : br_ (sp_h3 S2) G2 := by rw [e3]; exact hbr2
    have hC1 : co_I h0 h (sp_h3 S2) G2 := by rw [e3]; exact hC
    clear hC
    have hC := hC1
    clear hC1
    have k3 := kr_h3 S2
    have htr3 : tr_ (sp_h3 S2) G2 := tr_kp htr2 (k3.1 0 (by decide)) (k3.1 3 (by decide)) (k3.1 6 (by decide)) (k3.2 64 (by omega)) (k3.2 59 (by omega)) (fun _ => rfl)
    refine ag_room (kc' := 0) (ks' := 0) (Nat.zero_le _) (Nat.zero_le _) ?_
    refine ml_X_ph42 hd hC (Sb := Sb) (fm_G hfm2 rfl) ((code_kr k3 (by decide) (by omega) (by omega)).trans hco2) (iv_h3 hI2) (hT2.kp (kp_h3 S2)) (py_kp hpy2 (k3.1 3 (by decide)) (k3.1 0 (by decide)) (k3.2 62 (by omega)) (k3.2 63 (by omega))) (fb_kp hfb2 (k3.1 0 (by decide)) (k3.1 2 (by decide)) (k3.2 46 (by omega)) (k3.2 49 (by omega))) (fun h hC => hX h G2 hC htr3 hbr3 (fun a b q => hg2 a b (by omega)))
  · refine ag_aload_n dd_X_passHour_38 rfl ?_
    have e3 : sp_h3 S2 = sp_mill S2 := if_neg (by assumption)
    rw [e3]
    refine ag_callV (mc := ((sp_mill S2).1 36 - S2.1 36).toNat) (ms := 3 * ((sp_mill S2).1 36 - S2.1 36).toNat) (kc' := 0) (ks' := 0) dd_X_passHour_39 fi_X_278 (cr_0 hC) rfl (mc_X_crushLoads (d := 3) (by omega) hC hI2 hbr2) rfl rfl (by omega) (Nat.le_of_ble_eq_true rfl) (Nat.le_refl _) (Nat.le_refl _) (fun r1 h hP => ?_)
    obtain ⟨rfl, G3, hC1, hbr3, hg3⟩ := hP
    rw [← e3] at hC1 hbr3
    clear hC
    have hC := hC1
    clear hC1
    have k3 := kr_h3 S2
    have htr3 : tr_ (sp_h3 S2) G3 := tr_kp htr2 (k3.1 0 (by decide)) (k3.1 3 (by decide)) (k3.1 6 (by decide)) (k3.2 64 (by omega)) (k3.2 59 (by omega)) (fun l => hg3 5 l (by omega))
    refine ag_room (kc' := 0) (ks' := 0) (Nat.zero_le _) (Nat.zero_le _) ?_
    refine ml_X_ph42 hd hC (Sb := Sb) (fm_G hfm2 (hg3 9 0 (by omega))) ((code_kr k3 (by decide) (by omega) (by omega)).trans hco2) (iv_h3 hI2) (hT2.kp (kp_h3 S2)) (py_kp hpy2 (k3.1 3 (by decide)) (k3.1 0 (by decide)) (k3.2 62 (by omega)) (k3.2 63 (by omega))) (fb_kp hfb2 (k3.1 0 (by decide)) (k3.1 2 (by decide)) (k3.2 46 (by omega)) (k3.2 49 (by omega))) (fun h hC => hX h G3 hC htr3 hbr3 (fun a b q => (hg3 a b (by omega)).trans (hg2 a b (by omega))))
set_option maxHeartbeats 1000000 in
theorem mc_X_passHour {w : aw_T} {h0 h : ah_T} {S : ms_T} {G : gh_T} {d : Nat} (hd : 41 ≤ d) (hC : co_I h0 h S G) {Sb : ms_T} (hfm : fm_ h0 Sb G) (hcode : sp_code S = sp_code Sb) (hI : iv_S S) (hT : iv_T S) (hW : iv_W S) (hpy : py_ S 0) (hfb : fb_ S) (htr : tr_ S G) (hbr : br_ S G) (hc : S.1 0 ≤ 3999) : am_M w mm_X_passHour d [av_r 0] h (((sp_h1 S).1 3 - S.1 3).toNat + ((sp_h3 (sp_h2 (sp_h1 S))).1 36 - S.1 36).toNat) (12 * ((sp_h1 S).1 3 - S.1 3).toNat + 3 * ((sp_h3 (sp_h2 (sp_h1 S))).1 36 - S.1 36).toNat) (fun r1 h1 => r1 = none ∧ ∃ G2 : gh_T, co_I h0 h1 (sp_hour S) G2 ∧ tr_ (sp_hour S) G2 ∧ br_ (sp_hour S) G2 ∧ (∀ a b, (a ≠ 2 ∧ a ≠ 4 ∧ a ≠ 5 ∧ a ≠ 7 ∧ a ≠ 8 ∧ ¬ (a = 6 ∧ b = 1)) → G2 a b = G a b)) := by
  refine am_intro [some (av_r 0)] (by decide +kernel) (Nat.le_of_ble_eq_true rfl) rfl ?_
  have h21s := hI.1.2.2.2.2.2.2.2.2
  have hWs := hW
  have h0c := hI.1.1
  refine ag_aload_n dd_X_passHour_0 rfl ?_
  refine ag_get dd_X_passHour_1 fg_X_35 (cr_0 hC) rfl ?_
  refine ag_iconst dd_X_passHour_4 ?_
  refine ag_aload_n dd_X_passHour_5 rfl ?_
  refine ag_get dd_X_passHour_6 fg_X_80 (cr_0 hC) rfl ?_
  refine ag_rV dd_X_passHour_9 fi_X_268 (cr_4 hC) rfl (mc_Weather_holds (d := 0) (by omega) hC h21s hWs (z := 0) (by omega) (by omega)) rfl rfl (by omega) (Nat.le_of_ble_eq_true rfl) ?_
  refine ag_if_neB (tgt := 19) dd_X_passHour_12 (by decide) (fun c1 => ?_) (fun c1 => ?_)
  · have e1 : sp_h1 S = S := if_pos (by assumption)
    have hcs : (sp_h1 S).1 0 = S.1 0 ∧ (sp_h1 S).1 2 = S.1 2 ∧ (sp_h1 S).1 6 = S.1 6 ∧ (sp_h1 S).1 36 = S.1 36 ∧ (sp_h1 S).2 65 = S.2 65 ∧ (sp_h1 S).2 49 = S.2 49 ∧ (sp_h1 S).2 50 = S.2 50 := by rw [e1]; exact ⟨rfl, rfl, rfl, rfl, rfl, rfl, rfl⟩
    have hC1 : co_I h0 h (sp_h1 S) G := by rw [e1]; exact hC
    clear hC
    have hC := hC1
    clear hC1
    have htr1 : tr_ (sp_h1 S) G := by rw [e1]; exact htr
    have hpy1 : py_ (sp_h1 S) 0 := by rw [e1]; exact hpy
    have hfb1 : fb_ (sp_h1 S) := by rw [e1]; exact hfb
    refine ag_room (kc' := ((sp_h3 (sp_h2 (sp_h1 S))).1 36 - S.1 36).toNat) (ks' := 3 * ((sp_h3 (sp_h2 (sp_h1 S))).1 36 - S.1 36).toNat) (Nat.le_add_left _ _) (Nat.le_add_left _ _) ?_
    have hbr1 : br_ (sp_h1 S) G := br_kp hbr hcs.2.2.2.1 hcs.2.2.2.2.1 rfl (fun _ => rfl) (fun _ => rfl)
    have hco1 : sp_code (sp_h1 S) = sp_code Sb := by
      rw [← hcode]
      have kk := kp_h1 S
      unfold sp_code
      rw [kk.1 44 (by decide) (by decide) (by decide) (by decide), kk.2 69 (by omega), kk.2 70 (by omega)]
    rw [← hcs.2.2.2.1]
    exact ml_X_ph19 hd hC (Sb := Sb) (fm_G hfm rfl) hco1 (iv_h1 hI hc) (hT.kp (kp_h1 S)) (hW.kp (kp_h1 S)) hpy1 hfb1 htr1 hbr1 (fun h G2 hC ht hb hg => ⟨rfl, G2, hC, tr_fin ht, br_fin hb, fun a b q => hg a b q⟩)
  · refine ag_aload_n dd_X_passHour_15 rfl ?_
    have e1 : sp_h1 S = sp_it sp_cs S (S.1 2).toNat := if_neg (by assumption)
    rw [e1]
    refine ag_callV (mc := ((sp_it sp_cs S (S.1 2).toNat).1 3 - S.1 3).toNat) (ms := 12 * ((sp_it sp_cs S (S.1 2).toNat).1 3 - S.1 3).toNat) (kc' := ((sp_h3 (sp_h2 (sp_it sp_cs S (S.1 2).toNat))).1 36 - S.1 36).toNat) (ks' := 3 * ((sp_h3 (sp_h2 (sp_it sp_cs S (S.1 2).toNat))).1 36 - S.1 36).toNat) dd_X_passHour_16 fi_X_272 (cr_0 hC) rfl (mc_X_goOnCutting (d := 4) (by omega) hC hI hc htr) rfl rfl (by omega) (Nat.le_of_ble_eq_true rfl) (Nat.le_refl _) (Nat.le_refl _) (fun r1 h hP => ?_)
    obtain ⟨rfl, G1, hC1, htr1, hg1⟩ := hP
    rw [← e1] at hC1 htr1 ⊢
    clear hC
    have hC := hC1
    clear hC1
    have hcs := cs_it S (S.1 2).toNat
    rw [← e1] at hcs
    have hpy1 : py_ (sp_h1 S) 0 := by rw [e1]; exact py_it hpy hI.1.2.2.2.1.1 hI.1.1.1 _
    have hfb1 : fb_ (sp_h1 S) := by rw [e1]; exact fb_it hfb _
    have hbr1 : br_ (sp_h1 S) G1 := br_kp hbr hcs.2.2.2.1 hcs.2.2.2.2.1 (hg1 6 1 (by decide) (by decide)) (fun j => hg1 7 j (by decide) (by decide)) (fun j => hg1 8 j (by decide) (by decide))
    have hco1 : sp_code (sp_h1 S) = sp_code Sb := by
      rw [← hcode]
      have kk := kp_h1 S
      unfold sp_code
      rw [kk.1 44 (by decide) (by decide) (by decide) (by decide), kk.2 69 (by omega), kk.2 70 (by omega)]
    rw [← hcs.2.2.2.1]
    exact ml_X_ph19 hd hC (Sb := Sb) (fm_G hfm (hg1 9 0 (by decide) (by decide))) hco1 (iv_h1 hI hc) (hT.kp (kp_h1 S)) (hW.kp (kp_h1 S)) hpy1 hfb1 htr1 hbr1 (fun h G2 hC ht hb hg => ⟨rfl, G2, hC, tr_fin ht, br_fin hb, fun a b q => (hg a b q).trans (hg1 a b (by omega) (by omega))⟩)
