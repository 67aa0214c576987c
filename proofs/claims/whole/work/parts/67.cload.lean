/-- a load's cell is set anew -/
theorem co_uL {h0 h h' : ah_T} {S S' : ms_T} {G G' : gh_T} {i : Nat} {c : ac_T} (hC : co_I h0 h S G) (hi : (i : Int) < S.1 3) (hu : hu_ h h' (G 2 i) c) (hc : c = cx_L S' G' i) (h1 : ∀ k, k ≠ 36 → k ≠ 37 → S'.1 k = S.1 k) (h2 : ∀ a j, a ≠ 64 → a ≠ 65 → ¬ ((55 ≤ a ∧ a ≤ 63) ∧ j = i) → S'.2 a j = S.2 a j) (hG : ∀ a b, ¬ (a = 5 ∧ b = i) → G' a b = G a b) : co_I h0 h' S' G' := by
  subst hc
  have e39 : S'.2 39 = S.2 39 := funext (fun j => h2 39 j (by decide) (by decide) (by omega))
  have e66 : S'.2 66 = S.2 66 := funext (fun j => h2 66 j (by decide) (by decide) (by omega))
  have e68 : S'.2 68 = S.2 68 := funext (fun j => h2 68 j (by decide) (by decide) (by omega))
  have rfG : ∀ k n j, k ≠ 5 → rf_ G' k n j = rf_ G k n j := fun k n j hk => by
    unfold rf_
    split
    · rw [hG k j (by omega)]
    · rfl
  have rlG : ∀ k n, k ≠ 5 → rl_ G' k n = rl_ G k n := fun k n hk => by
    unfold rl_
    split
    · rfl
    · rw [hG k _ (by omega)]
  have v0 := h1 0 (by decide) (by decide)
  have v1 := h1 1 (by decide) (by decide)
  have v2 := h1 2 (by decide) (by decide)
  have v3 := h1 3 (by decide) (by decide)
  have v4 := h1 4 (by decide) (by decide)
  have v5 := h1 5 (by decide) (by decide)
  have v6 := h1 6 (by decide) (by decide)
  have v7 := h1 7 (by decide) (by decide)
  have v21 := h1 21 (by decide) (by decide)
  have v38 := h1 38 (by decide) (by decide)
  have v39 := h1 39 (by decide) (by decide)
  have v43 := h1 43 (by decide) (by decide)
  have v47 := h1 47 (by decide) (by decide)
  have v48 := h1 48 (by decide) (by decide)
  have g61 := hG 6 1 (by omega)
  have hu2 : hu_ h h' (ad_ G 2 i) (ce_ S' G' 2 i) := hu
  refine ⟨co_up hC.1 (k0 := 2) (i0 := i) hi hu2 (co_K ⟨Or.inl (by decide), rfl, Or.inr ?_⟩ ⟨Or.inl (by decide), rfl, Or.inr ?_⟩ ⟨Or.inl (by decide), rfl, Or.inr ?_⟩ ⟨Or.inl (by decide), rfl, Or.inr ?_⟩ ⟨Or.inl (by decide), rfl, Or.inr ?_⟩ ⟨Or.inl (by decide), rfl, Or.inr ?_⟩ ⟨Or.inr (Or.inl rfl), rfl, Or.inr ?_⟩ ⟨Or.inr (Or.inr rfl), rfl, Or.inr ?_⟩ (fun j hj => ⟨?_, hG 1 j (by omega), Or.inr ?_⟩) (fun j hj => ⟨?_, hG 2 j (by omega), ?_⟩) (fun j hj => ⟨?_, hG 3 j (by omega), Or.inr ?_⟩) (fun j hj => ⟨?_, hG 4 j (by omega), Or.inr ?_⟩)), cf_hu hC.2 hu (Or.inr (Or.inr (Or.inr ((hC.1.2.1 2 i hi).2 (by decide)))))⟩
  · show cx_0 S' G' = cx_0 S G
    unfold cx_0
    rw [v0, v2, v3, v4, v5, v6, v7, v38, v47, v48, rfG 1 _ _ (by decide), rfG 2 _ _ (by decide), rlG 1 _ (by decide), rlG 2 _ (by decide), hG 9 0 (by omega)]
  · show cx_1 S' G' = cx_1 S G
    unfold cx_1
    rw [v1, v39, hG 6 0 (by omega)]
  · show ac_l 10 (S'.2 39) = _
    rw [e39]
    rfl
  · show ac_a 0 10 (S'.2 66) = _
    rw [e66]
    rfl
  · show cx_4 S' G' = cx_4 S G
    unfold cx_4
    rw [v21, rlG 3 _ (by decide)]
  · show cx_5 G' = cx_5 G
    unfold cx_5
    rw [g61, rfG 4 _ _ (by decide), rlG 4 _ (by decide)]
  · show cx_30 S' = cx_30 S
    unfold cx_30
    rw [v43]
  · show ac_a 1 100 (fun j => sb_ (S'.2 68 j)) = _
    rw [e68]
    rfl
  · show (j : Int) < S.1 2
    rw [← v2]; exact hj
  · show cx_F S' G' j = cx_F S G j
    unfold cx_F
    rw [v2, rfG 1 _ _ (by decide), h2 40 j (by decide) (by decide) (by omega), h2 41 j (by decide) (by decide) (by omega), h2 42 j (by decide) (by decide) (by omega), h2 43 j (by decide) (by decide) (by omega), h2 44 j (by decide) (by decide) (by omega), h2 45 j (by decide) (by decide) (by omega), h2 46 j (by decide) (by decide) (by omega), h2 47 j (by decide) (by decide) (by omega), h2 48 j (by decide) (by decide) (by omega), h2 49 j (by decide) (by decide) (by omega), h2 50 j (by decide) (by decide) (by omega), h2 51 j (by decide) (by decide) (by omega)]
  · show (j : Int) < S.1 3
    rw [← v3]; exact hj
  · by_cases q : j = i
    · exact Or.inl ⟨rfl, q⟩
    · right
      show cx_L S' G' j = cx_L S G j
      unfold cx_L
      rw [v3, rfG 2 _ _ (by decide), h2 55 j (by decide) (by decide) (by omega), h2 56 j (by decide) (by decide) (by omega), h2 57 j (by decide) (by decide) (by omega), h2 58 j (by decide) (by decide) (by omega), h2 59 j (by decide) (by decide) (by omega), h2 60 j (by decide) (by decide) (by omega), h2 61 j (by decide) (by decide) (by omega), h2 62 j (by decide) (by decide) (by omega), h2 63 j (by decide) (by decide) (by omega), hG 5 j (by omega), hG 1 _ (by omega)]
  · show (j : Int) < S.1 21
    rw [← v21]; exact hj
  · show cx_S S' G' j = cx_S S G j
    unfold cx_S
    rw [h2 52 j (by decide) (by decide) (by omega), h2 53 j (by decide) (by decide) (by omega), h2 54 j (by decide) (by decide) (by omega), rlG 3 _ (by decide)]
  · show j < G 6 1
    have : j < G' 6 1 := hj
    omega
  · show cx_B G' j = cx_B G j
    unfold cx_B
    rw [g61, rfG 4 _ _ (by decide), hG 7 j (by omega), hG 8 j (by omega)]
/-- f on k, k + 1 .., m of them -/
def it2 (f : ms_T → Nat → ms_T) : ms_T → Nat → Nat → ms_T
  | S, _, 0 => S
  | S, k, m + 1 => it2 f (f S k) (k + 1) m
theorem it2_it (f : ms_T → Nat → ms_T) (S : ms_T) : ∀ m k, it2 f (sp_it f S k) k m = sp_it f S (k + m)
  | 0, k => rfl
  | m + 1, k => by
    rw [it2, show k + (m + 1) = k + 1 + m by omega, ← it2_it f S m (k + 1)]
    rfl
theorem it2_0 (f : ms_T → Nat → ms_T) (S : ms_T) (m : Nat) : it2 f S 0 m = sp_it f S m := by
  have := it2_it f S m 0
  rwa [Nat.zero_add] at this
set_option maxHeartbeats 1000000 in
theorem mc_Load_isAtMill {w : aw_T} {h0 h : ah_T} {S : ms_T} {G : gh_T} {d : Nat} (hd : 0 ≤ d) (hC : co_I h0 h S G) {i : Nat} (hi : (i : Int) < S.1 3) (h59 : -1 ≤ S.2 59 i ∧ S.2 59 i ≤ 4100) {t : Int} (ht : 0 ≤ t ∧ t ≤ 4100) : am_M w mm_Load_isAtMill d [av_r (G 2 i), av_i t] h 0 0 (fun r h' => r = some (av_i (if 0 ≤ S.2 59 i ∧ S.2 59 i ≤ t then 1 else 0)) ∧ h' = h) := by
  refine am_intro [some (av_r ((G 2 i))), some (av_i (t))] (by decide +kernel) (Nat.le_of_ble_eq_true rfl) rfl ?_
  refine ag_aload_n dd_Load_isAtMill_0 rfl ?_
  refine ag_get dd_Load_isAtMill_1 fg_Load_9 (cr_L hC hi) rfl ?_
  refine ag_iconst dd_Load_isAtMill_4 ?_
  refine ag_icmp_eq (tgt := 20) dd_Load_isAtMill_5 (by decide) (by omega) (by omega) (fun c1 => ?_) (fun c1 => ?_)
  · refine ag_iconst dd_Load_isAtMill_20 ?_
    refine ag_zret dd_Load_isAtMill_21 rfl (by first | exact Or.inl rfl | exact Or.inr rfl | omega) ?_
    refine ⟨congrArg (fun z => some (av_i z)) ?_, rfl⟩
    first | rw [if_pos (by omega)] | rw [if_neg (by omega)]
  · refine ag_aload_n dd_Load_isAtMill_8 rfl ?_
    refine ag_get dd_Load_isAtMill_9 fg_Load_9 (cr_L hC hi) rfl ?_
    refine ag_iload_n dd_Load_isAtMill_12 rfl ?_
    refine ag_icmp_gt (tgt := 20) dd_Load_isAtMill_13 (by decide) (by omega) (by omega) (fun c2 => ?_) (fun c2 => ?_)
    · refine ag_iconst dd_Load_isAtMill_20 ?_
      refine ag_zret dd_Load_isAtMill_21 rfl (by first | exact Or.inl rfl | exact Or.inr rfl | omega) ?_
      refine ⟨congrArg (fun z => some (av_i z)) ?_, rfl⟩
      first | rw [if_pos (by omega)] | rw [if_neg (by omega)]
    · refine ag_iconst dd_Load_isAtMill_16 ?_
      refine ag_goto (tgt := 21) dd_Load_isAtMill_17 (by decide) ?_
      refine ag_zret dd_Load_isAtMill_21 rfl (by first | exact Or.inl rfl | exact Or.inr rfl | omega) ?_
      refine ⟨congrArg (fun z => some (av_i z)) ?_, rfl⟩
      first | rw [if_pos (by omega)] | rw [if_neg (by omega)]
set_option maxHeartbeats 1000000 in
theorem mc_Load_tonsLeft {w : aw_T} {h0 h : ah_T} {S : ms_T} {G : gh_T} {d : Nat} (hd : 0 ≤ d) (hC : co_I h0 h S G) {i : Nat} (hi : (i : Int) < S.1 3) (h55 : 0 ≤ S.2 55 i ∧ S.2 55 i < S.1 2) : am_M w mm_Load_tonsLeft d [av_r (G 2 i)] h 0 0 (fun r h' => r = some (av_i (sp_left S i)) ∧ h' = h) := by
  refine am_intro [some (av_r ((G 2 i)))] (by decide +kernel) (Nat.le_of_ble_eq_true rfl) rfl ?_
  refine ag_aload_n dd_Load_tonsLeft_0 rfl ?_
  refine ag_get dd_Load_tonsLeft_1 fg_Load_25 (cr_L hC hi) rfl ?_
  refine ag_get dd_Load_tonsLeft_4 fg_Load_54 (cr_F hC (by omega)) rfl ?_
  refine ag_aload_n dd_Load_tonsLeft_7 rfl ?_
  refine ag_get dd_Load_tonsLeft_8 fg_Load_57 (cr_L hC hi) rfl ?_
  refine ag_isub dd_Load_tonsLeft_11 ?_
  refine ag_aload_n dd_Load_tonsLeft_12 rfl ?_
  refine ag_get dd_Load_tonsLeft_13 fg_Load_60 (cr_L hC hi) rfl ?_
  refine ag_isub dd_Load_tonsLeft_16 ?_
  refine ag_iret dd_Load_tonsLeft_17 rfl ?_
  exact ⟨rfl, rfl⟩
set_option maxHeartbeats 1000000 in
theorem mc_Load_isToBePaid {w : aw_T} {h0 h : ah_T} {S : ms_T} {G : gh_T} {d : Nat} (hd : 1 ≤ d) (hC : co_I h0 h S G) {i : Nat} (hi : (i : Int) < S.1 3) (h62 : -1 ≤ S.2 62 i ∧ S.2 62 i ≤ 4000) (h63 : -2000000000 ≤ S.2 63 i ∧ S.2 63 i ≤ 1000000000) : am_M w mm_Load_isToBePaid d [av_r (G 2 i)] h 0 0 (fun r h' => r = some (av_i (if 0 ≤ S.2 62 i ∧ S.2 63 i = -2000000000 then 1 else 0)) ∧ h' = h) := by
  refine am_intro [some (av_r ((G 2 i)))] (by decide +kernel) (Nat.le_of_ble_eq_true rfl) rfl ?_
  refine ag_aload_n dd_Load_isToBePaid_0 rfl ?_
  refine ag_rV dd_Load_isToBePaid_1 fi_Load_63 (cr_L hC hi) rfl (mc_Load_isOver (d := 0) (by omega) hC hi (by omega)) rfl rfl (by omega) (Nat.le_of_ble_eq_true rfl) ?_
  refine ag_if_eqB (tgt := 20) dd_Load_isToBePaid_4 (by decide) (fun c1 => ?_) (fun c1 => ?_)
  · refine ag_iconst dd_Load_isToBePaid_20 ?_
    refine ag_zret dd_Load_isToBePaid_21 rfl (by first | exact Or.inl rfl | exact Or.inr rfl | omega) ?_
    refine ⟨congrArg (fun z => some (av_i z)) ?_, rfl⟩
    first | rw [if_pos (by omega)] | rw [if_neg (by omega)]
  · refine ag_aload_n dd_Load_isToBePaid_7 rfl ?_
    refine ag_get dd_Load_isToBePaid_8 fg_Load_19 (cr_L hC hi) rfl ?_
    refine ag_ldc (a := -2000000000) dd_Load_isToBePaid_11 fc_Load_18 (by decide +kernel) ?_
    refine ag_icmp_ne (tgt := 20) dd_Load_isToBePaid_13 (by decide) (by omega) (by omega) (fun c2 => ?_) (fun c2 => ?_)
    · refine ag_iconst dd_Load_isToBePaid_20 ?_
      refine ag_zret dd_Load_isToBePaid_21 rfl (by first | exact Or.inl rfl | exact Or.inr rfl | omega) ?_
      refine ⟨congrArg (fun z => some (av_i z)) ?_, rfl⟩
      first | rw [if_pos (by omega)] | rw [if_neg (by omega)]
    · refine ag_iconst dd_Load_isToBePaid_16 ?_
      refine ag_goto (tgt := 21) dd_Load_isToBePaid_17 (by decide) ?_
      refine ag_zret dd_Load_isToBePaid_21 rfl (by first | exact Or.inl rfl | exact Or.inr rfl | omega) ?_
      refine ⟨congrArg (fun z => some (av_i z)) ?_, rfl⟩
      first | rw [if_pos (by omega)] | rw [if_neg (by omega)]
set_option maxHeartbeats 1000000 in
theorem mc_Load_leave {w : aw_T} {h0 h : ah_T} {S : ms_T} {G : gh_T} {d : Nat} (hd : 2 ≤ d) (hC : co_I h0 h S G) {i : Nat} (hi : (i : Int) < S.1 3) (h55 : 0 ≤ S.2 55 i ∧ S.2 55 i < S.1 2) (hkm : 0 ≤ S.2 42 (S.2 55 i).toNat ∧ S.2 42 (S.2 55 i).toNat ≤ 60) {t : Int} (ht : t = S.1 0 + 1) (h0c : 0 ≤ S.1 0) : am_M w mm_Load_leave d [av_r (G 2 i), av_i t] h 0 0 (cq_ h0 (gi_ G 5 i (t + sp_trip (S.2 42 (S.2 55 i).toNat) + sp_trip (S.2 42 (S.2 55 i).toNat)).toNat) (none, sp_go S i)) := by
  refine am_intro [some (av_r ((G 2 i))), some (av_i (t)), none] (by decide +kernel) (Nat.le_of_ble_eq_true rfl) rfl ?_
  have htb := sp_trip_b hkm
  refine ag_aload_n dd_Load_leave_0 rfl ?_
  refine ag_get dd_Load_leave_1 fg_Load_25 (cr_L hC hi) rfl ?_
  refine ag_rV dd_Load_leave_4 fi_Load_48 (cr_F hC (by omega)) rfl (mc_Field_hoursToMill (d := 1) (by omega) hC (by omega) hkm) rfl rfl (by omega) (Nat.le_of_ble_eq_true rfl) ?_
  refine ag_istore_nN (Lf := fun y => [some (av_r ((G 2 i))), some (av_i (t)), some (av_i (y))]) dd_Load_leave_7 (fun _ => rfl) rfl (by decide) (fun y1 ey1 => ?_)
  refine ag_aload_n dd_Load_leave_8 rfl ?_
  refine ag_iload_n dd_Load_leave_9 rfl ?_
  refine ag_iload_n dd_Load_leave_10 rfl ?_
  refine ag_iadd dd_Load_leave_11 ?_
  refine hp_i dd_Load_leave_12 fp_Load_9 (cr_L hC hi) (Nat.le_of_ble_eq_true rfl) (fun h huN => ?_)
  have hu1 := huN
  clear huN
  refine ag_aload_n dd_Load_leave_15 rfl ?_
  refine ag_aload_n dd_Load_leave_16 rfl ?_
  refine ag_get dd_Load_leave_17 fg_Load_9 hu1.2.1 rfl ?_
  refine ag_iload_n dd_Load_leave_20 rfl ?_
  refine ag_iadd dd_Load_leave_21 ?_
  refine hp_i dd_Load_leave_22 fp_Load_51 hu1.2.1 (Nat.le_of_ble_eq_true rfl) (fun h huN => ?_)
  replace hu1 := hu_tr hu1 huN
  clear huN
  refine ag_vret dd_Load_leave_25 rfl ?_
  subst ey1
  refine ⟨rfl, co_uL (S' := sp_go S i) hC hi hu1 ?_ (fun k _ _ => rfl) ?_ (fun a b hab => gi_n G hab)⟩
  · have e1 : (sp_go S i).2 59 i = t + sp_trip (S.2 42 (S.2 55 i).toNat) := by
      show ai_up (S.2 59) i _ i = _
      rw [ai_up_s, ht]
    unfold cx_L
    rw [e1, gi_s]
    have e2 : ((t + sp_trip (S.2 42 (S.2 55 i).toNat) + sp_trip (S.2 42 (S.2 55 i).toNat)).toNat : Int) = t + sp_trip (S.2 42 (S.2 55 i).toNat) + sp_trip (S.2 42 (S.2 55 i).toNat) := by omega
    rw [e2]
    rfl
  · intro a j q1 q2 q3
    show ai_up (ai_up S.2 59 _) 64 _ a j = _
    rw [ai_up_n _ _ q1]
    by_cases q : a = 59
    · subst q
      rw [ai_up_s, ai_up_n _ _ (by omega)]
    · rw [ai_up_n _ _ q]
set_option maxHeartbeats 1000000 in
theorem ml_X_nextToCrush {w : aw_T} {h0 h : ah_T} {S : ms_T} {G : gh_T} {d : Nat} (hd : 1 ≤ d) (hC : co_I h0 h S G) (hI : iv_S S) {P : ap_T} (hP : P (some (av_q (if 0 ≤ sp_fd S then some (G 2 (sp_fd S).toNat) else none))) h) : ∀ (m k : Nat), (k : Int) + m = S.1 3 → aw_W w mm_X_nextToCrush d P 7 [some (av_r 0), some (av_q ((if 0 ≤ sp_fdN S k then some (G 2 (sp_fdN S k).toNat) else none))), some (av_q (rf_ G 2 (S.1 3).toNat k)), none] [] h 0 0 := by
  intro m
  have h2 := hI.1.2.2.2.1
  have h0c := hI.1.1
  induction m with
  | zero =>
    intro k hk
    rw [rf_e (by omega)]
    refine ag_aload_n dd_X_nextToCrush_7 rfl ?_
    refine ag_ifnull (tgt := 64) dd_X_nextToCrush_8 (by decide) (fun _ => ?_) (fun _ q => by cases q)
    refine ag_aload_n dd_X_nextToCrush_64 rfl ?_
    refine ag_aret dd_X_nextToCrush_65 rfl ?_
    obtain rfl : k = (S.1 3).toNat := by omega
    exact hP
  | succ m ih =>
    intro k hk
    rw [rf_s (by omega)]
    by_cases hfd : 0 ≤ sp_fdN S k
    · obtain ⟨b, hbb⟩ : ∃ b : Nat, sp_fdN S k = (b : Int) := ⟨(sp_fdN S k).toNat, by omega⟩
      have hbe : (sp_fdN S k).toNat = b := by omega
      rw [if_pos hfd, hbe]
      have hb := sp_fdN_b S k
      have hlb := sp_left_b hI (l := k) (by omega)
      obtain ⟨-, -, -, -, -, l58, l59, -, l62, l62b, -⟩ := hI.2.2.2.1 k (by omega)
      obtain ⟨-, -, -, -, -, m58, -⟩ := hI.2.2.2.1 b (by omega)
      have h58b : S.2 58 (sp_fdN S k).toNat = S.2 58 b := by rw [hbe]
      refine ag_aload_n dd_X_nextToCrush_7 rfl ?_
      refine ag_ifnull (tgt := 64) dd_X_nextToCrush_8 (by decide) (fun q => by cases q) (fun _ _ => ?_)
      refine ag_aload_n dd_X_nextToCrush_11 rfl ?_
      refine ag_aload_n dd_X_nextToCrush_12 rfl ?_
      refine ag_get dd_X_nextToCrush_13 fg_X_80 (cr_0 hC) rfl ?_
      refine ag_rV dd_X_nextToCrush_16 fi_X_319 (cr_L hC (by omega)) rfl (mc_Load_isAtMill (d := 0) (by omega) hC (by omega) (by omega) (by omega)) rfl rfl (by omega) (Nat.le_of_ble_eq_true rfl) ?_
      refine ag_if_eqB (tgt := 33) dd_X_nextToCrush_19 (by decide) (fun c2 => ?_) (fun c2 => ?_)
      · refine ag_iconst dd_X_nextToCrush_33 ?_
        refine ag_istore_n (L' := [some (av_r 0), some (av_r ((G 2 b))), some (av_r ((G 2 k))), some (av_i (0))]) dd_X_nextToCrush_34 rfl rfl (by decide) ?_
        refine ag_iload_n dd_X_nextToCrush_35 rfl ?_
        refine ag_if_eq (tgt := 56) dd_X_nextToCrush_36 (by decide) (by omega) (fun c3 => ?_) (fun c3 => ?_)
        · refine ag_aload_n dd_X_nextToCrush_56 rfl ?_
          refine ag_get dd_X_nextToCrush_57 fg_X_263 (cr_L hC (by omega)) rfl ?_
          refine ag_astore_n (L' := [some (av_r 0), some (av_r ((G 2 b))), some (av_q (rf_ G 2 (S.1 3).toNat (k + 1))), some (av_i (0))]) dd_X_nextToCrush_60 rfl rfl (by decide) ?_
          refine ag_goto (tgt := 7) dd_X_nextToCrush_61 (by decide) ?_
          have ek : sp_fdN S (k + 1) = sp_fdN S k := by
            rw [sp_fdN, if_neg (by omega)]
          have := ih (k + 1) (by omega)
          rw [ek, if_pos hfd, hbe] at this
          exact ag_weak _ (by simp [al_le]) this
        · exfalso; omega
      · refine ag_aload_n dd_X_nextToCrush_22 rfl ?_
        refine ag_rV dd_X_nextToCrush_23 fi_X_307 (cr_L hC (by omega)) rfl (mc_Load_tonsLeft (d := 0) (by omega) hC (by omega) (by omega)) rfl rfl (by omega) (Nat.le_of_ble_eq_true rfl) ?_
        refine ag_if_le (tgt := 33) dd_X_nextToCrush_26 (by decide) (by omega) (fun c4 => ?_) (fun c4 => ?_)
        · refine ag_iconst dd_X_nextToCrush_33 ?_
          refine ag_istore_n (L' := [some (av_r 0), some (av_r ((G 2 b))), some (av_r ((G 2 k))), some (av_i (0))]) dd_X_nextToCrush_34 rfl rfl (by decide) ?_
          refine ag_iload_n dd_X_nextToCrush_35 rfl ?_
          refine ag_if_eq (tgt := 56) dd_X_nextToCrush_36 (by decide) (by omega) (fun c5 => ?_) (fun c5 => ?_)
          · refine ag_aload_n dd_X_nextToCrush_56 rfl ?_
            refine ag_get dd_X_nextToCrush_57 fg_X_263 (cr_L hC (by omega)) rfl ?_
            refine ag_astore_n (L' := [some (av_r 0), some (av_r ((G 2 b))), some (av_q (rf_ G 2 (S.1 3).toNat (k + 1))), some (av_i (0))]) dd_X_nextToCrush_60 rfl rfl (by decide) ?_
            refine ag_goto (tgt := 7) dd_X_nextToCrush_61 (by decide) ?_
            have ek : sp_fdN S (k + 1) = sp_fdN S k := by
              rw [sp_fdN, if_neg (by omega)]
            have := ih (k + 1) (by omega)
            rw [ek, if_pos hfd, hbe] at this
            exact ag_weak _ (by simp [al_le]) this
          · exfalso; omega
        · refine ag_iconst dd_X_nextToCrush_29 ?_
          refine ag_goto (tgt := 34) dd_X_nextToCrush_30 (by decide) ?_
          refine ag_istore_n (L' := [some (av_r 0), some (av_r ((G 2 b))), some (av_r ((G 2 k))), some (av_i (1))]) dd_X_nextToCrush_34 rfl rfl (by decide) ?_
          refine ag_iload_n dd_X_nextToCrush_35 rfl ?_
          refine ag_if_eq (tgt := 56) dd_X_nextToCrush_36 (by decide) (by omega) (fun c6 => ?_) (fun c6 => ?_)
          · exfalso; omega
          · refine ag_aload_n dd_X_nextToCrush_39 rfl ?_
            refine ag_ifnull (tgt := 54) dd_X_nextToCrush_40 (by decide) (fun q => by cases q) (fun _ _ => ?_)
            refine ag_aload_n dd_X_nextToCrush_43 rfl ?_
            refine ag_get dd_X_nextToCrush_44 fg_X_205 (cr_L hC (by omega)) rfl ?_
            refine ag_aload_n dd_X_nextToCrush_47 rfl ?_
            refine ag_get dd_X_nextToCrush_48 fg_X_205 (cr_L hC (by omega)) rfl ?_
            refine ag_icmp_ge (tgt := 56) dd_X_nextToCrush_51 (by decide) (by omega) (by omega) (fun c8 => ?_) (fun c8 => ?_)
            · refine ag_aload_n dd_X_nextToCrush_56 rfl ?_
              refine ag_get dd_X_nextToCrush_57 fg_X_263 (cr_L hC (by omega)) rfl ?_
              refine ag_astore_n (L' := [some (av_r 0), some (av_r ((G 2 b))), some (av_q (rf_ G 2 (S.1 3).toNat (k + 1))), some (av_i (1))]) dd_X_nextToCrush_60 rfl rfl (by decide) ?_
              refine ag_goto (tgt := 7) dd_X_nextToCrush_61 (by decide) ?_
              have ek : sp_fdN S (k + 1) = sp_fdN S k := by
                rw [sp_fdN, if_neg (by omega)]
              have := ih (k + 1) (by omega)
              rw [ek, if_pos hfd, hbe] at this
              exact ag_weak _ (by simp [al_le]) this
            · refine ag_aload_n dd_X_nextToCrush_54 rfl ?_
              refine ag_astore_n (L' := [some (av_r 0), some (av_r ((G 2 k))), some (av_r ((G 2 k))), some (av_i (1))]) dd_X_nextToCrush_55 rfl rfl (by decide) ?_
              refine ag_aload_n dd_X_nextToCrush_56 rfl ?_
              refine ag_get dd_X_nextToCrush_57 fg_X_263 (cr_L hC (by omega)) rfl ?_
              refine ag_astore_n (L' := [some (av_r 0), some (av_r ((G 2 k))), some (av_q (rf_ G 2 (S.1 3).toNat (k + 1))), some (av_i (1))]) dd_X_nextToCrush_60 rfl rfl (by decide) ?_
              refine ag_goto (tgt := 7) dd_X_nextToCrush_61 (by decide) ?_
              have ek : sp_fdN S (k + 1) = (k : Int) := by
                rw [sp_fdN, if_pos (by first | omega | (refine ⟨?_, ?_, ?_, ?_⟩ <;> omega))]
              have eq : (if 0 ≤ sp_fdN S (k + 1) then some (G 2 (sp_fdN S (k + 1)).toNat) else none) = some (G 2 k) := by rw [ek, if_pos (by omega), Int.toNat_natCast]
              have := ih (k + 1) (by omega)
              rw [eq] at this
              exact ag_weak _ (by simp [al_le]) this
    · rw [if_neg hfd]
      have hb := sp_fdN_b S k
      have hlb := sp_left_b hI (l := k) (by omega)
      obtain ⟨-, -, -, -, -, l58, l59, -, l62, l62b, -⟩ := hI.2.2.2.1 k (by omega)
      refine ag_aload_n dd_X_nextToCrush_7 rfl ?_
      refine ag_ifnull (tgt := 64) dd_X_nextToCrush_8 (by decide) (fun q => by cases q) (fun _ _ => ?_)
      refine ag_aload_n dd_X_nextToCrush_11 rfl ?_
      refine ag_aload_n dd_X_nextToCrush_12 rfl ?_
      refine ag_get dd_X_nextToCrush_13 fg_X_80 (cr_0 hC) rfl ?_
      refine ag_rV dd_X_nextToCrush_16 fi_X_319 (cr_L hC (by omega)) rfl (mc_Load_isAtMill (d := 0) (by omega) hC (by omega) (by omega) (by omega)) rfl rfl (by omega) (Nat.le_of_ble_eq_true rfl) ?_
      refine ag_if_eqB (tgt := 33) dd_X_nextToCrush_19 (by decide) (fun c2 => ?_) (fun c2 => ?_)
      · refine ag_iconst dd_X_nextToCrush_33 ?_
        refine ag_istore_n (L' := [some (av_r 0), some (av_n), some (av_r ((G 2 k))), some (av_i (0))]) dd_X_nextToCrush_34 rfl rfl (by decide) ?_
        refine ag_iload_n dd_X_nextToCrush_35 rfl ?_
        refine ag_if_eq (tgt := 56) dd_X_nextToCrush_36 (by decide) (by omega) (fun c3 => ?_) (fun c3 => ?_)
        · refine ag_aload_n dd_X_nextToCrush_56 rfl ?_
          refine ag_get dd_X_nextToCrush_57 fg_X_263 (cr_L hC (by omega)) rfl ?_
          refine ag_astore_n (L' := [some (av_r 0), some (av_n), some (av_q (rf_ G 2 (S.1 3).toNat (k + 1))), some (av_i (0))]) dd_X_nextToCrush_60 rfl rfl (by decide) ?_
          refine ag_goto (tgt := 7) dd_X_nextToCrush_61 (by decide) ?_
          have ek : sp_fdN S (k + 1) = sp_fdN S k := by
            rw [sp_fdN, if_neg (by omega)]
          have := ih (k + 1) (by omega)
          rw [ek, if_neg hfd] at this
          exact ag_weak _ (by simp [al_le]) this
        · exfalso; omega
      · refine ag_aload_n dd_X_nextToCrush_22 rfl ?_
        refine ag_rV dd_X_nextToCrush_23 fi_X_307 (cr_L hC (by omega)) rfl (mc_Load_tonsLeft (d := 0) (by omega) hC (by omega) (by omega)) rfl rfl (by omega) (Nat.le_of_ble_eq_true rfl) ?_
        refine ag_if_le (tgt := 33) dd_X_nextToCrush_26 (by decide) (by omega) (fun c4 => ?_) (fun c4 => ?_)
        · refine ag_iconst dd_X_nextToCrush_33 ?_
          refine ag_istore_n (L' := [some (av_r 0), some (av_n), some (av_r ((G 2 k))), some (av_i (0))]) dd_X_nextToCrush_34 rfl rfl (by decide) ?_
          refine ag_iload_n dd_X_nextToCrush_35 rfl ?_
          refine ag_if_eq (tgt := 56) dd_X_nextToCrush_36 (by decide) (by omega) (fun c5 => ?_) (fun c5 => ?_)
          · refine ag_aload_n dd_X_nextToCrush_56 rfl ?_
            refine ag_get dd_X_nextToCrush_57 fg_X_263 (cr_L hC (by omega)) rfl ?_
            refine ag_astore_n (L' := [some (av_r 0), some (av_n), some (av_q (rf_ G 2 (S.1 3).toNat (k + 1))), some (av_i (0))]) dd_X_nextToCrush_60 rfl rfl (by decide) ?_
            refine ag_goto (tgt := 7) dd_X_nextToCrush_61 (by decide) ?_
            have ek : sp_fdN S (k + 1) = sp_fdN S k := by
              rw [sp_fdN, if_neg (by omega)]
            have := ih (k + 1) (by omega)
            rw [ek, if_neg hfd] at this
            exact ag_weak _ (by simp [al_le]) this
          · exfalso; omega
        · refine ag_iconst dd_X_nextToCrush_29 ?_
          refine ag_goto (tgt := 34) dd_X_nextToCrush_30 (by decide) ?_
          refine ag_istore_n (L' := [some (av_r 0), some (av_n), some (av_r ((G 2 k))), some (av_i (1))]) dd_X_nextToCrush_34 rfl rfl (by decide) ?_
          refine ag_iload_n dd_X_nextToCrush_35 rfl ?_
          refine ag_if_eq (tgt := 56) dd_X_nextToCrush_36 (by decide) (by omega) (fun c6 => ?_) (fun c6 => ?_)
          · exfalso; omega
          · refine ag_aload_n dd_X_nextToCrush_39 rfl ?_
            refine ag_ifnull (tgt := 54) dd_X_nextToCrush_40 (by decide) (fun _ => ?_) (fun _ q => by cases q)
            refine ag_aload_n dd_X_nextToCrush_54 rfl ?_
            refine ag_astore_n (L' := [some (av_r 0), some (av_r ((G 2 k))), some (av_r ((G 2 k))), some (av_i (1))]) dd_X_nextToCrush_55 rfl rfl (by decide) ?_
            refine ag_aload_n dd_X_nextToCrush_56 rfl ?_
            refine ag_get dd_X_nextToCrush_57 fg_X_263 (cr_L hC (by omega)) rfl ?_
            refine ag_astore_n (L' := [some (av_r 0), some (av_r ((G 2 k))), some (av_q (rf_ G 2 (S.1 3).toNat (k + 1))), some (av_i (1))]) dd_X_nextToCrush_60 rfl rfl (by decide) ?_
            refine ag_goto (tgt := 7) dd_X_nextToCrush_61 (by decide) ?_
            have ek : sp_fdN S (k + 1) = (k : Int) := by
              rw [sp_fdN, if_pos (by first | omega | (refine ⟨?_, ?_, ?_, ?_⟩ <;> omega))]
            have eq : (if 0 ≤ sp_fdN S (k + 1) then some (G 2 (sp_fdN S (k + 1)).toNat) else none) = some (G 2 k) := by rw [ek, if_pos (by omega), Int.toNat_natCast]
            have := ih (k + 1) (by omega)
            rw [eq] at this
            exact ag_weak _ (by simp [al_le]) this
set_option maxHeartbeats 1000000 in
theorem mc_X_nextToCrush {w : aw_T} {h0 h : ah_T} {S : ms_T} {G : gh_T} {d : Nat} (hd : 1 ≤ d) (hC : co_I h0 h S G) (hI : iv_S S) : am_M w mm_X_nextToCrush d [av_r 0] h 0 0 (fun r h' => r = some (av_q (if 0 ≤ sp_fd S then some (G 2 (sp_fd S).toNat) else none)) ∧ h' = h) := by
  refine am_intro [some (av_r 0), none, none, none] (by decide +kernel) (Nat.le_of_ble_eq_true rfl) rfl ?_
  refine ag_null dd_X_nextToCrush_0 ?_
  refine ag_astore_n (L' := [some (av_r 0), some (av_n), none, none]) dd_X_nextToCrush_1 rfl rfl (by decide) ?_
  refine ag_aload_n dd_X_nextToCrush_2 rfl ?_
  refine ag_get dd_X_nextToCrush_3 fg_X_260 (cr_0 hC) rfl ?_
  refine ag_astore_n (L' := [some (av_r 0), some (av_n), some (av_q (rf_ G 2 (S.1 3).toNat 0)), none]) dd_X_nextToCrush_6 rfl rfl (by decide) ?_
  exact ml_X_nextToCrush hd hC hI ⟨rfl, rfl⟩ (S.1 3).toNat 0 (by have := hI.1.2.2.2.1; omega)
theorem sp_los_id {S : ms_T} {l : Nat} (h : sp_left S l = 0) : sp_los S l = S := by
  unfold sp_los
  split
  · rw [h]
    refine Prod.ext (funext fun j => ?_) (funext fun a => funext fun j => ?_)
    · show ai_up S.1 37 (S.1 37 + 0) j = S.1 j
      by_cases e : j = 37
      · rw [e, ai_up_s, Int.add_zero]
      · rw [ai_up_n _ _ e]
    · show ai_up S.2 61 (ai_up (S.2 61) l (S.2 61 l + 0)) a j = S.2 a j
      by_cases e : a = 61
      · rw [e, ai_up_s]
        by_cases e2 : j = l
        · rw [e2, ai_up_s, Int.add_zero]
        · rw [ai_up_n _ _ e2]
      · rw [ai_up_n _ _ e]
  · rfl
theorem sp_los_left {S : ms_T} {l : Nat} (h : S.2 58 l ≤ S.1 0 + 1) : sp_left (sp_los S l) l = 0 := by
  have e : sp_los S l = (ai_up S.1 37 (S.1 37 + sp_left S l), ai_up S.2 61 (ai_up (S.2 61) l (S.2 61 l + sp_left S l))) := if_pos h
  have e1 : (sp_los S l).2 61 l = S.2 61 l + sp_left S l := by
    rw [e]
    exact ai_up_s (S.2 61) l _
  have e2 : ∀ a, a ≠ 61 → (sp_los S l).2 a = S.2 a := fun a ha => by
    rw [e]
    exact ai_up_n S.2 _ ha
  unfold sp_left at e1 ⊢
  rw [e1, e2 41 (by decide), e2 55 (by decide), e2 60 (by decide)]
  omega
theorem sp_los_f (S : ms_T) (l : Nat) : (∀ k, k ≠ 37 → (sp_los S l).1 k = S.1 k) ∧ (∀ a, a ≠ 61 → (sp_los S l).2 a = S.2 a) ∧ ∀ j, j ≠ l → (sp_los S l).2 61 j = S.2 61 j := by
  unfold sp_los
  split
  · exact ⟨fun k hk => ai_up_n S.1 _ hk, fun a ha => ai_up_n S.2 _ ha, fun j hj => ai_up_n (S.2 61) _ hj⟩
  · exact ⟨fun _ _ => rfl, fun _ _ => rfl, fun _ _ => rfl⟩
set_option maxHeartbeats 1000000 in
theorem ml_X_endLoads {w : aw_T} {h0 : ah_T} {G : gh_T} {d : Nat} (hd : 1 ≤ d) {now : Int} {n : Nat} {P : ap_T} : ∀ (m k : Nat) (S : ms_T) (h : ah_T), k + m = n → S.1 3 = (n : Int) → iv_S S → S.1 0 + 1 = now → co_I h0 h S G → (∀ h, co_I h0 h (it2 sp_el S k m) G → P none h) → aw_W w mm_X_endLoads d P 12 [some (av_r 0), some (av_i (now)), some (av_q (rf_ G 2 n k))] [] h 0 0 := by
  intro m
  induction m with
  | zero =>
    intro k S h hk h3 hI hnow hC hX
    rw [rf_e (by omega)]
    refine ag_aload_n dd_X_endLoads_12 rfl ?_
    refine ag_ifnull (tgt := 64) dd_X_endLoads_13 (by decide) (fun _ => ?_) (fun _ q => by cases q)
    refine ag_vret dd_X_endLoads_64 rfl ?_
    exact hX h hC
  | succ m ih =>
    intro k S h hk h3 hI hnow hC hX
    rw [rf_s (by omega)]
    have hlb := sp_left_b hI (l := k) (by omega)
    obtain ⟨l55, -, -, -, -, l58, l59, -, l62, l62b, -⟩ := hI.2.2.2.1 k (by omega)
    have h0c := hI.1.1
    refine ag_aload_n dd_X_endLoads_12 rfl ?_
    refine ag_ifnull (tgt := 64) dd_X_endLoads_13 (by decide) (fun q => by cases q) (fun _ _ => ?_)
    refine ag_aload_n dd_X_endLoads_16 rfl ?_
    refine ag_get dd_X_endLoads_17 fg_X_205 (cr_L hC (by omega)) rfl ?_
    refine ag_iload_n dd_X_endLoads_20 rfl ?_
    refine ag_icmp_gt (tgt := 37) dd_X_endLoads_21 (by decide) (by omega) (by omega) (fun c2 => ?_) (fun c2 => ?_)
    · refine ag_aload_n dd_X_endLoads_37 rfl ?_
      refine ag_rV dd_X_endLoads_38 fi_X_307 (cr_L hC (by omega)) rfl (mc_Load_tonsLeft (d := 0) (by omega) hC (by omega) (by omega)) rfl rfl (by omega) (Nat.le_of_ble_eq_true rfl) ?_
      refine ag_if_ne (tgt := 56) dd_X_endLoads_41 (by decide) (by omega) (fun c3 => ?_) (fun c3 => ?_)
      · refine ag_aload_n dd_X_endLoads_56 rfl ?_
        refine ag_get dd_X_endLoads_57 fg_X_263 (cr_L hC (by omega)) rfl ?_
        refine ag_astore_n (L' := [some (av_r 0), some (av_i (now)), some (av_q (rf_ G 2 (S.1 3).toNat (k + 1)))]) dd_X_endLoads_60 rfl rfl (by decide) ?_
        refine ag_goto (tgt := 12) dd_X_endLoads_61 (by decide) ?_
        have eL : sp_los S k = S := if_neg (by omega)
        have eE : sp_el S k = S := by
          unfold sp_el
          by_cases q : 0 ≤ S.2 62 k
          · rw [if_pos q]
          · rw [if_neg q, eL]
            unfold sp_ov
            rw [if_neg (by omega)]
        rw [← eE] at hC
        have hI2 := iv_el hI (l := k) (by omega)
        have f3 : (sp_el S k).1 3 = S.1 3 := by rw [eE] <;> first | rfl | omega | (rw [eO])
        have f0 : (sp_el S k).1 0 = S.1 0 := by rw [eE] <;> first | rfl | (rw [eO]; exact (sp_los_f S k).1 0 (by decide)) | (rw [eO]) | exact (sp_los_f S k).1 0 (by decide)
        rw [show (S.1 3).toNat = n by omega]
        exact ih (k + 1) (sp_el S k) h (by omega) (by omega) hI2 (by omega) hC (fun h hC => hX h hC)
      · refine ag_aload_n dd_X_endLoads_44 rfl ?_
        refine ag_rV dd_X_endLoads_45 fi_X_217 (cr_L hC (by omega)) rfl (mc_Load_isOver (d := 0) (by omega) hC (by omega) (by omega)) rfl rfl (by omega) (Nat.le_of_ble_eq_true rfl) ?_
        refine ag_if_neB (tgt := 56) dd_X_endLoads_48 (by decide) (fun c4 => ?_) (fun c4 => ?_)
        · refine ag_aload_n dd_X_endLoads_56 rfl ?_
          refine ag_get dd_X_endLoads_57 fg_X_263 (cr_L hC (by omega)) rfl ?_
          refine ag_astore_n (L' := [some (av_r 0), some (av_i (now)), some (av_q (rf_ G 2 (S.1 3).toNat (k + 1)))]) dd_X_endLoads_60 rfl rfl (by decide) ?_
          refine ag_goto (tgt := 12) dd_X_endLoads_61 (by decide) ?_
          have eL : sp_los S k = S := if_neg (by omega)
          have eE : sp_el S k = S := by
            unfold sp_el
            by_cases q : 0 ≤ S.2 62 k
            · rw [if_pos q]
            · rw [if_neg q, eL]
              unfold sp_ov
              rw [if_neg (by omega)]
          rw [← eE] at hC
          have hI2 := iv_el hI (l := k) (by omega)
          have f3 : (sp_el S k).1 3 = S.1 3 := by rw [eE] <;> first | rfl | omega | (rw [eO])
          have f0 : (sp_el S k).1 0 = S.1 0 := by rw [eE] <;> first | rfl | (rw [eO]; exact (sp_los_f S k).1 0 (by decide)) | (rw [eO]) | exact (sp_los_f S k).1 0 (by decide)
          rw [show (S.1 3).toNat = n by omega]
          exact ih (k + 1) (sp_el S k) h (by omega) (by omega) hI2 (by omega) hC (fun h hC => hX h hC)
        · refine ag_aload_n dd_X_endLoads_51 rfl ?_
          refine ag_iload_n dd_X_endLoads_52 rfl ?_
          refine hp_i dd_X_endLoads_53 fp_X_322 (cr_L hC (by omega)) (Nat.le_of_ble_eq_true rfl) (fun h hu => ?_)
          have eO : sp_ov S k = (S.1, ai_up S.2 62 (ai_up (S.2 62) k (S.1 0))) := if_pos (by omega)
          have hC0 := hC
          clear hC
          have hC : co_I h0 h (sp_ov S k) G := by
            rw [eO]
            refine co_uL hC0 (by omega) hu ?_ (fun j _ q => rfl) (fun a j _ _ q => ?_) (fun _ _ _ => rfl)
            · have e1 : (if ai_up S.2 62 (ai_up (S.2 62) k (S.1 0)) 62 k < 0 then (-1 : Int) else ai_up S.2 62 (ai_up (S.2 62) k (S.1 0)) 62 k + 1) = now := by
                show (if ai_up (S.2 62) k (S.1 0) k < 0 then (-1 : Int) else ai_up (S.2 62) k (S.1 0) k + 1) = now
                rw [ai_up_s, if_neg (by omega)]
                omega
              unfold cx_L
              dsimp only
              rw [e1]
              rfl
            · show ai_up S.2 62 _ a j = _
              by_cases e : a = 62
              · rw [e, ai_up_s, ai_up_n _ _ (by omega)]
              · rw [ai_up_n _ _ e]
          clear hu
          have z3 : (sp_ov S k).1 3 = S.1 3 := by rw [eO] <;> omega
          refine ag_aload_n dd_X_endLoads_56 rfl ?_
          refine ag_get dd_X_endLoads_57 fg_X_263 (cr_L hC (by omega)) rfl ?_
          refine ag_astore_n (L' := [some (av_r 0), some (av_i (now)), some (av_q (rf_ G 2 ((sp_ov S k).1 3).toNat (k + 1)))]) dd_X_endLoads_60 rfl rfl (by decide) ?_
          refine ag_goto (tgt := 12) dd_X_endLoads_61 (by decide) ?_
          have eL : sp_los S k = S := if_neg (by omega)
          have eE : sp_el S k = (sp_ov S k) := by
            unfold sp_el
            rw [if_neg (by omega), eL]
          rw [← eE] at hC
          have hI2 := iv_el hI (l := k) (by omega)
          have f3 : (sp_el S k).1 3 = S.1 3 := by rw [eE] <;> first | rfl | omega | (rw [eO])
          have f0 : (sp_el S k).1 0 = S.1 0 := by rw [eE] <;> first | rfl | (rw [eO]; exact (sp_los_f S k).1 0 (by decide)) | (rw [eO]) | exact (sp_los_f S k).1 0 (by decide)
          rw [show ((sp_ov S k).1 3).toNat = n by omega]
          exact ih (k + 1) (sp_el S k) h (by omega) (by omega) hI2 (by omega) hC (fun h hC => hX h hC)
    · refine ag_aload_n dd_X_endLoads_24 rfl ?_
      refine ag_dup dd_X_endLoads_25 rfl ?_
      refine ag_get dd_X_endLoads_26 fg_X_214 (cr_L hC (by omega)) rfl ?_
      refine ag_aload_n dd_X_endLoads_29 rfl ?_
      refine ag_rV dd_X_endLoads_30 fi_X_307 (cr_L hC (by omega)) rfl (mc_Load_tonsLeft (d := 0) (by omega) hC (by omega) (by omega)) rfl rfl (by omega) (Nat.le_of_ble_eq_true rfl) ?_
      refine ag_iadd dd_X_endLoads_33 ?_
      refine hp_i dd_X_endLoads_34 fp_X_214 (cr_L hC (by omega)) (Nat.le_of_ble_eq_true rfl) (fun h hu => ?_)
      have eS : sp_los S k = (ai_up S.1 37 (S.1 37 + sp_left S k), ai_up S.2 61 (ai_up (S.2 61) k (S.2 61 k + sp_left S k))) := if_pos (by omega)
      have hlk := sp_los_left (S := S) (l := k) (by omega)
      have hlf := sp_los_f S k
      have hC0 := hC
      clear hC
      have hC : co_I h0 h (sp_los S k) G := by
        refine co_uL hC0 (by omega) hu ?_ (fun j _ q => hlf.1 j q) (fun a j _ _ q => ?_) (fun _ _ _ => rfl)
        · have e1 : (sp_los S k).2 61 k = S.2 61 k + sp_left S k := by rw [eS]; exact ai_up_s (S.2 61) k _
          unfold cx_L
          rw [e1, hlf.1 3 (by decide), hlf.2.1 55 (by decide), hlf.2.1 56 (by decide), hlf.2.1 57 (by decide), hlf.2.1 58 (by decide), hlf.2.1 59 (by decide), hlf.2.1 60 (by decide), hlf.2.1 62 (by decide), hlf.2.1 63 (by decide)]
          rfl
        · by_cases e : a = 61
          · rw [e]
            exact hlf.2.2 j (by omega)
          · rw [hlf.2.1 a e]
      clear hu
      have w3 : (sp_los S k).1 3 = S.1 3 := hlf.1 3 (by decide)
      have w0 : (sp_los S k).1 0 = S.1 0 := hlf.1 0 (by decide)
      have w2 : (sp_los S k).1 2 = S.1 2 := hlf.1 2 (by decide)
      have w55 : (sp_los S k).2 55 k = S.2 55 k := by rw [hlf.2.1 55 (by decide)]
      have w62 : (sp_los S k).2 62 k = S.2 62 k := by rw [hlf.2.1 62 (by decide)]
      refine ag_aload_n dd_X_endLoads_37 rfl ?_
      refine ag_rV dd_X_endLoads_38 fi_X_307 (cr_L hC (by omega)) rfl (mc_Load_tonsLeft (d := 0) (by omega) hC (by omega) (by omega)) rfl rfl (by omega) (Nat.le_of_ble_eq_true rfl) ?_
      refine ag_if_ne (tgt := 56) dd_X_endLoads_41 (by decide) (by omega) (fun c5 => ?_) (fun c5 => ?_)
      · refine ag_aload_n dd_X_endLoads_56 rfl ?_
        refine ag_get dd_X_endLoads_57 fg_X_263 (cr_L hC (by omega)) rfl ?_
        refine ag_astore_n (L' := [some (av_r 0), some (av_i (now)), some (av_q (rf_ G 2 ((sp_los S k).1 3).toNat (k + 1)))]) dd_X_endLoads_60 rfl rfl (by decide) ?_
        refine ag_goto (tgt := 12) dd_X_endLoads_61 (by decide) ?_
        have eE : sp_el S k = (sp_los S k) := by
          unfold sp_el
          by_cases q : 0 ≤ S.2 62 k
          · rw [if_pos q, sp_los_id (by omega)]
          · rw [if_neg q]
            unfold sp_ov
            rw [if_neg (by omega)]
        rw [← eE] at hC
        have hI2 := iv_el hI (l := k) (by omega)
        have f3 : (sp_el S k).1 3 = S.1 3 := by rw [eE] <;> first | rfl | omega | (rw [eO])
        have f0 : (sp_el S k).1 0 = S.1 0 := by rw [eE] <;> first | rfl | (rw [eO]; exact (sp_los_f S k).1 0 (by decide)) | (rw [eO]) | exact (sp_los_f S k).1 0 (by decide)
        rw [show ((sp_los S k).1 3).toNat = n by omega]
        exact ih (k + 1) (sp_el S k) h (by omega) (by omega) hI2 (by omega) hC (fun h hC => hX h hC)
      · refine ag_aload_n dd_X_endLoads_44 rfl ?_
        refine ag_rV dd_X_endLoads_45 fi_X_217 (cr_L hC (by omega)) rfl (mc_Load_isOver (d := 0) (by omega) hC (by omega) (by omega)) rfl rfl (by omega) (Nat.le_of_ble_eq_true rfl) ?_
        refine ag_if_neB (tgt := 56) dd_X_endLoads_48 (by decide) (fun c6 => ?_) (fun c6 => ?_)
        · refine ag_aload_n dd_X_endLoads_56 rfl ?_
          refine ag_get dd_X_endLoads_57 fg_X_263 (cr_L hC (by omega)) rfl ?_
          refine ag_astore_n (L' := [some (av_r 0), some (av_i (now)), some (av_q (rf_ G 2 ((sp_los S k).1 3).toNat (k + 1)))]) dd_X_endLoads_60 rfl rfl (by decide) ?_
          refine ag_goto (tgt := 12) dd_X_endLoads_61 (by decide) ?_
          have eE : sp_el S k = (sp_los S k) := by
            unfold sp_el
            by_cases q : 0 ≤ S.2 62 k
            · rw [if_pos q, sp_los_id (by omega)]
            · rw [if_neg q]
              unfold sp_ov
              rw [if_neg (by omega)]
          rw [← eE] at hC
          have hI2 := iv_el hI (l := k) (by omega)
          have f3 : (sp_el S k).1 3 = S.1 3 := by rw [eE] <;> first | rfl | omega | (rw [eO])
          have f0 : (sp_el S k).1 0 = S.1 0 := by rw [eE] <;> first | rfl | (rw [eO]; exact (sp_los_f S k).1 0 (by decide)) | (rw [eO]) | exact (sp_los_f S k).1 0 (by decide)
          rw [show ((sp_los S k).1 3).toNat = n by omega]
          exact ih (k + 1) (sp_el S k) h (by omega) (by omega) hI2 (by omega) hC (fun h hC => hX h hC)
        · refine ag_aload_n dd_X_endLoads_51 rfl ?_
          refine ag_iload_n dd_X_endLoads_52 rfl ?_
          refine hp_i dd_X_endLoads_53 fp_X_322 (cr_L hC (by omega)) (Nat.le_of_ble_eq_true rfl) (fun h hu => ?_)
          have eO : sp_ov (sp_los S k) k = ((sp_los S k).1, ai_up (sp_los S k).2 62 (ai_up ((sp_los S k).2 62) k ((sp_los S k).1 0))) := if_pos (by omega)
          have hC0 := hC
          clear hC
          have hC : co_I h0 h (sp_ov (sp_los S k) k) G := by
            rw [eO]
            refine co_uL hC0 (by omega) hu ?_ (fun j _ q => rfl) (fun a j _ _ q => ?_) (fun _ _ _ => rfl)
            · have e1 : (if ai_up (sp_los S k).2 62 (ai_up ((sp_los S k).2 62) k ((sp_los S k).1 0)) 62 k < 0 then (-1 : Int) else ai_up (sp_los S k).2 62 (ai_up ((sp_los S k).2 62) k ((sp_los S k).1 0)) 62 k + 1) = now := by
                show (if ai_up ((sp_los S k).2 62) k ((sp_los S k).1 0) k < 0 then (-1 : Int) else ai_up ((sp_los S k).2 62) k ((sp_los S k).1 0) k + 1) = now
                rw [ai_up_s, if_neg (by omega)]
                omega
              unfold cx_L
              dsimp only
              rw [e1]
              rfl
            · show ai_up (sp_los S k).2 62 _ a j = _
              by_cases e : a = 62
              · rw [e, ai_up_s, ai_up_n _ _ (by omega)]
              · rw [ai_up_n _ _ e]
          clear hu
          have z3 : (sp_ov (sp_los S k) k).1 3 = S.1 3 := by rw [eO] <;> omega
          refine ag_aload_n dd_X_endLoads_56 rfl ?_
          refine ag_get dd_X_endLoads_57 fg_X_263 (cr_L hC (by omega)) rfl ?_
          refine ag_astore_n (L' := [some (av_r 0), some (av_i (now)), some (av_q (rf_ G 2 ((sp_ov (sp_los S k) k).1 3).toNat (k + 1)))]) dd_X_endLoads_60 rfl rfl (by decide) ?_
          refine ag_goto (tgt := 12) dd_X_endLoads_61 (by decide) ?_
          have eE : sp_el S k = (sp_ov (sp_los S k) k) := by
            unfold sp_el
            rw [if_neg (by omega)]
          rw [← eE] at hC
          have hI2 := iv_el hI (l := k) (by omega)
          have f3 : (sp_el S k).1 3 = S.1 3 := by rw [eE] <;> first | rfl | omega | (rw [eO])
          have f0 : (sp_el S k).1 0 = S.1 0 := by rw [eE] <;> first | rfl | (rw [eO]; exact (sp_los_f S k).1 0 (by decide)) | (rw [eO]) | exact (sp_los_f S k).1 0 (by decide)
          rw [show ((sp_ov (sp_los S k) k).1 3).toNat = n by omega]
          exact ih (k + 1) (sp_el S k) h (by omega) (by omega) hI2 (by omega) hC (fun h hC => hX h hC)
set_option maxHeartbeats 1000000 in
theorem mc_X_endLoads {w : aw_T} {h0 h : ah_T} {S : ms_T} {G : gh_T} {d : Nat} (hd : 1 ≤ d) (hC : co_I h0 h S G) (hI : iv_S S) : am_M w mm_X_endLoads d [av_r 0] h 0 0 (cq_ h0 G (none, sp_h4 S)) := by
  refine am_intro [some (av_r 0), none, none] (by decide +kernel) (Nat.le_of_ble_eq_true rfl) rfl ?_
  refine ag_aload_n dd_X_endLoads_0 rfl ?_
  refine ag_get dd_X_endLoads_1 fg_X_80 (cr_0 hC) rfl ?_
  refine ag_iconst dd_X_endLoads_4 ?_
  refine ag_iadd dd_X_endLoads_5 ?_
  refine ag_istore_nN (Lf := fun y => [some (av_r 0), some (av_i (y)), none]) dd_X_endLoads_6 (fun _ => rfl) rfl (by decide) (fun y1 ey1 => ?_)
  refine ag_aload_n dd_X_endLoads_7 rfl ?_
  refine ag_get dd_X_endLoads_8 fg_X_260 (cr_0 hC) rfl ?_
  refine ag_astore_n (L' := [some (av_r 0), some (av_i (y1)), some (av_q (rf_ G 2 (S.1 3).toNat 0))]) dd_X_endLoads_11 rfl rfl (by decide) ?_
  have h3 := hI.1.2.2.2.1
  obtain ⟨n, hn⟩ : ∃ n : Nat, S.1 3 = (n : Int) := ⟨(S.1 3).toNat, by omega⟩
  rw [show (S.1 3).toNat = n by omega]
  refine ml_X_endLoads hd n 0 S h (by omega) hn hI ey1.symm hC (fun h hC => ⟨rfl, ?_⟩)
  show co_I h0 h (sp_it sp_el S (S.1 3).toNat) G
  rw [show (S.1 3).toNat = n by omega, ← it2_0]
  exact hC
/-- a standing field that burns can still be cut -/
def fb_ (S : ms_T) : Prop := ∀ f : Nat, (f : Int) < S.1 2 → S.2 46 f = 0 → 0 ≤ S.2 49 f → S.2 49 f ≤ S.1 0 ∧ S.1 0 ≤ S.2 49 f + 11
theorem fb_fr {S : ms_T} (h : fb_ S) (k : Nat) : fb_ (sp_fr S k) := by
  unfold sp_fr
  split
  · intro f hf h46 h49
    have hf2 : (f : Int) < S.1 2 := hf
    have h46b : ai_up (S.2 46) k 3 f = 0 := h46
    by_cases e : f = k
    · rw [e, ai_up_s] at h46b
      omega
    · rw [ai_up_n _ _ e] at h46b
      exact h f hf2 h46b h49
  · exact h
set_option maxHeartbeats 1000000 in
theorem ml_X_endFires {w : aw_T} {h0 : ah_T} {G : gh_T} {d : Nat} {n : Nat} {P : ap_T} : ∀ (m k : Nat) (S : ms_T) (h : ah_T), k + m = n → S.1 2 = (n : Int) → iv_S S → fb_ S → co_I h0 h S G → (∀ h, co_I h0 h (it2 sp_fr S k m) G → P none h) → aw_W w mm_X_endFires d P 5 [some (av_r 0), some (av_q (rf_ G 1 n k))] [] h 0 0 := by
  intro m
  induction m with
  | zero =>
    intro k S h hk h2 hI hfb hC hX
    rw [rf_e (by omega)]
    refine ag_aload_n dd_X_endFires_5 rfl ?_
    refine ag_ifnull (tgt := 52) dd_X_endFires_6 (by decide) (fun _ => ?_) (fun _ q => by cases q)
    refine ag_vret dd_X_endFires_52 rfl ?_
    exact hX h hC
  | succ m ih =>
    intro k S h hk h2 hI hfb hC hX
    rw [rf_s (by omega)]
    have hff := hfb k (by omega)
    have h0c := hI.1.1
    obtain ⟨-, -, -, -, -, -, f46, -, -, f49, -⟩ := (hI.2.1 k (by omega)).1
    refine ag_aload_n dd_X_endFires_5 rfl ?_
    refine ag_ifnull (tgt := 52) dd_X_endFires_6 (by decide) (fun q => by cases q) (fun _ _ => ?_)
    refine ag_aload_n dd_X_endFires_9 rfl ?_
    refine ag_get dd_X_endFires_10 fg_X_134 (cr_F hC (by omega)) rfl ?_
    refine ag_if_eqB (tgt := 44) dd_X_endFires_13 (by decide) (fun c2 => ?_) (fun c2 => ?_)
    · refine ag_aload_n dd_X_endFires_44 rfl ?_
      refine ag_get dd_X_endFires_45 fg_X_105 (cr_F hC (by omega)) rfl ?_
      refine ag_astore_n (L' := [some (av_r 0), some (av_q (rf_ G 1 (S.1 2).toNat (k + 1)))]) dd_X_endFires_48 rfl rfl (by decide) ?_
      refine ag_goto (tgt := 5) dd_X_endFires_49 (by decide) ?_
      have eS : sp_fr S k = S := if_neg (by omega)
      have hC0 := hC
      clear hC
      have hC : co_I h0 h (sp_fr S k) G := by rw [eS]; exact hC0
      have w2 : (sp_fr S k).1 2 = S.1 2 := by rw [eS]
      have w0 : (sp_fr S k).1 0 = S.1 0 := by rw [eS]
      rw [show (S.1 2).toNat = n by omega]
      exact ih (k + 1) (sp_fr S k) h (by omega) (by omega) (iv_fr hI (by omega)) (fb_fr hfb k) hC (fun h hC => hX h hC)
    · refine ag_aload_n dd_X_endFires_16 rfl ?_
      refine ag_get dd_X_endFires_17 fg_X_125 (cr_F hC (by omega)) rfl ?_
      refine ag_if_ne (tgt := 44) dd_X_endFires_20 (by decide) (by omega) (fun c3 => ?_) (fun c3 => ?_)
      · refine ag_aload_n dd_X_endFires_44 rfl ?_
        refine ag_get dd_X_endFires_45 fg_X_105 (cr_F hC (by omega)) rfl ?_
        refine ag_astore_n (L' := [some (av_r 0), some (av_q (rf_ G 1 (S.1 2).toNat (k + 1)))]) dd_X_endFires_48 rfl rfl (by decide) ?_
        refine ag_goto (tgt := 5) dd_X_endFires_49 (by decide) ?_
        have eS : sp_fr S k = S := if_neg (by omega)
        have hC0 := hC
        clear hC
        have hC : co_I h0 h (sp_fr S k) G := by rw [eS]; exact hC0
        have w2 : (sp_fr S k).1 2 = S.1 2 := by rw [eS]
        have w0 : (sp_fr S k).1 0 = S.1 0 := by rw [eS]
        rw [show (S.1 2).toNat = n by omega]
        exact ih (k + 1) (sp_fr S k) h (by omega) (by omega) (iv_fr hI (by omega)) (fb_fr hfb k) hC (fun h hC => hX h hC)
      · refine ag_aload_n dd_X_endFires_23 rfl ?_
        refine ag_get dd_X_endFires_24 fg_X_80 (cr_0 hC) rfl ?_
        refine ag_iconst dd_X_endFires_27 ?_
        refine ag_iadd dd_X_endFires_28 ?_
        refine ag_aload_n dd_X_endFires_29 rfl ?_
        refine ag_get dd_X_endFires_30 fg_X_325 (cr_F hC (by omega)) rfl ?_
        refine ag_bipush dd_X_endFires_33 (by decide +kernel) ?_
        refine ag_iadd dd_X_endFires_35 ?_
        refine ag_icmp_lt (tgt := 44) dd_X_endFires_36 (by decide) (by omega) (by omega) (fun c4 => ?_) (fun c4 => ?_)
        · refine ag_aload_n dd_X_endFires_44 rfl ?_
          refine ag_get dd_X_endFires_45 fg_X_105 (cr_F hC (by omega)) rfl ?_
          refine ag_astore_n (L' := [some (av_r 0), some (av_q (rf_ G 1 (S.1 2).toNat (k + 1)))]) dd_X_endFires_48 rfl rfl (by decide) ?_
          refine ag_goto (tgt := 5) dd_X_endFires_49 (by decide) ?_
          have eS : sp_fr S k = S := if_neg (by omega)
          have hC0 := hC
          clear hC
          have hC : co_I h0 h (sp_fr S k) G := by rw [eS]; exact hC0
          have w2 : (sp_fr S k).1 2 = S.1 2 := by rw [eS]
          have w0 : (sp_fr S k).1 0 = S.1 0 := by rw [eS]
          rw [show (S.1 2).toNat = n by omega]
          exact ih (k + 1) (sp_fr S k) h (by omega) (by omega) (iv_fr hI (by omega)) (fb_fr hfb k) hC (fun h hC => hX h hC)
        · refine ag_aload_n dd_X_endFires_39 rfl ?_
          refine ag_iconst dd_X_endFires_40 ?_
          refine hp_i dd_X_endFires_41 fp_X_125 (cr_F hC (by omega)) (Nat.le_of_ble_eq_true rfl) (fun h hu => ?_)
          have eS : sp_fr S k = (S.1, ai_up S.2 46 (ai_up (S.2 46) k 3)) := if_pos (by omega)
          have hC0 := hC
          clear hC
          have hC : co_I h0 h (sp_fr S k) G := by
            rw [eS]
            refine co_uF hC0 (by omega) hu ?_ rfl (fun a j q => ?_)
            · have e1 : ai_up S.2 46 (ai_up (S.2 46) k 3) 46 k = 3 := ai_up_s (S.2 46) k 3
              unfold cx_F
              dsimp only
              rw [e1]
              rfl
            · show ai_up S.2 46 _ a j = _
              by_cases e : a = 46
              · rw [e, ai_up_s, ai_up_n _ _ (by omega)]
              · rw [ai_up_n _ _ e]
          clear hu
          have w2 : (sp_fr S k).1 2 = S.1 2 := by rw [eS]
          have w0 : (sp_fr S k).1 0 = S.1 0 := by rw [eS]
          refine ag_aload_n dd_X_endFires_44 rfl ?_
          refine ag_get dd_X_endFires_45 fg_X_105 (cr_F hC (by omega)) rfl ?_
          refine ag_astore_n (L' := [some (av_r 0), some (av_q (rf_ G 1 ((sp_fr S k).1 2).toNat (k + 1)))]) dd_X_endFires_48 rfl rfl (by decide) ?_
          refine ag_goto (tgt := 5) dd_X_endFires_49 (by decide) ?_
          rw [show ((sp_fr S k).1 2).toNat = n by omega]
          exact ih (k + 1) (sp_fr S k) h (by omega) (by omega) (iv_fr hI (by omega)) (fb_fr hfb k) hC (fun h hC => hX h hC)
set_option maxHeartbeats 1000000 in
theorem mc_X_endFires {w : aw_T} {h0 h : ah_T} {S : ms_T} {G : gh_T} {d : Nat} (hd : 0 ≤ d) (hC : co_I h0 h S G) (hI : iv_S S) (hfb : fb_ S) : am_M w mm_X_endFires d [av_r 0] h 0 0 (cq_ h0 G (none, sp_h5 S)) := by
  refine am_intro [some (av_r 0), none] (by decide +kernel) (Nat.le_of_ble_eq_true rfl) rfl ?_
  refine ag_aload_n dd_X_endFires_0 rfl ?_
  refine ag_get dd_X_endFires_1 fg_X_102 (cr_0 hC) rfl ?_
  refine ag_astore_n (L' := [some (av_r 0), some (av_q (rf_ G 1 (S.1 2).toNat 0))]) dd_X_endFires_4 rfl rfl (by decide) ?_
  have h2 := hI.1.2.2.1
  obtain ⟨n, hn⟩ : ∃ n : Nat, S.1 2 = (n : Int) := ⟨(S.1 2).toNat, by omega⟩
  rw [show (S.1 2).toNat = n by omega]
  refine ml_X_endFires n 0 S h (by omega) hn hI hfb hC (fun h hC => ⟨rfl, ?_⟩)
  show co_I h0 h (sp_it sp_fr S (S.1 2).toNat) G
  rw [show (S.1 2).toNat = n by omega, ← it2_0]
  exact hC
