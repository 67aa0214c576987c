set_option maxHeartbeats 1000000 in
theorem ml_M_firstToDie {w : aw_T} {h0 h : ah_T} {S : ms_T} {d : Nat} (hd : 1 ≤ d) (hM : mo_I h0 h S) (hI : iv_S S) {P : ap_T} (hP : P (some (av_i (sp_fd S))) h) : ∀ (r k : Nat), (k : Int) + r = S.1 3 → aw_W w mm_M_firstToDie d P 4 [some (av_r 38), some (av_i ((sp_fdN S k))), some (av_i ((k : Int)))] [] h 0 0 := by
  intro r
  induction r with
  | zero =>
    intro k hk
    have a0 := hI.1.1
    have a3 := hI.1.2.2.2.1
    have hfb := sp_fdN_b S k
    refine ag_iload_n dd_M_firstToDie_4 rfl ?_
    refine ag_aload_n dd_M_firstToDie_5 rfl ?_
    refine ag_get dd_M_firstToDie_6 fg_M_191 (mr_38 hM) rfl ?_
    refine ag_icmp_ge (tgt := 73) dd_M_firstToDie_9 (by decide) (by omega) (by omega) (fun c1 => ?_) (fun c1 => ?_)
    · refine ag_iload_n dd_M_firstToDie_73 rfl ?_
      refine ag_iret dd_M_firstToDie_74 rfl ?_
      obtain rfl : k = (S.1 3).toNat := by omega
      exact hP
    · exfalso; omega
  | succ r ih =>
    intro k hk
    have a0 := hI.1.1
    have a3 := hI.1.2.2.2.1
    have hfb := sp_fdN_b S k
    refine ag_iload_n dd_M_firstToDie_4 rfl ?_
    refine ag_aload_n dd_M_firstToDie_5 rfl ?_
    refine ag_get dd_M_firstToDie_6 fg_M_191 (mr_38 hM) rfl ?_
    refine ag_icmp_ge (tgt := 73) dd_M_firstToDie_9 (by decide) (by omega) (by omega) (fun c1 => ?_) (fun c1 => ?_)
    · exfalso; omega
    · obtain ⟨q1, q2, q3, q4, q5, q6, q7, q8, q9, q10, q11⟩ := hI.2.2.2.1 k (by omega)
      have hlb := sp_left_b hI (l := k) (by omega)
      refine ag_aload_n dd_M_firstToDie_12 rfl ?_
      refine ag_get dd_M_firstToDie_13 fg_M_94 (mr_38 hM) rfl ?_
      refine ag_iload_n dd_M_firstToDie_16 rfl ?_
      refine ag_ialdN dd_M_firstToDie_17 (mr_62 hM) (by decide) (by omega) ?_
      refine ag_if_ge (tgt := 67) dd_M_firstToDie_18 (by decide) (by omega) (fun c2 => ?_) (fun c2 => ?_)
      · refine ag_iincN (Lf := fun y => [some (av_r 38), some (av_i ((sp_fdN S k))), some (av_i (y))]) dd_M_firstToDie_67 rfl (fun _ => rfl) rfl (by decide) (fun y3 ey3 => ?_)
        refine ag_goto (tgt := 4) dd_M_firstToDie_70 (by decide) ?_
        have ek : (sp_fdN S k) = sp_fdN S (k + 1) := by
          rw [sp_fdN]
          first | rw [if_pos (by omega)] | rw [if_neg (by omega)]
        obtain rfl : y3 = ((k + 1 : Nat) : Int) := by omega
        rw [ek]
        exact ih (k + 1) (by omega)
      · refine ag_aload_n dd_M_firstToDie_21 rfl ?_
        refine ag_get dd_M_firstToDie_22 fg_M_85 (mr_38 hM) rfl ?_
        refine ag_iload_n dd_M_firstToDie_25 rfl ?_
        refine ag_ialdN dd_M_firstToDie_26 (mr_59 hM) (by decide) (by omega) ?_
        refine ag_iconst dd_M_firstToDie_27 ?_
        refine ag_aload_n dd_M_firstToDie_28 rfl ?_
        refine ag_get dd_M_firstToDie_29 fg_M_159 (mr_38 hM) rfl ?_
        refine ag_rS dd_M_firstToDie_32 fi_M_155 (mc_M_isIn (d := 0) (by omega) (by omega) (by omega)) rfl rfl (by omega) (Nat.le_of_ble_eq_true rfl) ?_
        refine ag_if_eqB (tgt := 67) dd_M_firstToDie_35 (by decide) (fun c4 => ?_) (fun c4 => ?_)
        · refine ag_iincN (Lf := fun y => [some (av_r 38), some (av_i ((sp_fdN S k))), some (av_i (y))]) dd_M_firstToDie_67 rfl (fun _ => rfl) rfl (by decide) (fun y5 ey5 => ?_)
          refine ag_goto (tgt := 4) dd_M_firstToDie_70 (by decide) ?_
          have ek : (sp_fdN S k) = sp_fdN S (k + 1) := by
            rw [sp_fdN]
            first | rw [if_pos (by omega)] | rw [if_neg (by omega)]
          obtain rfl : y5 = ((k + 1 : Nat) : Int) := by omega
          rw [ek]
          exact ih (k + 1) (by omega)
        · refine ag_aload_n dd_M_firstToDie_38 rfl ?_
          refine ag_iload_n dd_M_firstToDie_39 rfl ?_
          refine ag_rV dd_M_firstToDie_40 fi_M_199 (mr_38 hM) rfl (mc_M_left (d := 0) (by omega) hM hI (by omega)) rfl rfl (by omega) (Nat.le_of_ble_eq_true rfl) ?_
          refine ag_if_le (tgt := 67) dd_M_firstToDie_43 (by decide) (by omega) (fun c6 => ?_) (fun c6 => ?_)
          · refine ag_iincN (Lf := fun y => [some (av_r 38), some (av_i ((sp_fdN S k))), some (av_i (y))]) dd_M_firstToDie_67 rfl (fun _ => rfl) rfl (by decide) (fun y7 ey7 => ?_)
            refine ag_goto (tgt := 4) dd_M_firstToDie_70 (by decide) ?_
            have ek : (sp_fdN S k) = sp_fdN S (k + 1) := by
              rw [sp_fdN]
              first | rw [if_pos (by omega)] | rw [if_neg (by omega)]
            obtain rfl : y7 = ((k + 1 : Nat) : Int) := by omega
            rw [ek]
            exact ih (k + 1) (by omega)
          · refine ag_iload_n dd_M_firstToDie_46 rfl ?_
            refine ag_if_lt (tgt := 65) dd_M_firstToDie_47 (by decide) (by omega) (fun c8 => ?_) (fun c8 => ?_)
            · refine ag_iload_n dd_M_firstToDie_65 rfl ?_
              refine ag_istore_n (L' := [some (av_r 38), some (av_i ((k : Int))), some (av_i ((k : Int)))]) dd_M_firstToDie_66 rfl rfl (by decide) ?_
              refine ag_iincN (Lf := fun y => [some (av_r 38), some (av_i ((k : Int))), some (av_i (y))]) dd_M_firstToDie_67 rfl (fun _ => rfl) rfl (by decide) (fun y9 ey9 => ?_)
              refine ag_goto (tgt := 4) dd_M_firstToDie_70 (by decide) ?_
              have ek : (k : Int) = sp_fdN S (k + 1) := by
                rw [sp_fdN]
                first | rw [if_pos (by omega)] | rw [if_neg (by omega)]
              obtain rfl : y9 = ((k + 1 : Nat) : Int) := by omega
              rw [ek]
              exact ih (k + 1) (by omega)
            · have hdb := (hI.2.2.2.1 (sp_fdN S k).toNat (by omega)).2.2.2.2.2.1
              refine ag_aload_n dd_M_firstToDie_50 rfl ?_
              refine ag_get dd_M_firstToDie_51 fg_M_82 (mr_38 hM) rfl ?_
              refine ag_iload_n dd_M_firstToDie_54 rfl ?_
              refine ag_ialdN dd_M_firstToDie_55 (mr_58 hM) (by decide) (by omega) ?_
              refine ag_aload_n dd_M_firstToDie_56 rfl ?_
              refine ag_get dd_M_firstToDie_57 fg_M_82 (mr_38 hM) rfl ?_
              refine ag_iload_n dd_M_firstToDie_60 rfl ?_
              refine ag_iald dd_M_firstToDie_61 (mr_58 hM) (by decide) (by omega) ?_
              refine ag_icmp_ge (tgt := 67) dd_M_firstToDie_62 (by decide) (by omega) (by omega) (fun c10 => ?_) (fun c10 => ?_)
              · refine ag_iincN (Lf := fun y => [some (av_r 38), some (av_i ((sp_fdN S k))), some (av_i (y))]) dd_M_firstToDie_67 rfl (fun _ => rfl) rfl (by decide) (fun y11 ey11 => ?_)
                refine ag_goto (tgt := 4) dd_M_firstToDie_70 (by decide) ?_
                have ek : (sp_fdN S k) = sp_fdN S (k + 1) := by
                  rw [sp_fdN]
                  first | rw [if_pos (by omega)] | rw [if_neg (by omega)]
                obtain rfl : y11 = ((k + 1 : Nat) : Int) := by omega
                rw [ek]
                exact ih (k + 1) (by omega)
              · refine ag_iload_n dd_M_firstToDie_65 rfl ?_
                refine ag_istore_n (L' := [some (av_r 38), some (av_i ((k : Int))), some (av_i ((k : Int)))]) dd_M_firstToDie_66 rfl rfl (by decide) ?_
                refine ag_iincN (Lf := fun y => [some (av_r 38), some (av_i ((k : Int))), some (av_i (y))]) dd_M_firstToDie_67 rfl (fun _ => rfl) rfl (by decide) (fun y12 ey12 => ?_)
                refine ag_goto (tgt := 4) dd_M_firstToDie_70 (by decide) ?_
                have ek : (k : Int) = sp_fdN S (k + 1) := by
                  rw [sp_fdN]
                  first | rw [if_pos (by omega)] | rw [if_neg (by omega)]
                obtain rfl : y12 = ((k + 1 : Nat) : Int) := by omega
                rw [ek]
                exact ih (k + 1) (by omega)
set_option maxHeartbeats 1000000 in
theorem mc_M_firstToDie {w : aw_T} {h0 h : ah_T} {S : ms_T} {d : Nat} (hd : 1 ≤ d) (hM : mo_I h0 h S) (hI : iv_S S) : am_M w mm_M_firstToDie d [av_r 38] h 0 0 (fun r h' => r = some (av_i (sp_fd S)) ∧ h' = h) := by
  refine am_intro [some (av_r 38), none, none] (by decide +kernel) (Nat.le_of_ble_eq_true rfl) rfl ?_
  refine ag_iconst dd_M_firstToDie_0 ?_
  refine ag_istore_n (L' := [some (av_r 38), some (av_i (-1)), none]) dd_M_firstToDie_1 rfl rfl (by decide) ?_
  refine ag_iconst dd_M_firstToDie_2 ?_
  refine ag_istore_n (L' := [some (av_r 38), some (av_i (-1)), some (av_i (0))]) dd_M_firstToDie_3 rfl rfl (by decide) ?_
  exact ml_M_firstToDie hd hM hI ⟨rfl, rfl⟩ (S.1 3).toNat 0 (by have := hI.1.2.2.2.1; omega)
theorem ai_8s {v : Int} (h : 0 ≤ v ∧ v ≤ 127) : ai_8 v = v := by
  obtain ⟨n, rfl⟩ : ∃ n : Nat, v = (n : Int) := ⟨v.toNat, by omega⟩
  have key : ∀ n : Nat, n < 128 → ai_8 (n : Int) = (n : Int) := by decide +kernel
  exact key n (by omega)
def sp_bj (S : ms_T) (l j : Nat) : ms_T := (S.1, ai_up S.2 65 (sp_bd (S.2 65) (S.1 36).toNat (S.2 55 l) j))
theorem sp_bj_s {S : ms_T} {l j : Nat} (h36 : 0 ≤ S.1 36) (hv : 0 ≤ S.2 55 l ∧ S.2 55 l ≤ 127) : ((S.1, ai_up (sp_bj S l j).2 65 (ai_up ((sp_bj S l j).2 65) (S.1 36 + (j : Int)).toNat (ai_8 (ai_8 (S.2 55 l))))) : ms_T) = sp_bj S l (j + 1) := by
  have e1 : (S.1 36 + (j : Int)).toNat = (S.1 36).toNat + j := by omega
  rw [ai_8s hv, ai_8s hv, e1]
  unfold sp_bj
  rw [ai_uu, sp_bd]
  rfl
set_option maxHeartbeats 1000000 in
theorem ml_M_mill1 {w : aw_T} {h0 : ah_T} {S : ms_T} {d : Nat} {l : Nat} (hl : l < 16) (h36 : 0 ≤ S.1 36) {n room : Int} (hn : 0 ≤ n ∧ S.1 36 + n ≤ 3200) (hv : 0 ≤ S.2 55 l ∧ S.2 55 l ≤ 127) {P : ap_T} (hX : ∀ h, mo_I h0 h (sp_bj S l n.toNat) → aw_W w mm_M_mill d P 71 [some (av_r 38), some (av_i (room)), some (av_i ((l : Int))), some (av_i (n)), none] [] h 0 0) : ∀ (r j : Nat) (h : ah_T), (j : Int) + r = n → mo_I h0 h (sp_bj S l j) → aw_W w mm_M_mill d P 40 [some (av_r 38), some (av_i (room)), some (av_i ((l : Int))), some (av_i (n)), some (av_i ((j : Int)))] [] h 0 0 := by
  intro r
  induction r with
  | zero =>
    intro j h hj hM
    have e36 : (sp_bj S l j).1 36 = S.1 36 := rfl
    have e55 : (sp_bj S l j).2 55 l = S.2 55 l := rfl
    refine ag_iload dd_M_mill_40 rfl ?_
    refine ag_iload_n dd_M_mill_42 rfl ?_
    refine ag_icmp_ge (tgt := 71) dd_M_mill_43 (by decide) (by omega) (by omega) (fun c1 => ?_) (fun c1 => ?_)
    · obtain rfl : n.toNat = j := by omega
      refine ag_weak [some (av_r 38), some (av_i room), some (av_i (l : Int)), some (av_i n), none] (by simp [al_le]) (hX h hM)
    · exfalso; omega
  | succ r ih =>
    intro j h hj hM
    have e36 : (sp_bj S l j).1 36 = S.1 36 := rfl
    have e55 : (sp_bj S l j).2 55 l = S.2 55 l := rfl
    refine ag_iload dd_M_mill_40 rfl ?_
    refine ag_iload_n dd_M_mill_42 rfl ?_
    refine ag_icmp_ge (tgt := 71) dd_M_mill_43 (by decide) (by omega) (by omega) (fun c1 => ?_) (fun c1 => ?_)
    · exfalso; omega
    · refine ag_aload_n dd_M_mill_46 rfl ?_
      refine ag_get dd_M_mill_47 fg_M_103 (mr_38 hM) rfl ?_
      refine ag_aload_n dd_M_mill_50 rfl ?_
      refine ag_get dd_M_mill_51 fg_M_205 (mr_38 hM) rfl ?_
      refine ag_iload dd_M_mill_54 rfl ?_
      refine ag_iadd dd_M_mill_56 ?_
      refine ag_aload_n dd_M_mill_57 rfl ?_
      refine ag_get dd_M_mill_58 fg_M_73 (mr_38 hM) rfl ?_
      refine ag_iload_n dd_M_mill_61 rfl ?_
      refine ag_ialdN dd_M_mill_62 (mr_55 hM) (by decide) (by omega) ?_
      refine ag_i2b dd_M_mill_63 ?_
      refine ms_65 dd_M_mill_64 hM (by omega) (fun h S2 eS2 hM => ?_)
      refine ag_iincN (Lf := fun y => [some (av_r 38), some (av_i (room)), some (av_i ((l : Int))), some (av_i (n)), some (av_i (y))]) dd_M_mill_65 rfl (fun _ => rfl) rfl (by decide) (fun y3 ey3 => ?_)
      refine ag_goto (tgt := 40) dd_M_mill_68 (by decide) ?_
      obtain rfl : y3 = ((j + 1 : Nat) : Int) := by omega
      have eS : S2 = sp_bj S l (j + 1) := by
        rw [← sp_bj_s (by omega) (by omega), eS2]
        rfl
      rw [eS] at hM
      exact ih (j + 1) h (by omega) hM
/-- how many loads have tons left -/
def sp_cnt (S : ms_T) : Nat := fb_ct (fun l => decide (0 < sp_left S l)) (S.1 3).toNat
theorem sp_ml1_left {S : ms_T} {l : Nat} {n : Int} (j : Nat) : sp_left (sp_ml1 S l n) j = if j = l then sp_left S l - n else sp_left S j := by
  by_cases e : j = l
  · subst e
    rw [if_pos rfl]
    show S.2 41 (S.2 55 j).toNat - ai_up (S.2 60) j (S.2 60 j + n) j - S.2 61 j = _
    rw [ai_up_s]
    unfold sp_left
    omega
  · rw [if_neg e]
    show S.2 41 (S.2 55 j).toNat - ai_up (S.2 60) l (S.2 60 l + n) j - S.2 61 j = _
    rw [ai_up_n _ _ e]
    rfl
theorem sp_cnt_less {S : ms_T} {l : Nat} (hl : (l : Int) < S.1 3) (h0 : 0 < sp_left S l) : sp_cnt (sp_ml1 S l (sp_left S l)) + 1 = sp_cnt S := by
  unfold sp_cnt
  have e : fb_ct (fun j => decide (0 < sp_left (sp_ml1 S l (sp_left S l)) j)) (S.1 3).toNat = fb_ct (fun k => if k = l then false else decide (0 < sp_left S k)) (S.1 3).toNat := by
    refine fb_ct_cong (fun k _ => ?_)
    show decide (0 < sp_left (sp_ml1 S l (sp_left S l)) k) = _
    rw [sp_ml1_left]
    by_cases q : k = l
    · subst q; simp
    · simp [q]
  have h3 : ((sp_ml1 S l (sp_left S l)).1 3).toNat = (S.1 3).toNat := rfl
  rw [h3, e]
  have u := fb_ct_upd (fun k => decide (0 < sp_left S k)) false (i := l) (n := (S.1 3).toNat) (by omega)
  simp [h0] at u
  simp only [Bool.if_false_left] at *
  omega
theorem sp_cnt_le (S : ms_T) : sp_cnt S ≤ (S.1 3).toNat := fb_ct_le _ _
theorem sp_cnt_pos {S : ms_T} {l : Nat} (hl : (l : Int) < S.1 3) (h0 : 0 < sp_left S l) : 0 < sp_cnt S := fb_ct_pos.mpr ⟨l, by omega, by simp [h0]⟩
theorem ai_upsame {α : Type} (f : Nat → α) (k : Nat) : ai_up f k (f k) = f := by
  funext j
  by_cases e : j = k <;> simp [ai_up, e]
set_option maxHeartbeats 1000000 in
theorem ml_M_mill {w : aw_T} {h0 : ah_T} {d : Nat} (hd : 2 ≤ d) {P : ap_T} : ∀ (r : Nat) (S : ms_T) (room : Int) (h : ah_T), -1000 ≤ room ∧ room ≤ 100 → iv_S S → mo_I h0 h S → (room ≤ 0 ∨ sp_cnt S ≤ r) → (∀ h, mo_I h0 h (sp_mlN r S room) → P none h) → aw_W w mm_M_mill d P 10 [some (av_r 38), some (av_i (room)), some (av_i ((sp_fd S))), none, none] [] h 0 0 := by
  intro r
  induction r using Nat.strongRecOn with
  | _ r ih =>
    intro S room h hrm hI hM hμ hP
    have a3 := hI.1.2.2.2.1
    have a2 := hI.1.2.2.1
    have hfb : -1 ≤ sp_fd S ∧ sp_fd S < (S.1 3).toNat := sp_fdN_b S (S.1 3).toNat
    refine ag_iload_n dd_M_mill_10 rfl ?_
    refine ag_if_lt (tgt := 103) dd_M_mill_11 (by decide) (by omega) (fun c1 => ?_) (fun c1 => ?_)
    · refine ag_vret dd_M_mill_103 rfl ?_
      refine hP h ?_
      have eN : sp_mlN r S room = S := by
        cases r with
        | zero => rfl
        | succ r => rw [sp_mlN, if_pos (by omega)]
      rw [eN]
      exact hM
    · obtain ⟨l, el⟩ : ∃ l : Nat, sp_fd S = (l : Int) := ⟨(sp_fd S).toNat, by omega⟩
      have hw := sp_fdN_w S (S.1 3).toNat (by show 0 ≤ sp_fd S; omega)
      rw [show (sp_fdN S (S.1 3).toNat).toNat = l by show (sp_fd S).toNat = l; omega] at hw
      have hl3 : (l : Int) < S.1 3 := by omega
      have hlb := sp_left_b hI hl3
      have hcp := sp_cnt_pos hl3 hw.2.2
      rw [el]
      refine ag_iload_n dd_M_mill_14 rfl ?_
      refine ag_if_le (tgt := 103) dd_M_mill_15 (by decide) (by omega) (fun c2 => ?_) (fun c2 => ?_)
      · refine ag_vret dd_M_mill_103 rfl ?_
        refine hP h ?_
        have eN : sp_mlN r S room = S := by
          cases r with
          | zero => rfl
          | succ r => rw [sp_mlN, if_pos (by omega)]
        rw [eN]
        exact hM
      · refine ag_aload_n dd_M_mill_18 rfl ?_
        refine ag_iload_n dd_M_mill_19 rfl ?_
        refine ag_rV dd_M_mill_20 fi_M_199 (mr_38 hM) rfl (mc_M_left (d := 0) (by omega) hM hI hl3) rfl rfl (by omega) (Nat.le_of_ble_eq_true rfl) ?_
        refine ag_iload_n dd_M_mill_23 rfl ?_
        refine ag_icmp_ge (tgt := 35) dd_M_mill_24 (by decide) (by omega) (by omega) (fun c3 => ?_) (fun c3 => ?_)
        · refine ag_iload_n dd_M_mill_35 rfl ?_
          refine ag_istore_n (L' := [some (av_r 38), some (av_i (room)), some (av_i ((l : Int))), some (av_i (room)), none]) dd_M_mill_36 rfl rfl (by decide) ?_
          refine ag_iconst dd_M_mill_37 ?_
          refine ag_istore (L' := [some (av_r 38), some (av_i (room)), some (av_i ((l : Int))), some (av_i (room)), some (av_i (0))]) dd_M_mill_38 rfl rfl (by decide) ?_
          have hsm := iv_sum hI
          have hmv : 0 < room ∧ room ≤ sp_left S l ∧ room ≤ room := by omega
          have hsm2 : S.1 36 + room ≤ 200 * S.1 3 := (iv_sum (iv_ml1 hI hl3 hw.1 (n := room) (by omega))).2.1
          refine ml_M_mill1 (S := S) (by omega) (by omega) (by omega) (by omega) (fun h hM => ?_) (room).toNat 0 h (by omega) (by unfold sp_bj; rw [sp_bd, ai_upsame]; exact hM)
          have e36 : (sp_bj S l (room).toNat).1 36 = S.1 36 := rfl
          refine ag_aload_n dd_M_mill_71 rfl ?_
          refine ag_dup dd_M_mill_72 rfl ?_
          refine ag_get dd_M_mill_73 fg_M_205 (mr_38 hM) rfl ?_
          refine ag_iload_n dd_M_mill_76 rfl ?_
          refine ag_iadd dd_M_mill_77 ?_
          refine mp_36 dd_M_mill_78 fp_M_205 hM (fun h S4 eS4 hM => ?_)
          refine ag_aload_n dd_M_mill_81 rfl ?_
          refine ag_get dd_M_mill_82 fg_M_88 (mr_38 hM) rfl ?_
          refine ag_iload_n dd_M_mill_85 rfl ?_
          refine ag_dup2 dd_M_mill_86 rfl rfl ?_
          refine ag_ialdN dd_M_mill_87 (mr_60 hM) (by decide) (by omega) ?_
          refine ag_iload_n dd_M_mill_88 rfl ?_
          refine ag_iadd dd_M_mill_89 ?_
          refine ms_60N dd_M_mill_90 hM (by omega) (fun h S5 eS5 hM => ?_)
          refine ag_iload_n dd_M_mill_91 rfl ?_
          refine ag_iload_n dd_M_mill_92 rfl ?_
          refine ag_isub dd_M_mill_93 ?_
          refine ag_istore_nN (Lf := fun y => [some (av_r 38), some (av_i (y)), some (av_i ((l : Int))), some (av_i (room)), none]) dd_M_mill_94 (fun _ => rfl) rfl (by decide) (fun y6 ey6 => ?_)
          refine ag_aload_n dd_M_mill_95 rfl ?_
          obtain rfl : S5 = sp_ml1 S l room := by
            subst_vars
            rfl
          have hI2 : iv_S (sp_ml1 S l room) := iv_ml1 hI hl3 hw.1 (by omega)
          refine ag_rV dd_M_mill_96 fi_M_202 (mr_38 hM) rfl (mc_M_firstToDie (d := 1) (by omega) hM hI2) rfl rfl (by omega) (Nat.le_of_ble_eq_true rfl) ?_
          refine ag_istore_nN (Lf := fun y => [some (av_r 38), some (av_i (y6)), some (av_i (y)), some (av_i (room)), none]) dd_M_mill_99 (fun _ => rfl) rfl (by decide) (fun y7 ey7 => ?_)
          refine ag_goto (tgt := 10) dd_M_mill_100 (by decide) ?_
          have hmn : sp_mn S room = room := by
            unfold sp_mn
            rw [el, Int.toNat_natCast]
            first | (rw [if_pos (by omega)]; omega) | (rw [if_neg (by omega)]; omega) | rw [if_pos (by omega)] | rw [if_neg (by omega)]
          obtain ⟨r, rfl⟩ : ∃ r', r = r' + 1 := ⟨r - 1, by omega⟩
          have eN : sp_mlN (r + 1) S room = sp_mlN r (sp_ml1 S l room) (room - room) := by
            rw [sp_mlN, if_neg (by omega), hmn, el, Int.toNat_natCast]
          have hcl := sp_cnt_less hl3 hw.2.2
          subst ey6
          subst ey7
          refine ag_weak [some (av_r 38), some (av_i (room - room)), some (av_i ((sp_fd (sp_ml1 S l room)))), none, none] (by simp [al_le]) (ih r (by omega) (sp_ml1 S l room) (room - room) h (by omega) hI2 hM ?_ ?_)
          · by_cases q : room ≤ sp_left S l
            · left; omega
            · right
              have e1 : room = sp_left S l := by omega
              first | (rw [e1]; omega) | omega
          · rw [← eN]; exact hP
        · refine ag_aload_n dd_M_mill_27 rfl ?_
          refine ag_iload_n dd_M_mill_28 rfl ?_
          refine ag_rV dd_M_mill_29 fi_M_199 (mr_38 hM) rfl (mc_M_left (d := 0) (by omega) hM hI hl3) rfl rfl (by omega) (Nat.le_of_ble_eq_true rfl) ?_
          refine ag_goto (tgt := 36) dd_M_mill_32 (by decide) ?_
          refine ag_istore_nN (Lf := fun y => [some (av_r 38), some (av_i (room)), some (av_i ((l : Int))), some (av_i (y)), none]) dd_M_mill_36 (fun _ => rfl) rfl (by decide) (fun y8 ey8 => ?_)
          refine ag_iconst dd_M_mill_37 ?_
          refine ag_istore (L' := [some (av_r 38), some (av_i (room)), some (av_i ((l : Int))), some (av_i (y8)), some (av_i (0))]) dd_M_mill_38 rfl rfl (by decide) ?_
          have hsm := iv_sum hI
          have hmv : 0 < y8 ∧ y8 ≤ sp_left S l ∧ y8 ≤ room := by omega
          have hsm2 : S.1 36 + y8 ≤ 200 * S.1 3 := (iv_sum (iv_ml1 hI hl3 hw.1 (n := y8) (by omega))).2.1
          refine ml_M_mill1 (S := S) (by omega) (by omega) (by omega) (by omega) (fun h hM => ?_) (y8).toNat 0 h (by omega) (by unfold sp_bj; rw [sp_bd, ai_upsame]; exact hM)
          have e36 : (sp_bj S l (y8).toNat).1 36 = S.1 36 := rfl
          refine ag_aload_n dd_M_mill_71 rfl ?_
          refine ag_dup dd_M_mill_72 rfl ?_
          refine ag_get dd_M_mill_73 fg_M_205 (mr_38 hM) rfl ?_
          refine ag_iload_n dd_M_mill_76 rfl ?_
          refine ag_iadd dd_M_mill_77 ?_
          refine mp_36 dd_M_mill_78 fp_M_205 hM (fun h S9 eS9 hM => ?_)
          refine ag_aload_n dd_M_mill_81 rfl ?_
          refine ag_get dd_M_mill_82 fg_M_88 (mr_38 hM) rfl ?_
          refine ag_iload_n dd_M_mill_85 rfl ?_
          refine ag_dup2 dd_M_mill_86 rfl rfl ?_
          refine ag_ialdN dd_M_mill_87 (mr_60 hM) (by decide) (by omega) ?_
          refine ag_iload_n dd_M_mill_88 rfl ?_
          refine ag_iadd dd_M_mill_89 ?_
          refine ms_60N dd_M_mill_90 hM (by omega) (fun h S10 eS10 hM => ?_)
          refine ag_iload_n dd_M_mill_91 rfl ?_
          refine ag_iload_n dd_M_mill_92 rfl ?_
          refine ag_isub dd_M_mill_93 ?_
          refine ag_istore_nN (Lf := fun y => [some (av_r 38), some (av_i (y)), some (av_i ((l : Int))), some (av_i (y8)), none]) dd_M_mill_94 (fun _ => rfl) rfl (by decide) (fun y11 ey11 => ?_)
          refine ag_aload_n dd_M_mill_95 rfl ?_
          obtain rfl : S10 = sp_ml1 S l y8 := by
            subst_vars
            rfl
          have hI2 : iv_S (sp_ml1 S l y8) := iv_ml1 hI hl3 hw.1 (by omega)
          refine ag_rV dd_M_mill_96 fi_M_202 (mr_38 hM) rfl (mc_M_firstToDie (d := 1) (by omega) hM hI2) rfl rfl (by omega) (Nat.le_of_ble_eq_true rfl) ?_
          refine ag_istore_nN (Lf := fun y => [some (av_r 38), some (av_i (y11)), some (av_i (y)), some (av_i (y8)), none]) dd_M_mill_99 (fun _ => rfl) rfl (by decide) (fun y12 ey12 => ?_)
          refine ag_goto (tgt := 10) dd_M_mill_100 (by decide) ?_
          have hmn : sp_mn S room = y8 := by
            unfold sp_mn
            rw [el, Int.toNat_natCast]
            first | (rw [if_pos (by omega)]; omega) | (rw [if_neg (by omega)]; omega) | rw [if_pos (by omega)] | rw [if_neg (by omega)]
          obtain ⟨r, rfl⟩ : ∃ r', r = r' + 1 := ⟨r - 1, by omega⟩
          have eN : sp_mlN (r + 1) S room = sp_mlN r (sp_ml1 S l y8) (room - y8) := by
            rw [sp_mlN, if_neg (by omega), hmn, el, Int.toNat_natCast]
          have hcl := sp_cnt_less hl3 hw.2.2
          subst ey11
          subst ey12
          refine ag_weak [some (av_r 38), some (av_i (room - y8)), some (av_i ((sp_fd (sp_ml1 S l y8)))), none, none] (by simp [al_le]) (ih r (by omega) (sp_ml1 S l y8) (room - y8) h (by omega) hI2 hM ?_ ?_)
          · by_cases q : room ≤ sp_left S l
            · left; omega
            · right
              have e1 : y8 = sp_left S l := by omega
              first | (rw [e1]; omega) | omega
          · rw [← eN]; exact hP
set_option maxHeartbeats 1000000 in
theorem mc_M_mill {w : aw_T} {h0 h : ah_T} {S : ms_T} {d : Nat} (hd : 2 ≤ d) (hM : mo_I h0 h S) (hI : iv_S S) : am_M w mm_M_mill d [av_r 38] h 0 0 (mo_P h0 (none, sp_mill S)) := by
  refine am_intro [some (av_r 38), none, none, none, none] (by decide +kernel) (Nat.le_of_ble_eq_true rfl) rfl ?_
  have a3 := hI.1.2.2.2.1
  have a7 := hI.1.2.2.2.2.2.2.2.1
  refine ag_aload_n dd_M_mill_0 rfl ?_
  refine ag_get dd_M_mill_1 fg_M_19 (mr_38 hM) rfl ?_
  refine ag_istore_nN (Lf := fun y => [some (av_r 38), some (av_i (y)), none, none, none]) dd_M_mill_4 (fun _ => rfl) rfl (by decide) (fun y1 ey1 => ?_)
  refine ag_aload_n dd_M_mill_5 rfl ?_
  refine ag_rV dd_M_mill_6 fi_M_202 (mr_38 hM) rfl (mc_M_firstToDie (d := 1) (by omega) hM hI) rfl rfl (by omega) (Nat.le_of_ble_eq_true rfl) ?_
  refine ag_istore_nN (Lf := fun y => [some (av_r 38), some (av_i (y1)), some (av_i (y)), none, none]) dd_M_mill_9 (fun _ => rfl) rfl (by decide) (fun y2 ey2 => ?_)
  subst_vars
  refine ag_weak [some (av_r 38), some (av_i ((S.1 7))), some (av_i ((sp_fd S))), none, none] (by simp [al_le]) (ml_M_mill hd 16 S (S.1 7) h (by omega) hI hM (Or.inr (by have := sp_cnt_le S; omega)) (fun h hM => ⟨rfl, hM⟩))
