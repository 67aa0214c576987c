theorem sp_ex_ok {E : Int → Int} (hE : ∀ x, 0 ≤ x ∧ x ≤ 4 → iv_b (E x)) : ∀ (c : List (Int × Int)) (n : Nat) (st : List Int), iv_hv c n → st.length = n → (∀ v ∈ st, iv_b v) → ∃ v, sp_ex E c st = [v] ∧ iv_b v := by
  intro c
  induction c with
  | nil =>
    intro n st h hl hb
    rw [iv_hv] at h
    rw [sp_ex]
    match st, hl, hb with
    | [v], _, hb => exact ⟨v, rfl, hb v (by simp)⟩
    | [], hl, _ => simp at hl; omega
    | _ :: _ :: _, hl, _ => simp at hl; omega
  | cons q c ih =>
    intro n st h hl hb
    obtain ⟨q1, q2⟩ := q
    have hq := iv_hv_op h
    rw [iv_hv] at h
    dsimp only at h
    rw [sp_ex]
    by_cases e0 : q1 = 0
    · subst e0
      rw [if_pos rfl] at h
      rw [sp_ex1_0]
      exact ih (n + 1) _ h.2 (by rw [List.length_cons, hl]) (fun v hv => by
        rcases List.mem_cons.mp hv with rfl | hv
        · unfold iv_b; omega
        · exact hb v hv)
    · rw [if_neg e0] at h
      by_cases e1 : q1 = 1
      · subst e1
        rw [if_pos rfl] at h
        rw [sp_ex1_1]
        exact ih (n + 1) _ h.2 (by rw [List.length_cons, hl]) (fun v hv => by
          rcases List.mem_cons.mp hv with rfl | hv
          · exact hE _ h.1
          · exact hb v hv)
      · rw [if_neg e1] at h
        by_cases e2 : q1 = 2
        · subst e2
          rw [if_pos rfl] at h
          match st, hl, hb with
          | [], hl, _ => simp at hl; omega
          | a :: r, hl, hb =>
            rw [sp_ex1_2]
            exact ih n _ h.2 (by simpa using hl) (fun v hv => by
              rcases List.mem_cons.mp hv with rfl | hv
              · have := hb a (by simp)
                unfold iv_b at this ⊢
                omega
              · exact hb v (by simp [hv]))
        · rw [if_neg e2] at h
          match st, hl, hb with
          | [], hl, _ => simp at hl; omega
          | [_], hl, _ => simp at hl; omega
          | b :: a :: r, hl, hb =>
            rw [sp_ex1_b E h.1.1]
            exact ih (n - 1) _ h.2.2 (by simp at hl ⊢; omega) (fun v hv => by
              rcases List.mem_cons.mp hv with rfl | hv
              · exact sp_act_b (hb a (by simp)) (hb b (by simp)) _
              · exact hb v (by simp [hv]))
/-- the text in use is sound -/
def iv_T (S : ms_T) : Prop := (0 ≤ S.1 44 ∧ S.1 44 ≤ 100) ∧ iv_hv (sp_code S) 0
theorem sp_work_b {S : ms_T} (hT : iv_T S) {t s m b h : Int} (h1 : iv_b t) (h2 : iv_b s) (h3 : iv_b m) (h4 : iv_b b) (h5 : iv_b h) : iv_b (sp_work S t s m b h) := by
  obtain ⟨v, e, hv⟩ := sp_ex_ok (E := sp_let t s m b h) (fun x _ => by
    unfold sp_let
    repeat (first | assumption | split)) (sp_code S) 0 [] hT.2 rfl (fun v hv => by cases hv)
  unfold sp_work
  rw [e]
  exact hv
def sp_sumN (S : ms_T) : Nat → Int
  | 0 => 0
  | n + 1 => sp_sumN S n + (if 0 ≤ S.2 62 n ∧ (S.2 62 n).tdiv 24 = (S.1 0).tdiv 24 then S.2 60 n * S.2 57 n else 0)
def sp_allN (S : ms_T) : Nat → Int
  | 0 => 0
  | n + 1 => sp_allN S n + (if 0 ≤ S.2 62 n ∧ (S.2 62 n).tdiv 24 = (S.1 0).tdiv 24 then S.2 60 n else 0)
def sp_mean (S : ms_T) : Int := if sp_allN S (S.1 3).toNat = 0 then 0 else (sp_sumN S (S.1 3).toNat).tdiv (sp_allN S (S.1 3).toNat)
theorem sp_sum_b {S : ms_T} (h : iv_S S) : ∀ n : Nat, (n : Int) ≤ S.1 3 → (0 ≤ sp_allN S n ∧ sp_allN S n ≤ 200 * n) ∧ (0 ≤ sp_sumN S n ∧ sp_sumN S n ≤ 30 * sp_allN S n)
  | 0, _ => by rw [sp_allN, sp_sumN]; omega
  | n + 1, hn => by
    have ih := sp_sum_b h n (by omega)
    have b1 := sp_left_b h (l := n) (by omega)
    have b2 := (h.2.2.2.1 n (by omega)).2.2.2.2.1
    have h1 : 0 ≤ S.2 60 n * S.2 57 n := Int.mul_nonneg (by omega) (by omega)
    have h2 : S.2 60 n * S.2 57 n ≤ S.2 60 n * 30 := Int.mul_le_mul_of_nonneg_left (by omega) (by omega)
    rw [sp_allN, sp_sumN]
    split <;> omega
theorem sp_mean_b {S : ms_T} (h : iv_S S) : 0 ≤ sp_mean S ∧ sp_mean S ≤ 96000 := by
  have h3 := h.1.2.2.2.1
  have hb := sp_sum_b h (S.1 3).toNat (by omega)
  unfold sp_mean
  split
  · omega
  · have := sp_td (a := sp_sumN S (S.1 3).toNat) (b := sp_allN S (S.1 3).toNat) (by omega) (by omega)
    omega
def sp_pay (S : ms_T) (l : Nat) : Int := sp_work S (S.2 60 l) (S.2 57 l) (S.1 38) (if 0 ≤ S.2 49 (S.2 55 l).toNat then 1 else 0) (S.2 62 l + 1 - S.2 56 l)
def sp_pp (S : ms_T) (l : Nat) : ms_T := if 0 ≤ S.2 62 l ∧ (S.2 62 l).tdiv 24 = (S.1 0).tdiv 24 then (S.1, ai_up (ai_up S.2 63 (ai_up (S.2 63) l (sp_pay S l))) 39 (ai_up (S.2 39) (S.2 40 (S.2 55 l).toNat).toNat (S.2 39 (S.2 40 (S.2 55 l).toNat).toNat + sp_pay S l))) else S
def sp_it (f : ms_T → Nat → ms_T) (S : ms_T) : Nat → ms_T
  | 0 => S
  | n + 1 => f (sp_it f S n) n
def sp_pd (S : ms_T) : ms_T := sp_it sp_pp (ai_up S.1 38 (sp_mean S), S.2) (S.1 3).toNat
theorem iv_m38 {S : ms_T} (h : iv_S S) (v : Int) : iv_S ((ai_up S.1 38 v, S.2) : ms_T) := h
theorem iv_T38 {S : ms_T} (h : iv_T S) (v : Int) : iv_T ((ai_up S.1 38 v, S.2) : ms_T) := h
theorem sp_pp_f (S : ms_T) (l : Nat) : (sp_pp S l).1 = S.1 := by unfold sp_pp; split <;> rfl
theorem sp_pp_a (S : ms_T) (l : Nat) {a : Nat} (h1 : a ≠ 63) (h2 : a ≠ 39) : (sp_pp S l).2 a = S.2 a := by
  unfold sp_pp
  split
  · show ai_up (ai_up S.2 63 _) 39 _ a = _
    rw [ai_up_n _ _ h2, ai_up_n _ _ h1]
  · rfl
theorem iv_pp {S : ms_T} (h : iv_S S) (hT : iv_T S) (h38 : iv_b (S.1 38)) {l : Nat} (hl : (l : Int) < S.1 3) : iv_S (sp_pp S l) := by
  obtain ⟨q1, q2, q3, q4, q5, q6, q7, q8, q9, q10, q11⟩ := h.2.2.2.1 l hl
  have hlb := sp_left_b h hl
  have hpb : iv_b (sp_pay S l) := sp_work_b hT (by unfold iv_b; omega) (by unfold iv_b; omega) h38 (by unfold iv_b; split <;> omega) (by unfold iv_b; omega)
  unfold sp_pp
  split
  · obtain ⟨ha, hF, hN, hL, hN2, hA, hB, hTr⟩ := h
    refine ⟨ha, hF, hN, fun j hj => ?_, hN2, hA, hB, hTr⟩
    obtain ⟨r1, r2, r3, r4, r5, r6, r7, r8, r9, r10, r11⟩ := hL j hj
    refine ⟨r1, r2, r3, r4, r5, r6, r7, r8, r9, r10, ?_⟩
    show -2000000000 ≤ ai_up (S.2 63) l (sp_pay S l) j ∧ ai_up (S.2 63) l (sp_pay S l) j ≤ 1000000000
    by_cases e : j = l
    · rw [e, ai_up_s]
      unfold iv_b at hpb
      omega
    · rw [ai_up_n _ _ e]; exact r11
  · exact h
theorem iv_Tpp {S : ms_T} (h : iv_T S) (l : Nat) : iv_T (sp_pp S l) := by
  have e : sp_code (sp_pp S l) = sp_code S := by
    unfold sp_code
    rw [sp_pp_f, sp_pp_a S l (by decide) (by decide), sp_pp_a S l (by decide) (by decide)]
  unfold iv_T
  rw [sp_pp_f, e]
  exact h
theorem iv_itpp {S : ms_T} (h : iv_S S) (hT : iv_T S) (h38 : iv_b (S.1 38)) : ∀ n : Nat, (n : Int) ≤ S.1 3 → iv_S (sp_it sp_pp S n) ∧ iv_T (sp_it sp_pp S n) ∧ (sp_it sp_pp S n).1 = S.1 ∧ ∀ a, a ≠ 63 → a ≠ 39 → (sp_it sp_pp S n).2 a = S.2 a
  | 0, _ => ⟨h, hT, rfl, fun _ _ _ => rfl⟩
  | n + 1, hn => by
    obtain ⟨i1, i2, i3, i4⟩ := iv_itpp h hT h38 n (by omega)
    rw [sp_it]
    exact ⟨iv_pp i1 i2 (by rw [i3]; exact h38) (by rw [i3]; omega), iv_Tpp i2 n, by rw [sp_pp_f, i3], fun a q1 q2 => by rw [sp_pp_a _ _ q1 q2, i4 a q1 q2]⟩
set_option maxHeartbeats 1000000 in
theorem ml_M_payDay1 {w : aw_T} {h0 h : ah_T} {S : ms_T} {d : Nat} (hd : 3 ≤ d) (hM : mo_I h0 h S) (hI : iv_S S) {P : ap_T} (hX : aw_W w mm_M_payDay d P 89 [some (av_r 38), some (av_l ((sp_sumN S (S.1 3).toNat))), none, some (av_i ((sp_allN S (S.1 3).toNat))), some (av_i (((S.1 0).tdiv 24))), none] [] h 0 0) : ∀ (r k : Nat), (k : Int) + r = S.1 3 → aw_W w mm_M_payDay d P 16 [some (av_r 38), some (av_l ((sp_sumN S k))), none, some (av_i ((sp_allN S k))), some (av_i (((S.1 0).tdiv 24))), some (av_i ((k : Int)))] [] h 0 0 := by
  intro r
  induction r with
  | zero =>
    intro k hk
    have a3 := hI.1.2.2.2.1
    have a0 := hI.1.1
    have hsb := sp_sum_b hI k (by omega)
    have hd24 := sp_td (a := S.1 0) (b := 24) (by omega) (by omega)
    refine ag_iload dd_M_payDay_16 rfl ?_
    refine ag_aload_n dd_M_payDay_18 rfl ?_
    refine ag_get dd_M_payDay_19 fg_M_191 (mr_38 hM) rfl ?_
    refine ag_icmp_ge (tgt := 89) dd_M_payDay_22 (by decide) (by omega) (by omega) (fun c1 => ?_) (fun c1 => ?_)
    · obtain rfl : k = (S.1 3).toNat := by omega
      exact ag_weak [some (av_r 38), some (av_l ((sp_sumN S (S.1 3).toNat))), none, some (av_i ((sp_allN S (S.1 3).toNat))), some (av_i (((S.1 0).tdiv 24))), none] (by simp [al_le]) hX
    · exfalso; omega
  | succ r ih =>
    intro k hk
    have a3 := hI.1.2.2.2.1
    have a0 := hI.1.1
    have hsb := sp_sum_b hI k (by omega)
    have hd24 := sp_td (a := S.1 0) (b := 24) (by omega) (by omega)
    refine ag_iload dd_M_payDay_16 rfl ?_
    refine ag_aload_n dd_M_payDay_18 rfl ?_
    refine ag_get dd_M_payDay_19 fg_M_191 (mr_38 hM) rfl ?_
    refine ag_icmp_ge (tgt := 89) dd_M_payDay_22 (by decide) (by omega) (by omega) (fun c1 => ?_) (fun c1 => ?_)
    · exfalso; omega
    · obtain ⟨q1, q2, q3, q4, q5, q6, q7, q8, q9, q10, q11⟩ := hI.2.2.2.1 k (by omega)
      have hlb := sp_left_b hI (l := k) (by omega)
      refine ag_aload_n dd_M_payDay_25 rfl ?_
      refine ag_get dd_M_payDay_26 fg_M_94 (mr_38 hM) rfl ?_
      refine ag_iload dd_M_payDay_29 rfl ?_
      refine ag_ialdN dd_M_payDay_31 (mr_62 hM) (by decide) (by omega) ?_
      refine ag_if_lt (tgt := 83) dd_M_payDay_32 (by decide) (by omega) (fun c2 => ?_) (fun c2 => ?_)
      · refine ag_iincN (Lf := fun y => [some (av_r 38), some (av_l ((sp_sumN S k))), none, some (av_i ((sp_allN S k))), some (av_i (((S.1 0).tdiv 24))), some (av_i (y))]) dd_M_payDay_83 rfl (fun _ => rfl) rfl (by decide) (fun y3 ey3 => ?_)
        refine ag_goto (tgt := 16) dd_M_payDay_86 (by decide) ?_
        have e1 : (sp_sumN S k) = sp_sumN S (k + 1) := by
          rw [sp_sumN]
          first | (rw [if_pos (by omega)]; omega) | (rw [if_neg (by omega)]; omega)
        have e2 : (sp_allN S k) = sp_allN S (k + 1) := by
          rw [sp_allN]
          first | (rw [if_pos (by omega)]; omega) | (rw [if_neg (by omega)]; omega)
        obtain rfl : y3 = ((k + 1 : Nat) : Int) := by omega
        rw [e1, e2]
        exact ih (k + 1) (by omega)
      · have ho24 := sp_td (a := S.2 62 k) (b := 24) (by omega) (by omega)
        refine ag_aload_n dd_M_payDay_35 rfl ?_
        refine ag_get dd_M_payDay_36 fg_M_94 (mr_38 hM) rfl ?_
        refine ag_iload dd_M_payDay_39 rfl ?_
        refine ag_ialdN dd_M_payDay_41 (mr_62 hM) (by decide) (by omega) ?_
        refine ag_bipush dd_M_payDay_42 (by decide +kernel) ?_
        refine ag_idiv dd_M_payDay_44 (by omega) (by omega) (by omega) ?_
        refine ag_iload dd_M_payDay_45 rfl ?_
        refine ag_icmp_eq (tgt := 53) dd_M_payDay_47 (by decide) (by omega) (by omega) (fun c4 => ?_) (fun c4 => ?_)
        · refine ag_lload_n dd_M_payDay_53 rfl ?_
          refine ag_aload_n dd_M_payDay_54 rfl ?_
          refine ag_get dd_M_payDay_55 fg_M_88 (mr_38 hM) rfl ?_
          refine ag_iload dd_M_payDay_58 rfl ?_
          refine ag_ialdN dd_M_payDay_60 (mr_60 hM) (by decide) (by omega) ?_
          refine ag_i2l dd_M_payDay_61 (by omega) ?_
          refine ag_aload_n dd_M_payDay_62 rfl ?_
          refine ag_get dd_M_payDay_63 fg_M_79 (mr_38 hM) rfl ?_
          refine ag_iload dd_M_payDay_66 rfl ?_
          refine ag_ialdN dd_M_payDay_68 (mr_57 hM) (by decide) (by omega) ?_
          refine ag_i2l dd_M_payDay_69 (by omega) ?_
          refine ag_lmul dd_M_payDay_70 ?_
          refine ag_ladd dd_M_payDay_71 ?_
          refine ag_lstore_nN (Lf := fun y => [some (av_r 38), some (av_l (y)), none, some (av_i ((sp_allN S k))), some (av_i (((S.1 0).tdiv 24))), some (av_i ((k : Int)))]) dd_M_payDay_72 (fun _ => rfl) rfl (by decide) (fun y5 ey5 => ?_)
          refine ag_iload_n dd_M_payDay_73 rfl ?_
          refine ag_aload_n dd_M_payDay_74 rfl ?_
          refine ag_get dd_M_payDay_75 fg_M_88 (mr_38 hM) rfl ?_
          refine ag_iload dd_M_payDay_78 rfl ?_
          refine ag_ialdN dd_M_payDay_80 (mr_60 hM) (by decide) (by omega) ?_
          refine ag_iadd dd_M_payDay_81 ?_
          refine ag_istore_nN (Lf := fun y => [some (av_r 38), some (av_l (y5)), none, some (av_i (y)), some (av_i (((S.1 0).tdiv 24))), some (av_i ((k : Int)))]) dd_M_payDay_82 (fun _ => rfl) rfl (by decide) (fun y6 ey6 => ?_)
          refine ag_iincN (Lf := fun y => [some (av_r 38), some (av_l (y5)), none, some (av_i (y6)), some (av_i (((S.1 0).tdiv 24))), some (av_i (y))]) dd_M_payDay_83 rfl (fun _ => rfl) rfl (by decide) (fun y7 ey7 => ?_)
          refine ag_goto (tgt := 16) dd_M_payDay_86 (by decide) ?_
          have e1 : y5 = sp_sumN S (k + 1) := by
            rw [sp_sumN]
            first | (rw [if_pos (by omega)]; omega) | (rw [if_neg (by omega)]; omega)
          have e2 : y6 = sp_allN S (k + 1) := by
            rw [sp_allN]
            first | (rw [if_pos (by omega)]; omega) | (rw [if_neg (by omega)]; omega)
          obtain rfl : y7 = ((k + 1 : Nat) : Int) := by omega
          rw [e1, e2]
          exact ih (k + 1) (by omega)
        · refine ag_goto (tgt := 83) dd_M_payDay_50 (by decide) ?_
          refine ag_iincN (Lf := fun y => [some (av_r 38), some (av_l ((sp_sumN S k))), none, some (av_i ((sp_allN S k))), some (av_i (((S.1 0).tdiv 24))), some (av_i (y))]) dd_M_payDay_83 rfl (fun _ => rfl) rfl (by decide) (fun y8 ey8 => ?_)
          refine ag_goto (tgt := 16) dd_M_payDay_86 (by decide) ?_
          have e1 : (sp_sumN S k) = sp_sumN S (k + 1) := by
            rw [sp_sumN]
            first | (rw [if_pos (by omega)]; omega) | (rw [if_neg (by omega)]; omega)
          have e2 : (sp_allN S k) = sp_allN S (k + 1) := by
            rw [sp_allN]
            first | (rw [if_pos (by omega)]; omega) | (rw [if_neg (by omega)]; omega)
          obtain rfl : y8 = ((k + 1 : Nat) : Int) := by omega
          rw [e1, e2]
          exact ih (k + 1) (by omega)
set_option maxHeartbeats 1000000 in
theorem ml_M_payDay2 {w : aw_T} {h0 : ah_T} {S : ms_T} {d : Nat} (hd : 3 ≤ d) (hI : iv_S S) (hT : iv_T S) (h38 : iv_b (S.1 38)) {P : ap_T} (hP : ∀ h, mo_I h0 h (sp_it sp_pp S (S.1 3).toNat) → P none h) : ∀ (r k : Nat) (h : ah_T), (k : Int) + r = S.1 3 → mo_I h0 h (sp_it sp_pp S k) → aw_W w mm_M_payDay d P 109 [some (av_r 38), none, none, none, some (av_i (((S.1 0).tdiv 24))), some (av_i ((k : Int)))] [] h 0 0 := by
  intro r
  induction r with
  | zero =>
    intro k h hk hM
    obtain ⟨i1, i2, i3, i4⟩ := iv_itpp hI hT h38 k (by omega)
    have a3 := hI.1.2.2.2.1
    have a0 := hI.1.1
    have f3 : (sp_it sp_pp S k).1 3 = S.1 3 := by rw [i3]
    have f0 : (sp_it sp_pp S k).1 0 = S.1 0 := by rw [i3]
    have hd24 := sp_td (a := S.1 0) (b := 24) (by omega) (by omega)
    refine ag_iload dd_M_payDay_109 rfl ?_
    refine ag_aload_n dd_M_payDay_111 rfl ?_
    refine ag_get dd_M_payDay_112 fg_M_191 (mr_38 hM) rfl ?_
    refine ag_icmp_ge (tgt := 246) dd_M_payDay_115 (by decide) (by omega) (by omega) (fun c1 => ?_) (fun c1 => ?_)
    · refine ag_vret dd_M_payDay_246 rfl ?_
      obtain rfl : k = (S.1 3).toNat := by omega
      exact hP h hM
    · exfalso; omega
  | succ r ih =>
    intro k h hk hM
    obtain ⟨i1, i2, i3, i4⟩ := iv_itpp hI hT h38 k (by omega)
    have a3 := hI.1.2.2.2.1
    have a0 := hI.1.1
    have f3 : (sp_it sp_pp S k).1 3 = S.1 3 := by rw [i3]
    have f0 : (sp_it sp_pp S k).1 0 = S.1 0 := by rw [i3]
    have hd24 := sp_td (a := S.1 0) (b := 24) (by omega) (by omega)
    refine ag_iload dd_M_payDay_109 rfl ?_
    refine ag_aload_n dd_M_payDay_111 rfl ?_
    refine ag_get dd_M_payDay_112 fg_M_191 (mr_38 hM) rfl ?_
    refine ag_icmp_ge (tgt := 246) dd_M_payDay_115 (by decide) (by omega) (by omega) (fun c1 => ?_) (fun c1 => ?_)
    · exfalso; omega
    · generalize eSk : sp_it sp_pp S k = Sk at *
      obtain ⟨q1, q2, q3, q4, q5, q6, q7, q8, q9, q10, q11⟩ := i1.2.2.2.1 k (by omega)
      have hlb := sp_left_b i1 (l := k) (by omega)
      have hf := (i1.2.1 (Sk.2 55 k).toNat (by omega)).1
      obtain ⟨b40, b41, b42, b43, b44, b45, b46, b47, b48, b49, b50, b51⟩ := hf
      have b1 := i1.1.2.1
      have b2 := i1.1.2.2.1
      have hdd : (Sk.1 0).tdiv 24 = (S.1 0).tdiv 24 := by rw [f0]
      refine ag_aload_n dd_M_payDay_118 rfl ?_
      refine ag_get dd_M_payDay_119 fg_M_94 (mr_38 hM) rfl ?_
      refine ag_iload dd_M_payDay_122 rfl ?_
      refine ag_ialdN dd_M_payDay_124 (mr_62 hM) (by decide) (by omega) ?_
      refine ag_if_lt (tgt := 240) dd_M_payDay_125 (by decide) (by omega) (fun c2 => ?_) (fun c2 => ?_)
      · refine ag_iincN (Lf := fun y => [some (av_r 38), none, none, none, some (av_i (((S.1 0).tdiv 24))), some (av_i (y))]) dd_M_payDay_240 rfl (fun _ => rfl) rfl (by decide) (fun y3 ey3 => ?_)
        refine ag_goto (tgt := 109) dd_M_payDay_243 (by decide) ?_
        have eN : Sk = sp_it sp_pp S (k + 1) := by
          rw [sp_it, eSk]
          unfold sp_pp
          first | rw [if_neg (by omega)] | (rw [if_pos (by omega)]; subst_vars; rfl)
        rw [eN] at hM
        obtain rfl : y3 = ((k + 1 : Nat) : Int) := by omega
        exact ih (k + 1) h (by omega) hM
      · have ho24 := sp_td (a := Sk.2 62 k) (b := 24) (by omega) (by omega)
        refine ag_aload_n dd_M_payDay_128 rfl ?_
        refine ag_get dd_M_payDay_129 fg_M_94 (mr_38 hM) rfl ?_
        refine ag_iload dd_M_payDay_132 rfl ?_
        refine ag_ialdN dd_M_payDay_134 (mr_62 hM) (by decide) (by omega) ?_
        refine ag_bipush dd_M_payDay_135 (by decide +kernel) ?_
        refine ag_idiv dd_M_payDay_137 (by omega) (by omega) (by omega) ?_
        refine ag_iload dd_M_payDay_138 rfl ?_
        refine ag_icmp_eq (tgt := 146) dd_M_payDay_140 (by decide) (by omega) (by omega) (fun c4 => ?_) (fun c4 => ?_)
        · refine ag_aload_n dd_M_payDay_146 rfl ?_
          refine ag_get dd_M_payDay_147 fg_M_97 (mr_38 hM) rfl ?_
          refine ag_iload dd_M_payDay_150 rfl ?_
          refine ag_aload_n dd_M_payDay_152 rfl ?_
          refine ag_aload_n dd_M_payDay_153 rfl ?_
          refine ag_get dd_M_payDay_154 fg_M_88 (mr_38 hM) rfl ?_
          refine ag_iload dd_M_payDay_157 rfl ?_
          refine ag_ialdN dd_M_payDay_159 (mr_60 hM) (by decide) (by omega) ?_
          refine ag_aload_n dd_M_payDay_160 rfl ?_
          refine ag_get dd_M_payDay_161 fg_M_79 (mr_38 hM) rfl ?_
          refine ag_iload dd_M_payDay_164 rfl ?_
          refine ag_ialdN dd_M_payDay_166 (mr_57 hM) (by decide) (by omega) ?_
          refine ag_aload_n dd_M_payDay_167 rfl ?_
          refine ag_get dd_M_payDay_168 fg_M_107 (mr_38 hM) rfl ?_
          refine ag_aload_n dd_M_payDay_171 rfl ?_
          refine ag_get dd_M_payDay_172 fg_M_54 (mr_38 hM) rfl ?_
          refine ag_aload_n dd_M_payDay_175 rfl ?_
          refine ag_get dd_M_payDay_176 fg_M_73 (mr_38 hM) rfl ?_
          refine ag_iload dd_M_payDay_179 rfl ?_
          refine ag_ialdN dd_M_payDay_181 (mr_55 hM) (by decide) (by omega) ?_
          refine ag_iald dd_M_payDay_182 (mr_49 hM) (by decide) (by omega) ?_
          refine ag_if_lt (tgt := 190) dd_M_payDay_183 (by decide) (by omega) (fun c5 => ?_) (fun c5 => ?_)
          · refine ag_iconst dd_M_payDay_190 ?_
            refine ag_aload_n dd_M_payDay_191 rfl ?_
            refine ag_get dd_M_payDay_192 fg_M_94 (mr_38 hM) rfl ?_
            refine ag_iload dd_M_payDay_195 rfl ?_
            refine ag_ialdN dd_M_payDay_197 (mr_62 hM) (by decide) (by omega) ?_
            refine ag_iconst dd_M_payDay_198 ?_
            refine ag_iadd dd_M_payDay_199 ?_
            refine ag_aload_n dd_M_payDay_200 rfl ?_
            refine ag_get dd_M_payDay_201 fg_M_76 (mr_38 hM) rfl ?_
            refine ag_iload dd_M_payDay_204 rfl ?_
            refine ag_ialdN dd_M_payDay_206 (mr_56 hM) (by decide) (by omega) ?_
            refine ag_isub dd_M_payDay_207 ?_
            have hw38 : iv_b (Sk.1 38) := by rw [i3]; exact h38
            refine ag_wV dd_M_payDay_208 fi_M_208 (mr_38 hM) rfl (mc_M_work (d := 2) (by omega) hM i2.1 (by unfold iv_b; omega) (by unfold iv_b; omega) hw38 (by unfold iv_b; omega) (by unfold iv_b; omega) i2.2) rfl rfl (by omega) (Nat.le_of_ble_eq_true rfl) (fun r h hP2 => ?_)
            obtain ⟨rfl, hM⟩ := hP2
            replace hM : mo_I h0 h Sk := hM
            have epy : sp_work Sk ((Sk.2 60 k)) ((Sk.2 57 k)) ((Sk.1 38)) (0) ((((Sk.2 62 k) + 1) - (Sk.2 56 k))) = sp_pay Sk k := by
              unfold sp_pay
              first | rw [if_pos (by omega)] | rw [if_neg (by omega)]
            have hpb : iv_b (sp_pay Sk k) := by rw [← epy]; exact sp_work_b i2 (by unfold iv_b; omega) (by unfold iv_b; omega) hw38 (by unfold iv_b; omega) (by unfold iv_b; omega)
            unfold iv_b at hpb
            show aw_W w mm_M_payDay d P 211 _ (av_i (sp_work Sk ((Sk.2 60 k)) ((Sk.2 57 k)) ((Sk.1 38)) (0) ((((Sk.2 62 k) + 1) - (Sk.2 56 k)))) :: _) h 0 0
            rw [epy]
            refine ms_63N dd_M_payDay_211 hM (by omega) (fun h S6 eS6 hM => ?_)
            have g55 : S6.2 55 k = Sk.2 55 k := by rw [eS6]; rfl
            have g40 : S6.2 40 (Sk.2 55 k).toNat = Sk.2 40 (Sk.2 55 k).toNat := by rw [eS6]; rfl
            refine ag_aload_n dd_M_payDay_212 rfl ?_
            refine ag_get dd_M_payDay_213 fg_M_22 (mr_38 hM) rfl ?_
            refine ag_aload_n dd_M_payDay_216 rfl ?_
            refine ag_get dd_M_payDay_217 fg_M_26 (mr_38 hM) rfl ?_
            refine ag_aload_n dd_M_payDay_220 rfl ?_
            refine ag_get dd_M_payDay_221 fg_M_73 (mr_38 hM) rfl ?_
            refine ag_iload dd_M_payDay_224 rfl ?_
            refine ag_ialdN dd_M_payDay_226 (mr_55 hM) (by decide) (by omega) ?_
            refine ag_iald dd_M_payDay_227 (mr_40 hM) (by decide) (by first | omega | (rw [g55]; omega) | (rw [g55, g40]; omega)) ?_
            refine ag_dup2 dd_M_payDay_228 rfl rfl ?_
            refine ag_lald dd_M_payDay_229 (mr_39 hM) (by decide) (by first | omega | (rw [g55]; omega) | (rw [g55, g40]; omega)) ?_
            refine ag_aload_n dd_M_payDay_230 rfl ?_
            refine ag_get dd_M_payDay_231 fg_M_97 (mr_38 hM) rfl ?_
            refine ag_iload dd_M_payDay_234 rfl ?_
            refine ag_ialdN dd_M_payDay_236 (mr_63 hM) (by decide) (by omega) ?_
            refine ag_to (show S6.2 63 k = sp_pay Sk k from by rw [eS6]; exact ai_up_s _ _ _) ?_
            refine ag_i2l dd_M_payDay_237 (by omega) ?_
            refine ag_ladd dd_M_payDay_238 ?_
            refine ms_39 dd_M_payDay_239 hM (by first | omega | (rw [g55]; omega) | (rw [g55, g40]; omega)) (fun h S7 eS7 hM => ?_)
            refine ag_iincN (Lf := fun y => [some (av_r 38), none, none, none, some (av_i (((S.1 0).tdiv 24))), some (av_i (y))]) dd_M_payDay_240 rfl (fun _ => rfl) rfl (by decide) (fun y8 ey8 => ?_)
            refine ag_goto (tgt := 109) dd_M_payDay_243 (by decide) ?_
            have eN : S7 = sp_it sp_pp S (k + 1) := by
              rw [sp_it, eSk]
              unfold sp_pp
              first | rw [if_neg (by omega)] | (rw [if_pos (by omega)]; subst_vars; rfl)
            rw [eN] at hM
            obtain rfl : y8 = ((k + 1 : Nat) : Int) := by omega
            exact ih (k + 1) h (by omega) hM
          · refine ag_iconst dd_M_payDay_186 ?_
            refine ag_goto (tgt := 191) dd_M_payDay_187 (by decide) ?_
            refine ag_aload_n dd_M_payDay_191 rfl ?_
            refine ag_get dd_M_payDay_192 fg_M_94 (mr_38 hM) rfl ?_
            refine ag_iload dd_M_payDay_195 rfl ?_
            refine ag_ialdN dd_M_payDay_197 (mr_62 hM) (by decide) (by omega) ?_
            refine ag_iconst dd_M_payDay_198 ?_
            refine ag_iadd dd_M_payDay_199 ?_
            refine ag_aload_n dd_M_payDay_200 rfl ?_
            refine ag_get dd_M_payDay_201 fg_M_76 (mr_38 hM) rfl ?_
            refine ag_iload dd_M_payDay_204 rfl ?_
            refine ag_ialdN dd_M_payDay_206 (mr_56 hM) (by decide) (by omega) ?_
            refine ag_isub dd_M_payDay_207 ?_
            have hw38 : iv_b (Sk.1 38) := by rw [i3]; exact h38
            refine ag_wV dd_M_payDay_208 fi_M_208 (mr_38 hM) rfl (mc_M_work (d := 2) (by omega) hM i2.1 (by unfold iv_b; omega) (by unfold iv_b; omega) hw38 (by unfold iv_b; omega) (by unfold iv_b; omega) i2.2) rfl rfl (by omega) (Nat.le_of_ble_eq_true rfl) (fun r h hP2 => ?_)
            obtain ⟨rfl, hM⟩ := hP2
            replace hM : mo_I h0 h Sk := hM
            have epy : sp_work Sk ((Sk.2 60 k)) ((Sk.2 57 k)) ((Sk.1 38)) (1) ((((Sk.2 62 k) + 1) - (Sk.2 56 k))) = sp_pay Sk k := by
              unfold sp_pay
              first | rw [if_pos (by omega)] | rw [if_neg (by omega)]
            have hpb : iv_b (sp_pay Sk k) := by rw [← epy]; exact sp_work_b i2 (by unfold iv_b; omega) (by unfold iv_b; omega) hw38 (by unfold iv_b; omega) (by unfold iv_b; omega)
            unfold iv_b at hpb
            show aw_W w mm_M_payDay d P 211 _ (av_i (sp_work Sk ((Sk.2 60 k)) ((Sk.2 57 k)) ((Sk.1 38)) (1) ((((Sk.2 62 k) + 1) - (Sk.2 56 k)))) :: _) h 0 0
            rw [epy]
            refine ms_63N dd_M_payDay_211 hM (by omega) (fun h S9 eS9 hM => ?_)
            have g55 : S9.2 55 k = Sk.2 55 k := by rw [eS9]; rfl
            have g40 : S9.2 40 (Sk.2 55 k).toNat = Sk.2 40 (Sk.2 55 k).toNat := by rw [eS9]; rfl
            refine ag_aload_n dd_M_payDay_212 rfl ?_
            refine ag_get dd_M_payDay_213 fg_M_22 (mr_38 hM) rfl ?_
            refine ag_aload_n dd_M_payDay_216 rfl ?_
            refine ag_get dd_M_payDay_217 fg_M_26 (mr_38 hM) rfl ?_
            refine ag_aload_n dd_M_payDay_220 rfl ?_
            refine ag_get dd_M_payDay_221 fg_M_73 (mr_38 hM) rfl ?_
            refine ag_iload dd_M_payDay_224 rfl ?_
            refine ag_ialdN dd_M_payDay_226 (mr_55 hM) (by decide) (by omega) ?_
            refine ag_iald dd_M_payDay_227 (mr_40 hM) (by decide) (by first | omega | (rw [g55]; omega) | (rw [g55, g40]; omega)) ?_
            refine ag_dup2 dd_M_payDay_228 rfl rfl ?_
            refine ag_lald dd_M_payDay_229 (mr_39 hM) (by decide) (by first | omega | (rw [g55]; omega) | (rw [g55, g40]; omega)) ?_
            refine ag_aload_n dd_M_payDay_230 rfl ?_
            refine ag_get dd_M_payDay_231 fg_M_97 (mr_38 hM) rfl ?_
            refine ag_iload dd_M_payDay_234 rfl ?_
            refine ag_ialdN dd_M_payDay_236 (mr_63 hM) (by decide) (by omega) ?_
            refine ag_to (show S9.2 63 k = sp_pay Sk k from by rw [eS9]; exact ai_up_s _ _ _) ?_
            refine ag_i2l dd_M_payDay_237 (by omega) ?_
            refine ag_ladd dd_M_payDay_238 ?_
            refine ms_39 dd_M_payDay_239 hM (by first | omega | (rw [g55]; omega) | (rw [g55, g40]; omega)) (fun h S10 eS10 hM => ?_)
            refine ag_iincN (Lf := fun y => [some (av_r 38), none, none, none, some (av_i (((S.1 0).tdiv 24))), some (av_i (y))]) dd_M_payDay_240 rfl (fun _ => rfl) rfl (by decide) (fun y11 ey11 => ?_)
            refine ag_goto (tgt := 109) dd_M_payDay_243 (by decide) ?_
            have eN : S10 = sp_it sp_pp S (k + 1) := by
              rw [sp_it, eSk]
              unfold sp_pp
              first | rw [if_neg (by omega)] | (rw [if_pos (by omega)]; subst_vars; rfl)
            rw [eN] at hM
            obtain rfl : y11 = ((k + 1 : Nat) : Int) := by omega
            exact ih (k + 1) h (by omega) hM
        · refine ag_goto (tgt := 240) dd_M_payDay_143 (by decide) ?_
          refine ag_iincN (Lf := fun y => [some (av_r 38), none, none, none, some (av_i (((S.1 0).tdiv 24))), some (av_i (y))]) dd_M_payDay_240 rfl (fun _ => rfl) rfl (by decide) (fun y12 ey12 => ?_)
          refine ag_goto (tgt := 109) dd_M_payDay_243 (by decide) ?_
          have eN : Sk = sp_it sp_pp S (k + 1) := by
            rw [sp_it, eSk]
            unfold sp_pp
            first | rw [if_neg (by omega)] | (rw [if_pos (by omega)]; subst_vars; rfl)
          rw [eN] at hM
          obtain rfl : y12 = ((k + 1 : Nat) : Int) := by omega
          exact ih (k + 1) h (by omega) hM
set_option maxHeartbeats 1000000 in
theorem mc_M_payDay {w : aw_T} {h0 h : ah_T} {S : ms_T} {d : Nat} (hd : 3 ≤ d) (hM : mo_I h0 h S) (hI : iv_S S) (hT : iv_T S) : am_M w mm_M_payDay d [av_r 38] h 0 0 (mo_P h0 (none, sp_pd S)) := by
  refine am_intro [some (av_r 38), none, none, none, none, none] (by decide +kernel) (Nat.le_of_ble_eq_true rfl) rfl ?_
  have a3 := hI.1.2.2.2.1
  have a0 := hI.1.1
  refine ag_lconst (a := 0) dd_M_payDay_0 (by decide +kernel) ?_
  refine ag_lstore_n (L' := [some (av_r 38), some (av_l (0)), none, none, none, none]) dd_M_payDay_1 rfl rfl (by decide) ?_
  refine ag_iconst dd_M_payDay_2 ?_
  refine ag_istore_n (L' := [some (av_r 38), some (av_l (0)), none, some (av_i (0)), none, none]) dd_M_payDay_3 rfl rfl (by decide) ?_
  refine ag_aload_n dd_M_payDay_4 rfl ?_
  refine ag_get dd_M_payDay_5 fg_M_159 (mr_38 hM) rfl ?_
  refine ag_bipush dd_M_payDay_8 (by decide +kernel) ?_
  refine ag_idiv dd_M_payDay_10 (by omega) (by omega) (by omega) ?_
  refine ag_istoreN (Lf := fun y => [some (av_r 38), some (av_l (0)), none, some (av_i (0)), some (av_i (y)), none]) dd_M_payDay_11 (fun _ => rfl) rfl (by decide) (fun y1 ey1 => ?_)
  refine ag_iconst dd_M_payDay_13 ?_
  refine ag_istore (L' := [some (av_r 38), some (av_l (0)), none, some (av_i (0)), some (av_i (y1)), some (av_i (0))]) dd_M_payDay_14 rfl rfl (by decide) ?_
  subst_vars
  refine ml_M_payDay1 hd hM hI ?_ (S.1 3).toNat 0 (by omega)
  have hsb := sp_sum_b hI (S.1 3).toNat (by omega)
  refine ag_aload_n dd_M_payDay_89 rfl ?_
  refine ag_iload_n dd_M_payDay_90 rfl ?_
  refine ag_if_ne (tgt := 98) dd_M_payDay_91 (by decide) (by omega) (fun c2 => ?_) (fun c2 => ?_)
  · refine ag_lload_n dd_M_payDay_98 rfl ?_
    refine ag_iload_n dd_M_payDay_99 rfl ?_
    refine ag_i2l dd_M_payDay_100 (by omega) ?_
    refine ag_ldiv dd_M_payDay_101 (by omega) (by omega) (by omega) ?_
    refine ag_l2i dd_M_payDay_102 ?_
    refine mp_38 dd_M_payDay_103 fp_M_107 hM (fun h S3 eS3 hM => ?_)
    refine ag_iconst dd_M_payDay_106 ?_
    refine ag_istore (L' := [some (av_r 38), some (av_l ((sp_sumN S (S.1 3).toNat))), none, some (av_i ((sp_allN S (S.1 3).toNat))), some (av_i (((S.1 0).tdiv 24))), some (av_i (0))]) dd_M_payDay_107 rfl rfl (by decide) ?_
    have eS : S3 = (ai_up S.1 38 (sp_mean S), S.2) := by
      rw [eS3]
      unfold sp_mean
      first | rw [if_pos (by omega)] | rw [if_neg (by omega)]
    rw [eS] at hM
    have hmb := sp_mean_b hI
    refine ag_weak [some (av_r 38), none, none, none, some (av_i (((S.1 0).tdiv 24))), some (av_i (((0 : Nat) : Int)))] (by simp [al_le]) (ml_M_payDay2 (S := (ai_up S.1 38 (sp_mean S), S.2)) hd (iv_m38 hI _) (iv_T38 hT _) (by show iv_b (sp_mean S); unfold iv_b; omega) (fun h hM => ⟨rfl, hM⟩) (S.1 3).toNat 0 h (by show ((0 : Nat) : Int) + _ = S.1 3; omega) hM)
  · refine ag_iconst dd_M_payDay_94 ?_
    refine ag_goto (tgt := 103) dd_M_payDay_95 (by decide) ?_
    refine mp_38 dd_M_payDay_103 fp_M_107 hM (fun h S4 eS4 hM => ?_)
    refine ag_iconst dd_M_payDay_106 ?_
    refine ag_istore (L' := [some (av_r 38), some (av_l ((sp_sumN S (S.1 3).toNat))), none, some (av_i ((sp_allN S (S.1 3).toNat))), some (av_i (((S.1 0).tdiv 24))), some (av_i (0))]) dd_M_payDay_107 rfl rfl (by decide) ?_
    have eS : S4 = (ai_up S.1 38 (sp_mean S), S.2) := by
      rw [eS4]
      unfold sp_mean
      first | rw [if_pos (by omega)] | rw [if_neg (by omega)]
    rw [eS] at hM
    have hmb := sp_mean_b hI
    refine ag_weak [some (av_r 38), none, none, none, some (av_i (((S.1 0).tdiv 24))), some (av_i (((0 : Nat) : Int)))] (by simp [al_le]) (ml_M_payDay2 (S := (ai_up S.1 38 (sp_mean S), S.2)) hd (iv_m38 hI _) (iv_T38 hT _) (by show iv_b (sp_mean S); unfold iv_b; omega) (fun h hM => ⟨rfl, hM⟩) (S.1 3).toNat 0 h (by show ((0 : Nat) : Int) + _ = S.1 3; omega) hM)
