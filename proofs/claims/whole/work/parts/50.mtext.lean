/-- what a step of the machine does, as the model does it -/
def ps_ (T : Nat → Int) (n : Nat) (h0 : ah_T) (S : ms_T) (x : mc_T ⊕ (Int × Int)) : ap_T := fun r1 h1 => match x with
  | .inl q => r1 = some (av_i 0) ∧ ∃ S3, md_ S3 q.2.1 q.2.2.1 q.2.2.2.1 (if q.2.2.2.2 = true then 1 else 0) ∧ tk_R T n S3 q.1 ∧ fr_ S S3 ∧ mo_I h0 h1 S3
  | .inr e => (1 ≤ e.1 ∧ e.1 ≤ 3) ∧ r1 = some (av_i e.1) ∧ ∃ S3, S3.1 50 = e.2 ∧ fr_ S S3 ∧ mo_I h0 h1 S3
def bd_ (ts : List tk_T) (p : List Int) (u : List (Int × Int)) (o : Int) : Prop := p.length + u.length + ts.length ≤ 101 ∧ o ≤ 8 ∧ (ts.length : Int) ≤ o + u.length + 101
theorem pr_ix_s (c : Int) : pr_ix c = -1 ∨ (0 ≤ pr_ix c ∧ pr_ix c ≤ 4 ∧ (c = 116 ∨ c = 115 ∨ c = 109 ∨ c = 98 ∨ c = 104)) := by
  have hb := pr_ix_b c
  by_cases h : 0 ≤ pr_ix c
  · exact Or.inr ⟨h, hb.2, pr_ix_h h⟩
  · left; omega
theorem bd_g {ts : List tk_T} {p : List Int} {u : List (Int × Int)} {o : Int} {q : mc_T} (h : bd_ ts p u o) (hh : pr_h ts ≠ 0) (e : mb_g ts p u o = .inl q) : bd_ q.1 q.2.1 q.2.2.1 q.2.2.2.1 := by
  have hl := pr_h_len hh
  unfold bd_ at h ⊢
  unfold mb_g at e
  have key : ∀ a : Int × Int, (mw_ p (u ++ [a]) o).1.length + (mw_ p (u ++ [a]) o).2.1.length + ts.tail.length ≤ 101 ∧ (mw_ p (u ++ [a]) o).2.2 ≤ 8 ∧ (ts.tail.length : Int) ≤ (mw_ p (u ++ [a]) o).2.2 + (mw_ p (u ++ [a]) o).2.1.length + 101 := by
    intro a
    have := mw_len p (u ++ [a]) o
    rw [List.length_append, List.length_singleton] at this
    omega
  by_cases h1 : 1000 ≤ pr_h ts
  · rw [if_pos h1] at e
    by_cases h2 : 9999 < pr_h ts - 1000
    · rw [if_pos h2] at e
      cases e
    · rw [if_neg h2] at e
      cases e
      exact key _
  rw [if_neg h1] at e
  by_cases h2 : 0 ≤ pr_ix (pr_h ts)
  · rw [if_pos h2] at e
    cases e
    exact key _
  rw [if_neg h2] at e
  by_cases h3 : pr_h ts = 2 ∨ pr_h ts = 3
  · rw [if_pos h3] at e
    by_cases h4 : pr_h ts.tail = 40
    · have hl2 := pr_h_len (ts := ts.tail) (by omega)
      rw [if_pos h4] at e
      by_cases h5 : o = 8
      · rw [if_pos h5] at e
        cases e
      · rw [if_neg h5] at e
        cases e
        show ((_ : Int) :: p).length + u.length + ts.tail.tail.length ≤ 101 ∧ o + 1 ≤ 8 ∧ (ts.tail.tail.length : Int) ≤ o + 1 + u.length + 101
        rw [List.length_cons]
        omega
    · rw [if_neg h4] at e
      cases e
  rw [if_neg h3] at e
  by_cases h4 : pr_h ts = 40 ∨ pr_h ts = 45
  · rw [if_pos h4] at e
    by_cases h5 : o = 8
    · rw [if_pos h5] at e
      cases e
    · rw [if_neg h5] at e
      cases e
      show ((_ : Int) :: p).length + u.length + ts.tail.length ≤ 101 ∧ o + 1 ≤ 8 ∧ (ts.tail.length : Int) ≤ o + 1 + u.length + 101
      rw [List.length_cons]
      omega
  rw [if_neg h4] at e
  cases e
theorem bd_h {ts : List tk_T} {p : List Int} {u : List (Int × Int)} {o : Int} {q : mc_T} (h : bd_ ts p u o) (hh : pr_h ts ≠ 0) (e : mb_h ts p u o = .inl q) : bd_ q.1 q.2.1 q.2.2.1 q.2.2.2.1 := by
  have hl := pr_h_len hh
  unfold bd_ at h ⊢
  unfold mb_h at e
  have k3 := mt_len 3 p u
  have k5 := mt_len 5 p u
  by_cases h1 : pr_h ts = 43 ∨ pr_h ts = 45
  · rw [if_pos h1] at e
    cases e
    show ((_ : Int) :: (mt_ 3 p u).1).length + (mt_ 3 p u).2.length + ts.tail.length ≤ 101 ∧ o ≤ 8 ∧ (ts.tail.length : Int) ≤ o + (mt_ 3 p u).2.length + 101
    rw [List.length_cons]
    omega
  rw [if_neg h1] at e
  by_cases h2 : pr_h ts = 42 ∨ pr_h ts = 47
  · rw [if_pos h2] at e
    cases e
    show ((_ : Int) :: (mt_ 5 p u).1).length + (mt_ 5 p u).2.length + ts.tail.length ≤ 101 ∧ o ≤ 8 ∧ (ts.tail.length : Int) ≤ o + (mt_ 5 p u).2.length + 101
    rw [List.length_cons]
    omega
  rw [if_neg h2] at e
  obtain ⟨P, U, hPU⟩ : ∃ P U, mt_ 3 p u = (P, U) := ⟨_, _, rfl⟩
  rw [hPU] at e k3
  have k3a : P.length + U.length = p.length + u.length := k3.1
  have k3b : u.length ≤ U.length := k3.2
  by_cases h3 : pr_h ts = 44
  · rw [if_pos h3] at e
    cases P with
    | nil => cases e
    | cons a P =>
      dsimp only at e
      rw [List.length_cons] at k3a
      by_cases h4 : a = 21 ∨ a = 22
      · rw [if_pos h4] at e
        cases e
        show ((_ : Int) :: P).length + U.length + ts.tail.length ≤ 101 ∧ o ≤ 8 ∧ (ts.tail.length : Int) ≤ o + U.length + 101
        rw [List.length_cons]
        omega
      · rw [if_neg h4] at e
        cases e
  rw [if_neg h3] at e
  by_cases h4 : pr_h ts = 41
  · rw [if_pos h4] at e
    cases P with
    | nil => cases e
    | cons a P =>
      dsimp only at e
      rw [List.length_cons] at k3a
      by_cases h5 : a = 21 ∨ a = 22
      · rw [if_pos h5] at e
        cases e
      · rw [if_neg h5] at e
        have key : ∀ W : List (Int × Int), W.length ≤ U.length + 1 → U.length ≤ W.length → (mw_ P W (o - 1)).1.length + (mw_ P W (o - 1)).2.1.length + ts.tail.length ≤ 101 ∧ (mw_ P W (o - 1)).2.2 ≤ 8 ∧ (ts.tail.length : Int) ≤ (mw_ P W (o - 1)).2.2 + (mw_ P W (o - 1)).2.1.length + 101 := by
          intro W hW hW2
          have := mw_len P W (o - 1)
          omega
        by_cases h6 : 20 < a
        · rw [if_pos h6] at e
          cases e
          exact key _ (by rw [List.length_append, List.length_singleton]; omega) (by rw [List.length_append]; omega)
        · rw [if_neg h6] at e
          cases e
          exact key _ (by omega) (by omega)
  rw [if_neg h4] at e
  cases e
set_option maxHeartbeats 1000000 in
theorem mc_M_begin {w : aw_T} {h0 h : ah_T} {S : ms_T} {d : Nat} (hd : 3 ≤ d) (hM : mo_I h0 h S) {T : Nat → Int} (hT : ∀ i, 0 ≤ T i ∧ T i ≤ 255) {n : Nat} (hn : n ≤ 100) (h43 : S.1 43 = (n : Int)) (ht : S.2 68 = T) {ts : List tk_T} {p : List Int} {u : List (Int × Int)} {o : Int} (htk : tk_R T n S ts) (hh : pr_h ts ≠ 0) (hb : bd_ ts p u o) (md_S : md_ S p u o 0) : am_M w mm_M_begin d [av_r 38] h 0 0 (ps_ T n h0 S (mb_g ts p u o)) := by
  refine am_intro [some (av_r 38), none] (by decide +kernel) (Nat.le_of_ble_eq_true rfl) rfl ?_
  obtain ⟨hne, h50, htc, hrd⟩ := htk
  obtain ⟨r, f, h49, hr, hf, htl⟩ := hrd hh
  clear hrd
  unfold tc_ at htc
  have hix := pr_ix_s (pr_h ts)
  unfold bd_ at hb
  have hl := pr_h_len hh
  have fr_S := fr_rf S
  have kt_S := kt_rf S
  have v54 := md_S.2.2.1
  have hk3 := mt_len 3 p u
  have hk5 := mt_len 5 p u
  refine ag_aload_n dd_M_begin_0 rfl ?_
  refine ag_get dd_M_begin_1 fg_M_250 (mr_38 hM) rfl ?_
  refine ag_iconst dd_M_begin_4 ?_
  refine ag_icmp_ne (tgt := 44) dd_M_begin_5 (by decide) (by omega) (by omega) (fun c1 => ?_) (fun c1 => ?_)
  · refine ag_aload_n dd_M_begin_44 rfl ?_
    refine ag_get dd_M_begin_45 fg_M_250 (mr_38 hM) rfl ?_
    refine ag_iconst dd_M_begin_48 ?_
    refine ag_icmp_ne (tgt := 76) dd_M_begin_49 (by decide) (by omega) (by omega) (fun c2 => ?_) (fun c2 => ?_)
    · refine ag_aload_n dd_M_begin_76 rfl ?_
      refine ag_get dd_M_begin_77 fg_M_250 (mr_38 hM) rfl ?_
      refine ag_istore_nN (Lf := fun y => [some (av_r 38), some (av_i (y))]) dd_M_begin_80 (fun _ => rfl) rfl (by decide) (fun y3 ey3 => ?_)
      rcases (show y3 = 3 ∨ y3 = 4 ∨ y3 = 40 ∨ y3 = 45 ∨ (y3 ≠ 3 ∧ y3 ≠ 4 ∧ y3 ≠ 40 ∧ y3 ≠ 45) by omega) with w1 | w1 | w1 | w1 | w1
      · refine ag_iload_n dd_M_begin_81 rfl ?_
        refine ag_iconst dd_M_begin_82 ?_
        refine ag_icmp_eq (tgt := 91) dd_M_begin_83 (by decide) (by omega) (by omega) (fun c4 => ?_) (fun c4 => ?_)
        · refine ag_aload_n dd_M_begin_91 rfl ?_
          refine ag_wV dd_M_begin_92 fi_M_288 (mr_38 hM) rfl (mc_M_nextToken (d := 2) (by omega) hM hT hn (f := f) (r := r) (by rw [kt_S 49 (by decide) (by decide)]; exact h49) hr hf (by rw [fr_S.1 43 (by decide) (by decide)]; exact h43) (by rw [fr_S.2.1 68 (by decide) (by decide) (by decide)]; exact ht)) rfl rfl (by omega) (Nat.le_of_ble_eq_true rfl) (fun r1 h hP => ?_)
          obtain ⟨rfl, S5, nx_S5, tk_S5, hM⟩ := hP
          rw [← htl] at tk_S5
          have md_S5 := md_nx md_S nx_S5
          have fr_S5 := fr_tr fr_S (fr_nx nx_S5)
          have v54_S5 : S5.1 54 = S.1 54 := nx_S5.2 54 (by decide)
          have htk2 := tk_S5
          have htc2 := htk2.2.2.1
          unfold tc_ at htc2
          have kt_S5 := kt_rf S5
          have hix2 := pr_ix_s (pr_h ts.tail)
          refine ag_aload_n dd_M_begin_95 rfl ?_
          refine ag_get dd_M_begin_96 fg_M_250 (mr_38 hM) rfl ?_
          refine ag_bipush dd_M_begin_99 (by decide +kernel) ?_
          refine ag_icmp_eq (tgt := 106) dd_M_begin_101 (by decide) (by omega) (by omega) (fun c6 => ?_) (fun c6 => ?_)
          · obtain ⟨r2, f2, h492, hr2, hf2, htl2⟩ := htk2.2.2.2 (by omega)
            have hl2 := pr_h_len (ts := ts.tail) (by omega)
            refine ag_iload_n dd_M_begin_106 rfl ?_
            refine ag_iconst dd_M_begin_107 ?_
            refine ag_icmp_eq (tgt := 130) dd_M_begin_108 (by decide) (by omega) (by omega) (fun c7 => ?_) (fun c7 => ?_)
            · refine ag_aload_n dd_M_begin_130 rfl ?_
              refine ag_get dd_M_begin_131 fg_M_274 (mr_38 hM) rfl ?_
              refine ag_bipush dd_M_begin_134 (by decide +kernel) ?_
              refine ag_icmp_ne (tgt := 141) dd_M_begin_136 (by decide) (by omega) (by omega) (fun c8 => ?_) (fun c8 => ?_)
              · refine ag_aload_n dd_M_begin_141 rfl ?_
                refine ag_dup dd_M_begin_142 rfl ?_
                refine ag_get dd_M_begin_143 fg_M_274 (mr_38 hM) rfl ?_
                refine ag_iconst dd_M_begin_146 ?_
                refine ag_iadd dd_M_begin_147 ?_
                refine mp_54 dd_M_begin_148 fp_M_274 hM (fun h S9 eS9 hM => ?_)
                have md_S9 := md_54 md_S5 eS9
                have fr_S9 := fr_tr fr_S5 (fr_put eS9 (by decide))
                have kt_S9 := kt_tr kt_S5 (kt_put eS9 (by decide))
                clear eS9
                refine ag_aload_n dd_M_begin_151 rfl ?_
                refine ag_iload_n dd_M_begin_152 rfl ?_
                refine ag_iconst dd_M_begin_153 ?_
                refine ag_icmp_ne (tgt := 162) dd_M_begin_154 (by decide) (by omega) (by omega) (fun c10 => ?_) (fun c10 => ?_)
                · exfalso; omega
                · refine ag_bipush dd_M_begin_157 (by decide +kernel) ?_
                  refine ag_goto (tgt := 184) dd_M_begin_159 (by decide) ?_
                  refine ag_wV dd_M_begin_184 fi_M_291 (mr_38 hM) rfl (mc_M_push (d := 1) (by omega) hM md_S9 (by omega) (by omega)) rfl rfl (by omega) (Nat.le_of_ble_eq_true rfl) (fun r1 h hP => ?_)
                  obtain ⟨rfl, S11, md_S11, g1, g2, hM⟩ := hP
                  have fr_S11 := fr_tr fr_S9 g1
                  have kt_S11 := kt_tr kt_S9 g2
                  clear g1 g2
                  refine ag_aload_n dd_M_begin_187 rfl ?_
                  refine ag_wV dd_M_begin_188 fi_M_288 (mr_38 hM) rfl (mc_M_nextToken (d := 2) (by omega) hM hT hn (f := f2) (r := r2) (by rw [kt_S11 49 (by decide) (by decide)]; exact h492) hr2 hf2 (by rw [fr_S11.1 43 (by decide) (by decide)]; exact h43) (by rw [fr_S11.2.1 68 (by decide) (by decide) (by decide)]; exact ht)) rfl rfl (by omega) (Nat.le_of_ble_eq_true rfl) (fun r1 h hP => ?_)
                  obtain ⟨rfl, S12, nx_S12, tk_S12, hM⟩ := hP
                  rw [← htl2] at tk_S12
                  have md_S12 := md_nx md_S11 nx_S12
                  have fr_S12 := fr_tr fr_S11 (fr_nx nx_S12)
                  have v54_S12 : S12.1 54 = S11.1 54 := nx_S12.2 54 (by decide)
                  refine ag_iconst dd_M_begin_191 ?_
                  refine ag_iret dd_M_begin_192 rfl ?_
                  have e54 : S5.1 54 + 1 = o + 1 := by omega
                  rw [e54] at md_S12
                  have eg : mb_g ts p u o = .inl (ts.tail.tail, 21 :: p, u, o + 1, false) := by
                    rw [mb_g, if_neg (by omega), if_neg (by omega), if_pos (by omega), if_pos (by omega), if_neg (by omega), if_pos (by omega)]
                  rw [eg]
                  exact ⟨rfl, S12, md_S12, tk_S12, fr_S12, hM⟩
              · refine ag_iconst dd_M_begin_139 ?_
                refine ag_iret dd_M_begin_140 rfl ?_
                have eg : mb_g ts p u o = .inr (3, pr_p ts.tail) := by
                  rw [mb_g, if_neg (by omega), if_neg (by omega), if_pos (by omega), if_pos (by omega), if_pos (by omega)]
                rw [eg]
                exact ⟨(show (1 : Int) ≤ 3 ∧ (3 : Int) ≤ 3 by decide), rfl, S5, htk2.2.1, fr_S5, hM⟩
            · exfalso; omega
          · refine ag_iconst dd_M_begin_104 ?_
            refine ag_iret dd_M_begin_105 rfl ?_
            have eg : mb_g ts p u o = .inr (1, pr_p ts.tail) := by
              rw [mb_g, if_neg (by omega), if_neg (by omega), if_pos (by omega), if_neg (by omega)]
            rw [eg]
            exact ⟨(show (1 : Int) ≤ 1 ∧ (1 : Int) ≤ 3 by decide), rfl, S5, htk2.2.1, fr_S5, hM⟩
        · exfalso; omega
      · refine ag_iload_n dd_M_begin_81 rfl ?_
        refine ag_iconst dd_M_begin_82 ?_
        refine ag_icmp_eq (tgt := 91) dd_M_begin_83 (by decide) (by omega) (by omega) (fun c13 => ?_) (fun c13 => ?_)
        · exfalso; omega
        · refine ag_iload_n dd_M_begin_86 rfl ?_
          refine ag_iconst dd_M_begin_87 ?_
          refine ag_icmp_ne (tgt := 106) dd_M_begin_88 (by decide) (by omega) (by omega) (fun c14 => ?_) (fun c14 => ?_)
          · exfalso; omega
          · refine ag_aload_n dd_M_begin_91 rfl ?_
            refine ag_wV dd_M_begin_92 fi_M_288 (mr_38 hM) rfl (mc_M_nextToken (d := 2) (by omega) hM hT hn (f := f) (r := r) (by rw [kt_S 49 (by decide) (by decide)]; exact h49) hr hf (by rw [fr_S.1 43 (by decide) (by decide)]; exact h43) (by rw [fr_S.2.1 68 (by decide) (by decide) (by decide)]; exact ht)) rfl rfl (by omega) (Nat.le_of_ble_eq_true rfl) (fun r1 h hP => ?_)
            obtain ⟨rfl, S15, nx_S15, tk_S15, hM⟩ := hP
            rw [← htl] at tk_S15
            have md_S15 := md_nx md_S nx_S15
            have fr_S15 := fr_tr fr_S (fr_nx nx_S15)
            have v54_S15 : S15.1 54 = S.1 54 := nx_S15.2 54 (by decide)
            have htk2 := tk_S15
            have htc2 := htk2.2.2.1
            unfold tc_ at htc2
            have kt_S15 := kt_rf S15
            have hix2 := pr_ix_s (pr_h ts.tail)
            refine ag_aload_n dd_M_begin_95 rfl ?_
            refine ag_get dd_M_begin_96 fg_M_250 (mr_38 hM) rfl ?_
            refine ag_bipush dd_M_begin_99 (by decide +kernel) ?_
            refine ag_icmp_eq (tgt := 106) dd_M_begin_101 (by decide) (by omega) (by omega) (fun c16 => ?_) (fun c16 => ?_)
            · obtain ⟨r2, f2, h492, hr2, hf2, htl2⟩ := htk2.2.2.2 (by omega)
              have hl2 := pr_h_len (ts := ts.tail) (by omega)
              refine ag_iload_n dd_M_begin_106 rfl ?_
              refine ag_iconst dd_M_begin_107 ?_
              refine ag_icmp_eq (tgt := 130) dd_M_begin_108 (by decide) (by omega) (by omega) (fun c17 => ?_) (fun c17 => ?_)
              · exfalso; omega
              · refine ag_iload_n dd_M_begin_111 rfl ?_
                refine ag_iconst dd_M_begin_112 ?_
                refine ag_icmp_eq (tgt := 130) dd_M_begin_113 (by decide) (by omega) (by omega) (fun c18 => ?_) (fun c18 => ?_)
                · refine ag_aload_n dd_M_begin_130 rfl ?_
                  refine ag_get dd_M_begin_131 fg_M_274 (mr_38 hM) rfl ?_
                  refine ag_bipush dd_M_begin_134 (by decide +kernel) ?_
                  refine ag_icmp_ne (tgt := 141) dd_M_begin_136 (by decide) (by omega) (by omega) (fun c19 => ?_) (fun c19 => ?_)
                  · refine ag_aload_n dd_M_begin_141 rfl ?_
                    refine ag_dup dd_M_begin_142 rfl ?_
                    refine ag_get dd_M_begin_143 fg_M_274 (mr_38 hM) rfl ?_
                    refine ag_iconst dd_M_begin_146 ?_
                    refine ag_iadd dd_M_begin_147 ?_
                    refine mp_54 dd_M_begin_148 fp_M_274 hM (fun h S20 eS20 hM => ?_)
                    have md_S20 := md_54 md_S15 eS20
                    have fr_S20 := fr_tr fr_S15 (fr_put eS20 (by decide))
                    have kt_S20 := kt_tr kt_S15 (kt_put eS20 (by decide))
                    clear eS20
                    refine ag_aload_n dd_M_begin_151 rfl ?_
                    refine ag_iload_n dd_M_begin_152 rfl ?_
                    refine ag_iconst dd_M_begin_153 ?_
                    refine ag_icmp_ne (tgt := 162) dd_M_begin_154 (by decide) (by omega) (by omega) (fun c21 => ?_) (fun c21 => ?_)
                    · refine ag_iload_n dd_M_begin_162 rfl ?_
                      refine ag_iconst dd_M_begin_163 ?_
                      refine ag_icmp_ne (tgt := 172) dd_M_begin_164 (by decide) (by omega) (by omega) (fun c22 => ?_) (fun c22 => ?_)
                      · exfalso; omega
                      · refine ag_bipush dd_M_begin_167 (by decide +kernel) ?_
                        refine ag_goto (tgt := 184) dd_M_begin_169 (by decide) ?_
                        refine ag_wV dd_M_begin_184 fi_M_291 (mr_38 hM) rfl (mc_M_push (d := 1) (by omega) hM md_S20 (by omega) (by omega)) rfl rfl (by omega) (Nat.le_of_ble_eq_true rfl) (fun r1 h hP => ?_)
                        obtain ⟨rfl, S23, md_S23, g1, g2, hM⟩ := hP
                        have fr_S23 := fr_tr fr_S20 g1
                        have kt_S23 := kt_tr kt_S20 g2
                        clear g1 g2
                        refine ag_aload_n dd_M_begin_187 rfl ?_
                        refine ag_wV dd_M_begin_188 fi_M_288 (mr_38 hM) rfl (mc_M_nextToken (d := 2) (by omega) hM hT hn (f := f2) (r := r2) (by rw [kt_S23 49 (by decide) (by decide)]; exact h492) hr2 hf2 (by rw [fr_S23.1 43 (by decide) (by decide)]; exact h43) (by rw [fr_S23.2.1 68 (by decide) (by decide) (by decide)]; exact ht)) rfl rfl (by omega) (Nat.le_of_ble_eq_true rfl) (fun r1 h hP => ?_)
                        obtain ⟨rfl, S24, nx_S24, tk_S24, hM⟩ := hP
                        rw [← htl2] at tk_S24
                        have md_S24 := md_nx md_S23 nx_S24
                        have fr_S24 := fr_tr fr_S23 (fr_nx nx_S24)
                        have v54_S24 : S24.1 54 = S23.1 54 := nx_S24.2 54 (by decide)
                        refine ag_iconst dd_M_begin_191 ?_
                        refine ag_iret dd_M_begin_192 rfl ?_
                        have e54 : S15.1 54 + 1 = o + 1 := by omega
                        rw [e54] at md_S24
                        have eg : mb_g ts p u o = .inl (ts.tail.tail, 22 :: p, u, o + 1, false) := by
                          rw [mb_g, if_neg (by omega), if_neg (by omega), if_pos (by omega), if_pos (by omega), if_neg (by omega), if_neg (by omega)]
                        rw [eg]
                        exact ⟨rfl, S24, md_S24, tk_S24, fr_S24, hM⟩
                    · exfalso; omega
                  · refine ag_iconst dd_M_begin_139 ?_
                    refine ag_iret dd_M_begin_140 rfl ?_
                    have eg : mb_g ts p u o = .inr (3, pr_p ts.tail) := by
                      rw [mb_g, if_neg (by omega), if_neg (by omega), if_pos (by omega), if_pos (by omega), if_pos (by omega)]
                    rw [eg]
                    exact ⟨(show (1 : Int) ≤ 3 ∧ (3 : Int) ≤ 3 by decide), rfl, S15, htk2.2.1, fr_S15, hM⟩
                · exfalso; omega
            · refine ag_iconst dd_M_begin_104 ?_
              refine ag_iret dd_M_begin_105 rfl ?_
              have eg : mb_g ts p u o = .inr (1, pr_p ts.tail) := by
                rw [mb_g, if_neg (by omega), if_neg (by omega), if_pos (by omega), if_neg (by omega)]
              rw [eg]
              exact ⟨(show (1 : Int) ≤ 1 ∧ (1 : Int) ≤ 3 by decide), rfl, S15, htk2.2.1, fr_S15, hM⟩
      · refine ag_iload_n dd_M_begin_81 rfl ?_
        refine ag_iconst dd_M_begin_82 ?_
        refine ag_icmp_eq (tgt := 91) dd_M_begin_83 (by decide) (by omega) (by omega) (fun c25 => ?_) (fun c25 => ?_)
        · exfalso; omega
        · refine ag_iload_n dd_M_begin_86 rfl ?_
          refine ag_iconst dd_M_begin_87 ?_
          refine ag_icmp_ne (tgt := 106) dd_M_begin_88 (by decide) (by omega) (by omega) (fun c26 => ?_) (fun c26 => ?_)
          · refine ag_iload_n dd_M_begin_106 rfl ?_
            refine ag_iconst dd_M_begin_107 ?_
            refine ag_icmp_eq (tgt := 130) dd_M_begin_108 (by decide) (by omega) (by omega) (fun c27 => ?_) (fun c27 => ?_)
            · exfalso; omega
            · refine ag_iload_n dd_M_begin_111 rfl ?_
              refine ag_iconst dd_M_begin_112 ?_
              refine ag_icmp_eq (tgt := 130) dd_M_begin_113 (by decide) (by omega) (by omega) (fun c28 => ?_) (fun c28 => ?_)
              · exfalso; omega
              · refine ag_iload_n dd_M_begin_116 rfl ?_
                refine ag_bipush dd_M_begin_117 (by decide +kernel) ?_
                refine ag_icmp_eq (tgt := 130) dd_M_begin_119 (by decide) (by omega) (by omega) (fun c29 => ?_) (fun c29 => ?_)
                · refine ag_aload_n dd_M_begin_130 rfl ?_
                  refine ag_get dd_M_begin_131 fg_M_274 (mr_38 hM) rfl ?_
                  refine ag_bipush dd_M_begin_134 (by decide +kernel) ?_
                  refine ag_icmp_ne (tgt := 141) dd_M_begin_136 (by decide) (by omega) (by omega) (fun c30 => ?_) (fun c30 => ?_)
                  · refine ag_aload_n dd_M_begin_141 rfl ?_
                    refine ag_dup dd_M_begin_142 rfl ?_
                    refine ag_get dd_M_begin_143 fg_M_274 (mr_38 hM) rfl ?_
                    refine ag_iconst dd_M_begin_146 ?_
                    refine ag_iadd dd_M_begin_147 ?_
                    refine mp_54 dd_M_begin_148 fp_M_274 hM (fun h S31 eS31 hM => ?_)
                    have md_S31 := md_54 md_S eS31
                    have fr_S31 := fr_tr fr_S (fr_put eS31 (by decide))
                    have kt_S31 := kt_tr kt_S (kt_put eS31 (by decide))
                    clear eS31
                    refine ag_aload_n dd_M_begin_151 rfl ?_
                    refine ag_iload_n dd_M_begin_152 rfl ?_
                    refine ag_iconst dd_M_begin_153 ?_
                    refine ag_icmp_ne (tgt := 162) dd_M_begin_154 (by decide) (by omega) (by omega) (fun c32 => ?_) (fun c32 => ?_)
                    · refine ag_iload_n dd_M_begin_162 rfl ?_
                      refine ag_iconst dd_M_begin_163 ?_
                      refine ag_icmp_ne (tgt := 172) dd_M_begin_164 (by decide) (by omega) (by omega) (fun c33 => ?_) (fun c33 => ?_)
                      · refine ag_iload_n dd_M_begin_172 rfl ?_
                        refine ag_bipush dd_M_begin_173 (by decide +kernel) ?_
                        refine ag_icmp_ne (tgt := 183) dd_M_begin_175 (by decide) (by omega) (by omega) (fun c34 => ?_) (fun c34 => ?_)
                        · exfalso; omega
                        · refine ag_bipush dd_M_begin_178 (by decide +kernel) ?_
                          refine ag_goto (tgt := 184) dd_M_begin_180 (by decide) ?_
                          refine ag_wV dd_M_begin_184 fi_M_291 (mr_38 hM) rfl (mc_M_push (d := 1) (by omega) hM md_S31 (by omega) (by omega)) rfl rfl (by omega) (Nat.le_of_ble_eq_true rfl) (fun r1 h hP => ?_)
                          obtain ⟨rfl, S35, md_S35, g1, g2, hM⟩ := hP
                          have fr_S35 := fr_tr fr_S31 g1
                          have kt_S35 := kt_tr kt_S31 g2
                          clear g1 g2
                          refine ag_aload_n dd_M_begin_187 rfl ?_
                          refine ag_wV dd_M_begin_188 fi_M_288 (mr_38 hM) rfl (mc_M_nextToken (d := 2) (by omega) hM hT hn (f := f) (r := r) (by rw [kt_S35 49 (by decide) (by decide)]; exact h49) hr hf (by rw [fr_S35.1 43 (by decide) (by decide)]; exact h43) (by rw [fr_S35.2.1 68 (by decide) (by decide) (by decide)]; exact ht)) rfl rfl (by omega) (Nat.le_of_ble_eq_true rfl) (fun r1 h hP => ?_)
                          obtain ⟨rfl, S36, nx_S36, tk_S36, hM⟩ := hP
                          rw [← htl] at tk_S36
                          have md_S36 := md_nx md_S35 nx_S36
                          have fr_S36 := fr_tr fr_S35 (fr_nx nx_S36)
                          have v54_S36 : S36.1 54 = S35.1 54 := nx_S36.2 54 (by decide)
                          refine ag_iconst dd_M_begin_191 ?_
                          refine ag_iret dd_M_begin_192 rfl ?_
                          have e54 : S.1 54 + 1 = o + 1 := by omega
                          rw [e54] at md_S36
                          have eg : mb_g ts p u o = .inl (ts.tail, 20 :: p, u, o + 1, false) := by
                            rw [mb_g, if_neg (by omega), if_neg (by omega), if_neg (by omega), if_pos (by omega), if_neg (by omega), if_pos (by omega)]
                          rw [eg]
                          exact ⟨rfl, S36, md_S36, tk_S36, fr_S36, hM⟩
                      · exfalso; omega
                    · exfalso; omega
                  · refine ag_iconst dd_M_begin_139 ?_
                    refine ag_iret dd_M_begin_140 rfl ?_
                    have eg : mb_g ts p u o = .inr (3, pr_p ts) := by
                      rw [mb_g, if_neg (by omega), if_neg (by omega), if_neg (by omega), if_pos (by omega), if_pos (by omega)]
                    rw [eg]
                    exact ⟨(show (1 : Int) ≤ 3 ∧ (3 : Int) ≤ 3 by decide), rfl, S, h50, fr_S, hM⟩
                · exfalso; omega
          · exfalso; omega
      · refine ag_iload_n dd_M_begin_81 rfl ?_
        refine ag_iconst dd_M_begin_82 ?_
        refine ag_icmp_eq (tgt := 91) dd_M_begin_83 (by decide) (by omega) (by omega) (fun c37 => ?_) (fun c37 => ?_)
        · exfalso; omega
        · refine ag_iload_n dd_M_begin_86 rfl ?_
          refine ag_iconst dd_M_begin_87 ?_
          refine ag_icmp_ne (tgt := 106) dd_M_begin_88 (by decide) (by omega) (by omega) (fun c38 => ?_) (fun c38 => ?_)
          · refine ag_iload_n dd_M_begin_106 rfl ?_
            refine ag_iconst dd_M_begin_107 ?_
            refine ag_icmp_eq (tgt := 130) dd_M_begin_108 (by decide) (by omega) (by omega) (fun c39 => ?_) (fun c39 => ?_)
            · exfalso; omega
            · refine ag_iload_n dd_M_begin_111 rfl ?_
              refine ag_iconst dd_M_begin_112 ?_
              refine ag_icmp_eq (tgt := 130) dd_M_begin_113 (by decide) (by omega) (by omega) (fun c40 => ?_) (fun c40 => ?_)
              · exfalso; omega
              · refine ag_iload_n dd_M_begin_116 rfl ?_
                refine ag_bipush dd_M_begin_117 (by decide +kernel) ?_
                refine ag_icmp_eq (tgt := 130) dd_M_begin_119 (by decide) (by omega) (by omega) (fun c41 => ?_) (fun c41 => ?_)
                · exfalso; omega
                · refine ag_iload_n dd_M_begin_122 rfl ?_
                  refine ag_bipush dd_M_begin_123 (by decide +kernel) ?_
                  refine ag_icmp_eq (tgt := 130) dd_M_begin_125 (by decide) (by omega) (by omega) (fun c42 => ?_) (fun c42 => ?_)
                  · refine ag_aload_n dd_M_begin_130 rfl ?_
                    refine ag_get dd_M_begin_131 fg_M_274 (mr_38 hM) rfl ?_
                    refine ag_bipush dd_M_begin_134 (by decide +kernel) ?_
                    refine ag_icmp_ne (tgt := 141) dd_M_begin_136 (by decide) (by omega) (by omega) (fun c43 => ?_) (fun c43 => ?_)
                    · refine ag_aload_n dd_M_begin_141 rfl ?_
                      refine ag_dup dd_M_begin_142 rfl ?_
                      refine ag_get dd_M_begin_143 fg_M_274 (mr_38 hM) rfl ?_
                      refine ag_iconst dd_M_begin_146 ?_
                      refine ag_iadd dd_M_begin_147 ?_
                      refine mp_54 dd_M_begin_148 fp_M_274 hM (fun h S44 eS44 hM => ?_)
                      have md_S44 := md_54 md_S eS44
                      have fr_S44 := fr_tr fr_S (fr_put eS44 (by decide))
                      have kt_S44 := kt_tr kt_S (kt_put eS44 (by decide))
                      clear eS44
                      refine ag_aload_n dd_M_begin_151 rfl ?_
                      refine ag_iload_n dd_M_begin_152 rfl ?_
                      refine ag_iconst dd_M_begin_153 ?_
                      refine ag_icmp_ne (tgt := 162) dd_M_begin_154 (by decide) (by omega) (by omega) (fun c45 => ?_) (fun c45 => ?_)
                      · refine ag_iload_n dd_M_begin_162 rfl ?_
                        refine ag_iconst dd_M_begin_163 ?_
                        refine ag_icmp_ne (tgt := 172) dd_M_begin_164 (by decide) (by omega) (by omega) (fun c46 => ?_) (fun c46 => ?_)
                        · refine ag_iload_n dd_M_begin_172 rfl ?_
                          refine ag_bipush dd_M_begin_173 (by decide +kernel) ?_
                          refine ag_icmp_ne (tgt := 183) dd_M_begin_175 (by decide) (by omega) (by omega) (fun c47 => ?_) (fun c47 => ?_)
                          · refine ag_iconst dd_M_begin_183 ?_
                            refine ag_wV dd_M_begin_184 fi_M_291 (mr_38 hM) rfl (mc_M_push (d := 1) (by omega) hM md_S44 (by omega) (by omega)) rfl rfl (by omega) (Nat.le_of_ble_eq_true rfl) (fun r1 h hP => ?_)
                            obtain ⟨rfl, S48, md_S48, g1, g2, hM⟩ := hP
                            have fr_S48 := fr_tr fr_S44 g1
                            have kt_S48 := kt_tr kt_S44 g2
                            clear g1 g2
                            refine ag_aload_n dd_M_begin_187 rfl ?_
                            refine ag_wV dd_M_begin_188 fi_M_288 (mr_38 hM) rfl (mc_M_nextToken (d := 2) (by omega) hM hT hn (f := f) (r := r) (by rw [kt_S48 49 (by decide) (by decide)]; exact h49) hr hf (by rw [fr_S48.1 43 (by decide) (by decide)]; exact h43) (by rw [fr_S48.2.1 68 (by decide) (by decide) (by decide)]; exact ht)) rfl rfl (by omega) (Nat.le_of_ble_eq_true rfl) (fun r1 h hP => ?_)
                            obtain ⟨rfl, S49, nx_S49, tk_S49, hM⟩ := hP
                            rw [← htl] at tk_S49
                            have md_S49 := md_nx md_S48 nx_S49
                            have fr_S49 := fr_tr fr_S48 (fr_nx nx_S49)
                            have v54_S49 : S49.1 54 = S48.1 54 := nx_S49.2 54 (by decide)
                            refine ag_iconst dd_M_begin_191 ?_
                            refine ag_iret dd_M_begin_192 rfl ?_
                            have e54 : S.1 54 + 1 = o + 1 := by omega
                            rw [e54] at md_S49
                            have eg : mb_g ts p u o = .inl (ts.tail, 2 :: p, u, o + 1, false) := by
                              rw [mb_g, if_neg (by omega), if_neg (by omega), if_neg (by omega), if_pos (by omega), if_neg (by omega), if_neg (by omega)]
                            rw [eg]
                            exact ⟨rfl, S49, md_S49, tk_S49, fr_S49, hM⟩
                          · exfalso; omega
                        · exfalso; omega
                      · exfalso; omega
                    · refine ag_iconst dd_M_begin_139 ?_
                      refine ag_iret dd_M_begin_140 rfl ?_
                      have eg : mb_g ts p u o = .inr (3, pr_p ts) := by
                        rw [mb_g, if_neg (by omega), if_neg (by omega), if_neg (by omega), if_pos (by omega), if_pos (by omega)]
                      rw [eg]
                      exact ⟨(show (1 : Int) ≤ 3 ∧ (3 : Int) ≤ 3 by decide), rfl, S, h50, fr_S, hM⟩
                  · exfalso; omega
          · exfalso; omega
      · refine ag_iload_n dd_M_begin_81 rfl ?_
        refine ag_iconst dd_M_begin_82 ?_
        refine ag_icmp_eq (tgt := 91) dd_M_begin_83 (by decide) (by omega) (by omega) (fun c50 => ?_) (fun c50 => ?_)
        · exfalso; omega
        · refine ag_iload_n dd_M_begin_86 rfl ?_
          refine ag_iconst dd_M_begin_87 ?_
          refine ag_icmp_ne (tgt := 106) dd_M_begin_88 (by decide) (by omega) (by omega) (fun c51 => ?_) (fun c51 => ?_)
          · refine ag_iload_n dd_M_begin_106 rfl ?_
            refine ag_iconst dd_M_begin_107 ?_
            refine ag_icmp_eq (tgt := 130) dd_M_begin_108 (by decide) (by omega) (by omega) (fun c52 => ?_) (fun c52 => ?_)
            · exfalso; omega
            · refine ag_iload_n dd_M_begin_111 rfl ?_
              refine ag_iconst dd_M_begin_112 ?_
              refine ag_icmp_eq (tgt := 130) dd_M_begin_113 (by decide) (by omega) (by omega) (fun c53 => ?_) (fun c53 => ?_)
              · exfalso; omega
              · refine ag_iload_n dd_M_begin_116 rfl ?_
                refine ag_bipush dd_M_begin_117 (by decide +kernel) ?_
                refine ag_icmp_eq (tgt := 130) dd_M_begin_119 (by decide) (by omega) (by omega) (fun c54 => ?_) (fun c54 => ?_)
                · exfalso; omega
                · refine ag_iload_n dd_M_begin_122 rfl ?_
                  refine ag_bipush dd_M_begin_123 (by decide +kernel) ?_
                  refine ag_icmp_eq (tgt := 130) dd_M_begin_125 (by decide) (by omega) (by omega) (fun c55 => ?_) (fun c55 => ?_)
                  · exfalso; omega
                  · refine ag_iconst dd_M_begin_128 ?_
                    refine ag_iret dd_M_begin_129 rfl ?_
                    have eg : mb_g ts p u o = .inr (1, pr_p ts) := by
                      rw [mb_g, if_neg (by omega), if_neg (by omega), if_neg (by omega), if_neg (by omega)]
                    rw [eg]
                    exact ⟨(show (1 : Int) ≤ 1 ∧ (1 : Int) ≤ 3 by decide), rfl, S, h50, fr_S, hM⟩
          · exfalso; omega
    · refine ag_aload_n dd_M_begin_52 rfl ?_
      refine ag_iconst dd_M_begin_53 ?_
      refine ag_aload_n dd_M_begin_54 rfl ?_
      refine ag_get dd_M_begin_55 fg_M_256 (mr_38 hM) rfl ?_
      refine ag_wV dd_M_begin_58 fi_M_277 (mr_38 hM) rfl (mc_M_emit (d := 1) (by omega) hM md_S (by omega)) rfl rfl (by omega) (Nat.le_of_ble_eq_true rfl) (fun r1 h hP => ?_)
      obtain ⟨rfl, S56, md_S56, g1, g2, hM⟩ := hP
      have fr_S56 := fr_tr fr_S g1
      have kt_S56 := kt_tr kt_S g2
      clear g1 g2
      refine ag_aload_n dd_M_begin_61 rfl ?_
      refine ag_wV dd_M_begin_62 fi_M_281 (mr_38 hM) rfl (mc_M_whole (d := 1) (by omega) hM md_S56 (by rw [List.length_append, List.length_singleton]; omega)) rfl rfl (by omega) (Nat.le_of_ble_eq_true rfl) (fun r1 h hP => ?_)
      obtain ⟨rfl, S57, md_S57, g1, g2, hM⟩ := hP
      have fr_S57 := fr_tr fr_S56 g1
      have kt_S57 := kt_tr kt_S56 g2
      clear g1 g2
      refine ag_aload_n dd_M_begin_65 rfl ?_
      refine ag_iconst dd_M_begin_66 ?_
      refine mp_57 dd_M_begin_67 fp_M_284 hM (by first | exact Or.inl rfl | exact Or.inr rfl | omega) (fun h S58 eS58 hM => ?_)
      have md_S58 := md_57 md_S57 eS58
      have fr_S58 := fr_tr fr_S57 (fr_put eS58 (by decide))
      have kt_S58 := kt_tr kt_S57 (kt_put eS58 (by decide))
      clear eS58
      refine ag_aload_n dd_M_begin_70 rfl ?_
      refine ag_wV dd_M_begin_71 fi_M_288 (mr_38 hM) rfl (mc_M_nextToken (d := 2) (by omega) hM hT hn (f := f) (r := r) (by rw [kt_S58 49 (by decide) (by decide)]; exact h49) hr hf (by rw [fr_S58.1 43 (by decide) (by decide)]; exact h43) (by rw [fr_S58.2.1 68 (by decide) (by decide) (by decide)]; exact ht)) rfl rfl (by omega) (Nat.le_of_ble_eq_true rfl) (fun r1 h hP => ?_)
      obtain ⟨rfl, S59, nx_S59, tk_S59, hM⟩ := hP
      rw [← htl] at tk_S59
      have md_S59 := md_nx md_S58 nx_S59
      have fr_S59 := fr_tr fr_S58 (fr_nx nx_S59)
      have v54_S59 : S59.1 54 = S58.1 54 := nx_S59.2 54 (by decide)
      refine ag_iconst dd_M_begin_74 ?_
      refine ag_iret dd_M_begin_75 rfl ?_
      have e52 : S.1 52 = pr_ix (pr_h ts) := by omega
      rw [e52] at md_S59
      have eg : mb_g ts p u o = .inl (mw_c ts.tail p (u ++ [(1, pr_ix (pr_h ts))]) o) := by
        rw [mb_g, if_neg (by omega), if_pos (by omega)]
      rw [eg]
      exact ⟨rfl, S59, md_S59, tk_S59, fr_S59, hM⟩
  · refine ag_aload_n dd_M_begin_8 rfl ?_
    refine ag_get dd_M_begin_9 fg_M_256 (mr_38 hM) rfl ?_
    refine ag_sipush dd_M_begin_12 (by decide +kernel) ?_
    refine ag_icmp_le (tgt := 20) dd_M_begin_15 (by decide) (by omega) (by omega) (fun c60 => ?_) (fun c60 => ?_)
    · refine ag_aload_n dd_M_begin_20 rfl ?_
      refine ag_iconst dd_M_begin_21 ?_
      refine ag_aload_n dd_M_begin_22 rfl ?_
      refine ag_get dd_M_begin_23 fg_M_256 (mr_38 hM) rfl ?_
      refine ag_wV dd_M_begin_26 fi_M_277 (mr_38 hM) rfl (mc_M_emit (d := 1) (by omega) hM md_S (by omega)) rfl rfl (by omega) (Nat.le_of_ble_eq_true rfl) (fun r1 h hP => ?_)
      obtain ⟨rfl, S61, md_S61, g1, g2, hM⟩ := hP
      have fr_S61 := fr_tr fr_S g1
      have kt_S61 := kt_tr kt_S g2
      clear g1 g2
      refine ag_aload_n dd_M_begin_29 rfl ?_
      refine ag_wV dd_M_begin_30 fi_M_281 (mr_38 hM) rfl (mc_M_whole (d := 1) (by omega) hM md_S61 (by rw [List.length_append, List.length_singleton]; omega)) rfl rfl (by omega) (Nat.le_of_ble_eq_true rfl) (fun r1 h hP => ?_)
      obtain ⟨rfl, S62, md_S62, g1, g2, hM⟩ := hP
      have fr_S62 := fr_tr fr_S61 g1
      have kt_S62 := kt_tr kt_S61 g2
      clear g1 g2
      refine ag_aload_n dd_M_begin_33 rfl ?_
      refine ag_iconst dd_M_begin_34 ?_
      refine mp_57 dd_M_begin_35 fp_M_284 hM (by first | exact Or.inl rfl | exact Or.inr rfl | omega) (fun h S63 eS63 hM => ?_)
      have md_S63 := md_57 md_S62 eS63
      have fr_S63 := fr_tr fr_S62 (fr_put eS63 (by decide))
      have kt_S63 := kt_tr kt_S62 (kt_put eS63 (by decide))
      clear eS63
      refine ag_aload_n dd_M_begin_38 rfl ?_
      refine ag_wV dd_M_begin_39 fi_M_288 (mr_38 hM) rfl (mc_M_nextToken (d := 2) (by omega) hM hT hn (f := f) (r := r) (by rw [kt_S63 49 (by decide) (by decide)]; exact h49) hr hf (by rw [fr_S63.1 43 (by decide) (by decide)]; exact h43) (by rw [fr_S63.2.1 68 (by decide) (by decide) (by decide)]; exact ht)) rfl rfl (by omega) (Nat.le_of_ble_eq_true rfl) (fun r1 h hP => ?_)
      obtain ⟨rfl, S64, nx_S64, tk_S64, hM⟩ := hP
      rw [← htl] at tk_S64
      have md_S64 := md_nx md_S63 nx_S64
      have fr_S64 := fr_tr fr_S63 (fr_nx nx_S64)
      have v54_S64 : S64.1 54 = S63.1 54 := nx_S64.2 54 (by decide)
      refine ag_iconst dd_M_begin_42 ?_
      refine ag_iret dd_M_begin_43 rfl ?_
      have e52 : S.1 52 = pr_h ts - 1000 := by omega
      rw [e52] at md_S64
      have eg : mb_g ts p u o = .inl (mw_c ts.tail p (u ++ [(0, pr_h ts - 1000)]) o) := by
        rw [mb_g, if_pos (by omega), if_neg (by omega)]
      rw [eg]
      exact ⟨rfl, S64, md_S64, tk_S64, fr_S64, hM⟩
    · refine ag_iconst dd_M_begin_18 ?_
      refine ag_iret dd_M_begin_19 rfl ?_
      have eg : mb_g ts p u o = .inr (2, pr_p ts) := by
        rw [mb_g, if_pos (by omega), if_pos (by omega)]
      rw [eg]
      exact ⟨(show (1 : Int) ≤ 2 ∧ (2 : Int) ≤ 3 by decide), rfl, S, h50, fr_S, hM⟩
set_option maxHeartbeats 1000000 in
theorem mc_M_behind {w : aw_T} {h0 h : ah_T} {S : ms_T} {d : Nat} (hd : 3 ≤ d) (hM : mo_I h0 h S) {T : Nat → Int} (hT : ∀ i, 0 ≤ T i ∧ T i ≤ 255) {n : Nat} (hn : n ≤ 100) (h43 : S.1 43 = (n : Int)) (ht : S.2 68 = T) {ts : List tk_T} {p : List Int} {u : List (Int × Int)} {o : Int} (htk : tk_R T n S ts) (hh : pr_h ts ≠ 0) (hb : bd_ ts p u o) (md_S : md_ S p u o 1) : am_M w mm_M_behind d [av_r 38] h 0 0 (ps_ T n h0 S (mb_h ts p u o)) := by
  refine am_intro [some (av_r 38), none] (by decide +kernel) (Nat.le_of_ble_eq_true rfl) rfl ?_
  obtain ⟨hne, h50, htc, hrd⟩ := htk
  obtain ⟨r, f, h49, hr, hf, htl⟩ := hrd hh
  clear hrd
  unfold tc_ at htc
  have hix := pr_ix_s (pr_h ts)
  unfold bd_ at hb
  have hl := pr_h_len hh
  have fr_S := fr_rf S
  have kt_S := kt_rf S
  have v54 := md_S.2.2.1
  have hk3 := mt_len 3 p u
  have hk5 := mt_len 5 p u
  refine ag_aload_n dd_M_behind_0 rfl ?_
  refine ag_get dd_M_behind_1 fg_M_250 (mr_38 hM) rfl ?_
  refine ag_istore_nN (Lf := fun y => [some (av_r 38), some (av_i (y))]) dd_M_behind_4 (fun _ => rfl) rfl (by decide) (fun y1 ey1 => ?_)
  rcases (show y1 = 43 ∨ y1 = 45 ∨ y1 = 42 ∨ y1 = 47 ∨ y1 = 44 ∨ y1 = 41 ∨ (y1 ≠ 43 ∧ y1 ≠ 45 ∧ y1 ≠ 42 ∧ y1 ≠ 47 ∧ y1 ≠ 44 ∧ y1 ≠ 41) by omega) with w1 | w1 | w1 | w1 | w1 | w1 | w1
  · refine ag_iload_n dd_M_behind_5 rfl ?_
    refine ag_bipush dd_M_behind_6 (by decide +kernel) ?_
    refine ag_icmp_eq (tgt := 17) dd_M_behind_8 (by decide) (by omega) (by omega) (fun c2 => ?_) (fun c2 => ?_)
    · refine ag_aload_n dd_M_behind_17 rfl ?_
      refine ag_iconst dd_M_behind_18 ?_
      refine ag_wV dd_M_behind_19 fi_M_294 (mr_38 hM) rfl (mc_M_settle (d := 1) (by omega) hM md_S (l := 3) (by omega) (by omega)) rfl rfl (by omega) (Nat.le_of_ble_eq_true rfl) (fun r1 h hP => ?_)
      obtain ⟨rfl, S3, md_S3, g1, g2, hM⟩ := hP
      have fr_S3 := fr_tr fr_S g1
      have kt_S3 := kt_tr kt_S g2
      clear g1 g2
      refine ag_aload_n dd_M_behind_22 rfl ?_
      refine ag_iload_n dd_M_behind_23 rfl ?_
      refine ag_bipush dd_M_behind_24 (by decide +kernel) ?_
      refine ag_icmp_ne (tgt := 33) dd_M_behind_26 (by decide) (by omega) (by omega) (fun c4 => ?_) (fun c4 => ?_)
      · exfalso; omega
      · refine ag_iconst dd_M_behind_29 ?_
        refine ag_goto (tgt := 34) dd_M_behind_30 (by decide) ?_
        refine ag_wV dd_M_behind_34 fi_M_291 (mr_38 hM) rfl (mc_M_push (d := 1) (by omega) hM md_S3 (by omega) (by omega)) rfl rfl (by omega) (Nat.le_of_ble_eq_true rfl) (fun r1 h hP => ?_)
        obtain ⟨rfl, S5, md_S5, g1, g2, hM⟩ := hP
        have fr_S5 := fr_tr fr_S3 g1
        have kt_S5 := kt_tr kt_S3 g2
        clear g1 g2
        refine ag_aload_n dd_M_behind_37 rfl ?_
        refine ag_iconst dd_M_behind_38 ?_
        refine mp_57 dd_M_behind_39 fp_M_284 hM (by first | exact Or.inl rfl | exact Or.inr rfl | omega) (fun h S6 eS6 hM => ?_)
        have md_S6 := md_57 md_S5 eS6
        have fr_S6 := fr_tr fr_S5 (fr_put eS6 (by decide))
        have kt_S6 := kt_tr kt_S5 (kt_put eS6 (by decide))
        clear eS6
        refine ag_goto (tgt := 282) dd_M_behind_42 (by decide) ?_
        refine ag_aload_n dd_M_behind_282 rfl ?_
        refine ag_wV dd_M_behind_283 fi_M_288 (mr_38 hM) rfl (mc_M_nextToken (d := 2) (by omega) hM hT hn (f := f) (r := r) (by rw [kt_S6 49 (by decide) (by decide)]; exact h49) hr hf (by rw [fr_S6.1 43 (by decide) (by decide)]; exact h43) (by rw [fr_S6.2.1 68 (by decide) (by decide) (by decide)]; exact ht)) rfl rfl (by omega) (Nat.le_of_ble_eq_true rfl) (fun r1 h hP => ?_)
        obtain ⟨rfl, S7, nx_S7, tk_S7, hM⟩ := hP
        rw [← htl] at tk_S7
        have md_S7 := md_nx md_S6 nx_S7
        have fr_S7 := fr_tr fr_S6 (fr_nx nx_S7)
        have v54_S7 : S7.1 54 = S6.1 54 := nx_S7.2 54 (by decide)
        refine ag_iconst dd_M_behind_286 ?_
        refine ag_iret dd_M_behind_287 rfl ?_
        have eg : mb_h ts p u o = .inl (ts.tail, 3 :: (mt_ 3 p u).1, (mt_ 3 p u).2, o, false) := by
          rw [mb_h, if_pos (by omega), if_pos (by omega)]
        rw [eg]
        exact ⟨rfl, S7, md_S7, tk_S7, fr_S7, hM⟩
    · exfalso; omega
  · refine ag_iload_n dd_M_behind_5 rfl ?_
    refine ag_bipush dd_M_behind_6 (by decide +kernel) ?_
    refine ag_icmp_eq (tgt := 17) dd_M_behind_8 (by decide) (by omega) (by omega) (fun c8 => ?_) (fun c8 => ?_)
    · exfalso; omega
    · refine ag_iload_n dd_M_behind_11 rfl ?_
      refine ag_bipush dd_M_behind_12 (by decide +kernel) ?_
      refine ag_icmp_ne (tgt := 45) dd_M_behind_14 (by decide) (by omega) (by omega) (fun c9 => ?_) (fun c9 => ?_)
      · exfalso; omega
      · refine ag_aload_n dd_M_behind_17 rfl ?_
        refine ag_iconst dd_M_behind_18 ?_
        refine ag_wV dd_M_behind_19 fi_M_294 (mr_38 hM) rfl (mc_M_settle (d := 1) (by omega) hM md_S (l := 3) (by omega) (by omega)) rfl rfl (by omega) (Nat.le_of_ble_eq_true rfl) (fun r1 h hP => ?_)
        obtain ⟨rfl, S10, md_S10, g1, g2, hM⟩ := hP
        have fr_S10 := fr_tr fr_S g1
        have kt_S10 := kt_tr kt_S g2
        clear g1 g2
        refine ag_aload_n dd_M_behind_22 rfl ?_
        refine ag_iload_n dd_M_behind_23 rfl ?_
        refine ag_bipush dd_M_behind_24 (by decide +kernel) ?_
        refine ag_icmp_ne (tgt := 33) dd_M_behind_26 (by decide) (by omega) (by omega) (fun c11 => ?_) (fun c11 => ?_)
        · refine ag_iconst dd_M_behind_33 ?_
          refine ag_wV dd_M_behind_34 fi_M_291 (mr_38 hM) rfl (mc_M_push (d := 1) (by omega) hM md_S10 (by omega) (by omega)) rfl rfl (by omega) (Nat.le_of_ble_eq_true rfl) (fun r1 h hP => ?_)
          obtain ⟨rfl, S12, md_S12, g1, g2, hM⟩ := hP
          have fr_S12 := fr_tr fr_S10 g1
          have kt_S12 := kt_tr kt_S10 g2
          clear g1 g2
          refine ag_aload_n dd_M_behind_37 rfl ?_
          refine ag_iconst dd_M_behind_38 ?_
          refine mp_57 dd_M_behind_39 fp_M_284 hM (by first | exact Or.inl rfl | exact Or.inr rfl | omega) (fun h S13 eS13 hM => ?_)
          have md_S13 := md_57 md_S12 eS13
          have fr_S13 := fr_tr fr_S12 (fr_put eS13 (by decide))
          have kt_S13 := kt_tr kt_S12 (kt_put eS13 (by decide))
          clear eS13
          refine ag_goto (tgt := 282) dd_M_behind_42 (by decide) ?_
          refine ag_aload_n dd_M_behind_282 rfl ?_
          refine ag_wV dd_M_behind_283 fi_M_288 (mr_38 hM) rfl (mc_M_nextToken (d := 2) (by omega) hM hT hn (f := f) (r := r) (by rw [kt_S13 49 (by decide) (by decide)]; exact h49) hr hf (by rw [fr_S13.1 43 (by decide) (by decide)]; exact h43) (by rw [fr_S13.2.1 68 (by decide) (by decide) (by decide)]; exact ht)) rfl rfl (by omega) (Nat.le_of_ble_eq_true rfl) (fun r1 h hP => ?_)
          obtain ⟨rfl, S14, nx_S14, tk_S14, hM⟩ := hP
          rw [← htl] at tk_S14
          have md_S14 := md_nx md_S13 nx_S14
          have fr_S14 := fr_tr fr_S13 (fr_nx nx_S14)
          have v54_S14 : S14.1 54 = S13.1 54 := nx_S14.2 54 (by decide)
          refine ag_iconst dd_M_behind_286 ?_
          refine ag_iret dd_M_behind_287 rfl ?_
          have eg : mb_h ts p u o = .inl (ts.tail, 4 :: (mt_ 3 p u).1, (mt_ 3 p u).2, o, false) := by
            rw [mb_h, if_pos (by omega), if_neg (by omega)]
          rw [eg]
          exact ⟨rfl, S14, md_S14, tk_S14, fr_S14, hM⟩
        · exfalso; omega
  · refine ag_iload_n dd_M_behind_5 rfl ?_
    refine ag_bipush dd_M_behind_6 (by decide +kernel) ?_
    refine ag_icmp_eq (tgt := 17) dd_M_behind_8 (by decide) (by omega) (by omega) (fun c15 => ?_) (fun c15 => ?_)
    · exfalso; omega
    · refine ag_iload_n dd_M_behind_11 rfl ?_
      refine ag_bipush dd_M_behind_12 (by decide +kernel) ?_
      refine ag_icmp_ne (tgt := 45) dd_M_behind_14 (by decide) (by omega) (by omega) (fun c16 => ?_) (fun c16 => ?_)
      · refine ag_iload_n dd_M_behind_45 rfl ?_
        refine ag_bipush dd_M_behind_46 (by decide +kernel) ?_
        refine ag_icmp_eq (tgt := 57) dd_M_behind_48 (by decide) (by omega) (by omega) (fun c17 => ?_) (fun c17 => ?_)
        · refine ag_aload_n dd_M_behind_57 rfl ?_
          refine ag_iconst dd_M_behind_58 ?_
          refine ag_wV dd_M_behind_59 fi_M_294 (mr_38 hM) rfl (mc_M_settle (d := 1) (by omega) hM md_S (l := 5) (by omega) (by omega)) rfl rfl (by omega) (Nat.le_of_ble_eq_true rfl) (fun r1 h hP => ?_)
          obtain ⟨rfl, S18, md_S18, g1, g2, hM⟩ := hP
          have fr_S18 := fr_tr fr_S g1
          have kt_S18 := kt_tr kt_S g2
          clear g1 g2
          refine ag_aload_n dd_M_behind_62 rfl ?_
          refine ag_iload_n dd_M_behind_63 rfl ?_
          refine ag_bipush dd_M_behind_64 (by decide +kernel) ?_
          refine ag_icmp_ne (tgt := 73) dd_M_behind_66 (by decide) (by omega) (by omega) (fun c19 => ?_) (fun c19 => ?_)
          · exfalso; omega
          · refine ag_iconst dd_M_behind_69 ?_
            refine ag_goto (tgt := 75) dd_M_behind_70 (by decide) ?_
            refine ag_wV dd_M_behind_75 fi_M_291 (mr_38 hM) rfl (mc_M_push (d := 1) (by omega) hM md_S18 (by omega) (by omega)) rfl rfl (by omega) (Nat.le_of_ble_eq_true rfl) (fun r1 h hP => ?_)
            obtain ⟨rfl, S20, md_S20, g1, g2, hM⟩ := hP
            have fr_S20 := fr_tr fr_S18 g1
            have kt_S20 := kt_tr kt_S18 g2
            clear g1 g2
            refine ag_aload_n dd_M_behind_78 rfl ?_
            refine ag_iconst dd_M_behind_79 ?_
            refine mp_57 dd_M_behind_80 fp_M_284 hM (by first | exact Or.inl rfl | exact Or.inr rfl | omega) (fun h S21 eS21 hM => ?_)
            have md_S21 := md_57 md_S20 eS21
            have fr_S21 := fr_tr fr_S20 (fr_put eS21 (by decide))
            have kt_S21 := kt_tr kt_S20 (kt_put eS21 (by decide))
            clear eS21
            refine ag_goto (tgt := 282) dd_M_behind_83 (by decide) ?_
            refine ag_aload_n dd_M_behind_282 rfl ?_
            refine ag_wV dd_M_behind_283 fi_M_288 (mr_38 hM) rfl (mc_M_nextToken (d := 2) (by omega) hM hT hn (f := f) (r := r) (by rw [kt_S21 49 (by decide) (by decide)]; exact h49) hr hf (by rw [fr_S21.1 43 (by decide) (by decide)]; exact h43) (by rw [fr_S21.2.1 68 (by decide) (by decide) (by decide)]; exact ht)) rfl rfl (by omega) (Nat.le_of_ble_eq_true rfl) (fun r1 h hP => ?_)
            obtain ⟨rfl, S22, nx_S22, tk_S22, hM⟩ := hP
            rw [← htl] at tk_S22
            have md_S22 := md_nx md_S21 nx_S22
            have fr_S22 := fr_tr fr_S21 (fr_nx nx_S22)
            have v54_S22 : S22.1 54 = S21.1 54 := nx_S22.2 54 (by decide)
            refine ag_iconst dd_M_behind_286 ?_
            refine ag_iret dd_M_behind_287 rfl ?_
            have eg : mb_h ts p u o = .inl (ts.tail, 5 :: (mt_ 5 p u).1, (mt_ 5 p u).2, o, false) := by
              rw [mb_h, if_neg (by omega), if_pos (by omega), if_pos (by omega)]
            rw [eg]
            exact ⟨rfl, S22, md_S22, tk_S22, fr_S22, hM⟩
        · exfalso; omega
      · exfalso; omega
  · refine ag_iload_n dd_M_behind_5 rfl ?_
    refine ag_bipush dd_M_behind_6 (by decide +kernel) ?_
    refine ag_icmp_eq (tgt := 17) dd_M_behind_8 (by decide) (by omega) (by omega) (fun c23 => ?_) (fun c23 => ?_)
    · exfalso; omega
    · refine ag_iload_n dd_M_behind_11 rfl ?_
      refine ag_bipush dd_M_behind_12 (by decide +kernel) ?_
      refine ag_icmp_ne (tgt := 45) dd_M_behind_14 (by decide) (by omega) (by omega) (fun c24 => ?_) (fun c24 => ?_)
      · refine ag_iload_n dd_M_behind_45 rfl ?_
        refine ag_bipush dd_M_behind_46 (by decide +kernel) ?_
        refine ag_icmp_eq (tgt := 57) dd_M_behind_48 (by decide) (by omega) (by omega) (fun c25 => ?_) (fun c25 => ?_)
        · exfalso; omega
        · refine ag_iload_n dd_M_behind_51 rfl ?_
          refine ag_bipush dd_M_behind_52 (by decide +kernel) ?_
          refine ag_icmp_ne (tgt := 86) dd_M_behind_54 (by decide) (by omega) (by omega) (fun c26 => ?_) (fun c26 => ?_)
          · exfalso; omega
          · refine ag_aload_n dd_M_behind_57 rfl ?_
            refine ag_iconst dd_M_behind_58 ?_
            refine ag_wV dd_M_behind_59 fi_M_294 (mr_38 hM) rfl (mc_M_settle (d := 1) (by omega) hM md_S (l := 5) (by omega) (by omega)) rfl rfl (by omega) (Nat.le_of_ble_eq_true rfl) (fun r1 h hP => ?_)
            obtain ⟨rfl, S27, md_S27, g1, g2, hM⟩ := hP
            have fr_S27 := fr_tr fr_S g1
            have kt_S27 := kt_tr kt_S g2
            clear g1 g2
            refine ag_aload_n dd_M_behind_62 rfl ?_
            refine ag_iload_n dd_M_behind_63 rfl ?_
            refine ag_bipush dd_M_behind_64 (by decide +kernel) ?_
            refine ag_icmp_ne (tgt := 73) dd_M_behind_66 (by decide) (by omega) (by omega) (fun c28 => ?_) (fun c28 => ?_)
            · refine ag_bipush dd_M_behind_73 (by decide +kernel) ?_
              refine ag_wV dd_M_behind_75 fi_M_291 (mr_38 hM) rfl (mc_M_push (d := 1) (by omega) hM md_S27 (by omega) (by omega)) rfl rfl (by omega) (Nat.le_of_ble_eq_true rfl) (fun r1 h hP => ?_)
              obtain ⟨rfl, S29, md_S29, g1, g2, hM⟩ := hP
              have fr_S29 := fr_tr fr_S27 g1
              have kt_S29 := kt_tr kt_S27 g2
              clear g1 g2
              refine ag_aload_n dd_M_behind_78 rfl ?_
              refine ag_iconst dd_M_behind_79 ?_
              refine mp_57 dd_M_behind_80 fp_M_284 hM (by first | exact Or.inl rfl | exact Or.inr rfl | omega) (fun h S30 eS30 hM => ?_)
              have md_S30 := md_57 md_S29 eS30
              have fr_S30 := fr_tr fr_S29 (fr_put eS30 (by decide))
              have kt_S30 := kt_tr kt_S29 (kt_put eS30 (by decide))
              clear eS30
              refine ag_goto (tgt := 282) dd_M_behind_83 (by decide) ?_
              refine ag_aload_n dd_M_behind_282 rfl ?_
              refine ag_wV dd_M_behind_283 fi_M_288 (mr_38 hM) rfl (mc_M_nextToken (d := 2) (by omega) hM hT hn (f := f) (r := r) (by rw [kt_S30 49 (by decide) (by decide)]; exact h49) hr hf (by rw [fr_S30.1 43 (by decide) (by decide)]; exact h43) (by rw [fr_S30.2.1 68 (by decide) (by decide) (by decide)]; exact ht)) rfl rfl (by omega) (Nat.le_of_ble_eq_true rfl) (fun r1 h hP => ?_)
              obtain ⟨rfl, S31, nx_S31, tk_S31, hM⟩ := hP
              rw [← htl] at tk_S31
              have md_S31 := md_nx md_S30 nx_S31
              have fr_S31 := fr_tr fr_S30 (fr_nx nx_S31)
              have v54_S31 : S31.1 54 = S30.1 54 := nx_S31.2 54 (by decide)
              refine ag_iconst dd_M_behind_286 ?_
              refine ag_iret dd_M_behind_287 rfl ?_
              have eg : mb_h ts p u o = .inl (ts.tail, 6 :: (mt_ 5 p u).1, (mt_ 5 p u).2, o, false) := by
                rw [mb_h, if_neg (by omega), if_pos (by omega), if_neg (by omega)]
              rw [eg]
              exact ⟨rfl, S31, md_S31, tk_S31, fr_S31, hM⟩
            · exfalso; omega
      · exfalso; omega
  · refine ag_iload_n dd_M_behind_5 rfl ?_
    refine ag_bipush dd_M_behind_6 (by decide +kernel) ?_
    refine ag_icmp_eq (tgt := 17) dd_M_behind_8 (by decide) (by omega) (by omega) (fun c32 => ?_) (fun c32 => ?_)
    · exfalso; omega
    · refine ag_iload_n dd_M_behind_11 rfl ?_
      refine ag_bipush dd_M_behind_12 (by decide +kernel) ?_
      refine ag_icmp_ne (tgt := 45) dd_M_behind_14 (by decide) (by omega) (by omega) (fun c33 => ?_) (fun c33 => ?_)
      · refine ag_iload_n dd_M_behind_45 rfl ?_
        refine ag_bipush dd_M_behind_46 (by decide +kernel) ?_
        refine ag_icmp_eq (tgt := 57) dd_M_behind_48 (by decide) (by omega) (by omega) (fun c34 => ?_) (fun c34 => ?_)
        · exfalso; omega
        · refine ag_iload_n dd_M_behind_51 rfl ?_
          refine ag_bipush dd_M_behind_52 (by decide +kernel) ?_
          refine ag_icmp_ne (tgt := 86) dd_M_behind_54 (by decide) (by omega) (by omega) (fun c35 => ?_) (fun c35 => ?_)
          · refine ag_iload_n dd_M_behind_86 rfl ?_
            refine ag_bipush dd_M_behind_87 (by decide +kernel) ?_
            refine ag_icmp_ne (tgt := 161) dd_M_behind_89 (by decide) (by omega) (by omega) (fun c36 => ?_) (fun c36 => ?_)
            · exfalso; omega
            · refine ag_aload_n dd_M_behind_92 rfl ?_
              refine ag_iconst dd_M_behind_93 ?_
              refine ag_wV dd_M_behind_94 fi_M_294 (mr_38 hM) rfl (mc_M_settle (d := 1) (by omega) hM md_S (l := 3) (by omega) (by omega)) rfl rfl (by omega) (Nat.le_of_ble_eq_true rfl) (fun r1 h hP => ?_)
              obtain ⟨rfl, S37, md_S37, g1, g2, hM⟩ := hP
              have fr_S37 := fr_tr fr_S g1
              have kt_S37 := kt_tr kt_S g2
              clear g1 g2
              obtain ⟨P, U, hPU⟩ : ∃ P U, mt_ 3 p u = (P, U) := ⟨_, _, rfl⟩
              rw [hPU] at md_S37 hk3
              dsimp only at md_S37 hk3
              have hk3a : P.length + U.length = p.length + u.length := hk3.1
              have md55 := md_S37.1.1
              cases P with
              | nil =>
                rw [List.length_nil] at md55
                refine ag_aload_n dd_M_behind_97 rfl ?_
                refine ag_get dd_M_behind_98 fg_M_271 (mr_38 hM) rfl ?_
                refine ag_if_eq (tgt := 136) dd_M_behind_101 (by decide) (by omega) (fun c38 => ?_) (fun c38 => ?_)
                · refine ag_iconst dd_M_behind_136 ?_
                  refine ag_iret dd_M_behind_137 rfl ?_
                  have eg : mb_h ts p u o = .inr (1, pr_p ts) := by
                    rw [mb_h, if_neg (by omega), if_neg (by omega), if_pos (by omega), hPU]
                  rw [eg]
                  exact ⟨(show (1 : Int) ≤ 1 ∧ (1 : Int) ≤ 3 by decide), rfl, S37, (kt_S37 50 (by decide) (by decide)).trans h50, fr_S37, hM⟩
                · exfalso; omega
              | cons a P =>
                have htop := md_top md_S37
                rw [List.length_cons] at hk3a
                refine ag_aload_n dd_M_behind_97 rfl ?_
                refine ag_get dd_M_behind_98 fg_M_271 (mr_38 hM) rfl ?_
                refine ag_if_eq (tgt := 136) dd_M_behind_101 (by decide) (by omega) (fun c39 => ?_) (fun c39 => ?_)
                · exfalso; omega
                · refine ag_aload_n dd_M_behind_104 rfl ?_
                  refine ag_get dd_M_behind_105 fg_M_131 (mr_38 hM) rfl ?_
                  refine ag_aload_n dd_M_behind_108 rfl ?_
                  refine ag_get dd_M_behind_109 fg_M_271 (mr_38 hM) rfl ?_
                  refine ag_iconst dd_M_behind_112 ?_
                  refine ag_isub dd_M_behind_113 ?_
                  refine ag_iald dd_M_behind_114 (mr_71 hM) (by decide) (by omega) ?_
                  refine ag_bipush dd_M_behind_115 (by decide +kernel) ?_
                  refine ag_icmp_eq (tgt := 138) dd_M_behind_117 (by decide) (by omega) (by omega) (fun c40 => ?_) (fun c40 => ?_)
                  · refine ag_aload_n dd_M_behind_138 rfl ?_
                    refine ag_get dd_M_behind_139 fg_M_131 (mr_38 hM) rfl ?_
                    refine ag_aload_n dd_M_behind_142 rfl ?_
                    refine ag_get dd_M_behind_143 fg_M_271 (mr_38 hM) rfl ?_
                    refine ag_iconst dd_M_behind_146 ?_
                    refine ag_isub dd_M_behind_147 ?_
                    refine ag_dup2 dd_M_behind_148 rfl rfl ?_
                    refine ag_iald dd_M_behind_149 (mr_71 hM) (by decide) (by omega) ?_
                    refine ag_iconst dd_M_behind_150 ?_
                    refine ag_iadd dd_M_behind_151 ?_
                    refine ms_71 dd_M_behind_152 hM (by omega) (fun h S41 eS41 hM => ?_)
                    have hms := md_set md_S37 (v := S37.2 71 (S37.1 55 - 1).toNat + 2) (by omega) eS41
                    rw [htop.2.1] at hms
                    have md_S41 := hms.1
                    have fr_S41 := fr_tr fr_S37 hms.2.1
                    have kt_S41 := kt_tr kt_S37 hms.2.2
                    clear eS41
                    refine ag_aload_n dd_M_behind_153 rfl ?_
                    refine ag_iconst dd_M_behind_154 ?_
                    refine mp_57 dd_M_behind_155 fp_M_284 hM (by first | exact Or.inl rfl | exact Or.inr rfl | omega) (fun h S42 eS42 hM => ?_)
                    have md_S42 := md_57 md_S41 eS42
                    have fr_S42 := fr_tr fr_S41 (fr_put eS42 (by decide))
                    have kt_S42 := kt_tr kt_S41 (kt_put eS42 (by decide))
                    clear eS42
                    refine ag_goto (tgt := 282) dd_M_behind_158 (by decide) ?_
                    refine ag_aload_n dd_M_behind_282 rfl ?_
                    refine ag_wV dd_M_behind_283 fi_M_288 (mr_38 hM) rfl (mc_M_nextToken (d := 2) (by omega) hM hT hn (f := f) (r := r) (by rw [kt_S42 49 (by decide) (by decide)]; exact h49) hr hf (by rw [fr_S42.1 43 (by decide) (by decide)]; exact h43) (by rw [fr_S42.2.1 68 (by decide) (by decide) (by decide)]; exact ht)) rfl rfl (by omega) (Nat.le_of_ble_eq_true rfl) (fun r1 h hP => ?_)
                    obtain ⟨rfl, S43, nx_S43, tk_S43, hM⟩ := hP
                    rw [← htl] at tk_S43
                    have md_S43 := md_nx md_S42 nx_S43
                    have fr_S43 := fr_tr fr_S42 (fr_nx nx_S43)
                    have v54_S43 : S43.1 54 = S42.1 54 := nx_S43.2 54 (by decide)
                    refine ag_iconst dd_M_behind_286 ?_
                    refine ag_iret dd_M_behind_287 rfl ?_
                    have eg : mb_h ts p u o = .inl (ts.tail, (a + 2) :: P, U, o, false) := by
                      rw [mb_h, if_neg (by omega), if_neg (by omega), if_pos (by omega), hPU]
                      show (if a = 21 ∨ a = 22 then _ else _) = _
                      rw [if_pos (by omega)]
                    rw [eg]
                    exact ⟨rfl, S43, md_S43, tk_S43, fr_S43, hM⟩
                  · refine ag_aload_n dd_M_behind_120 rfl ?_
                    refine ag_get dd_M_behind_121 fg_M_131 (mr_38 hM) rfl ?_
                    refine ag_aload_n dd_M_behind_124 rfl ?_
                    refine ag_get dd_M_behind_125 fg_M_271 (mr_38 hM) rfl ?_
                    refine ag_iconst dd_M_behind_128 ?_
                    refine ag_isub dd_M_behind_129 ?_
                    refine ag_iald dd_M_behind_130 (mr_71 hM) (by decide) (by omega) ?_
                    refine ag_bipush dd_M_behind_131 (by decide +kernel) ?_
                    refine ag_icmp_eq (tgt := 138) dd_M_behind_133 (by decide) (by omega) (by omega) (fun c44 => ?_) (fun c44 => ?_)
                    · refine ag_aload_n dd_M_behind_138 rfl ?_
                      refine ag_get dd_M_behind_139 fg_M_131 (mr_38 hM) rfl ?_
                      refine ag_aload_n dd_M_behind_142 rfl ?_
                      refine ag_get dd_M_behind_143 fg_M_271 (mr_38 hM) rfl ?_
                      refine ag_iconst dd_M_behind_146 ?_
                      refine ag_isub dd_M_behind_147 ?_
                      refine ag_dup2 dd_M_behind_148 rfl rfl ?_
                      refine ag_iald dd_M_behind_149 (mr_71 hM) (by decide) (by omega) ?_
                      refine ag_iconst dd_M_behind_150 ?_
                      refine ag_iadd dd_M_behind_151 ?_
                      refine ms_71 dd_M_behind_152 hM (by omega) (fun h S45 eS45 hM => ?_)
                      have hms := md_set md_S37 (v := S37.2 71 (S37.1 55 - 1).toNat + 2) (by omega) eS45
                      rw [htop.2.1] at hms
                      have md_S45 := hms.1
                      have fr_S45 := fr_tr fr_S37 hms.2.1
                      have kt_S45 := kt_tr kt_S37 hms.2.2
                      clear eS45
                      refine ag_aload_n dd_M_behind_153 rfl ?_
                      refine ag_iconst dd_M_behind_154 ?_
                      refine mp_57 dd_M_behind_155 fp_M_284 hM (by first | exact Or.inl rfl | exact Or.inr rfl | omega) (fun h S46 eS46 hM => ?_)
                      have md_S46 := md_57 md_S45 eS46
                      have fr_S46 := fr_tr fr_S45 (fr_put eS46 (by decide))
                      have kt_S46 := kt_tr kt_S45 (kt_put eS46 (by decide))
                      clear eS46
                      refine ag_goto (tgt := 282) dd_M_behind_158 (by decide) ?_
                      refine ag_aload_n dd_M_behind_282 rfl ?_
                      refine ag_wV dd_M_behind_283 fi_M_288 (mr_38 hM) rfl (mc_M_nextToken (d := 2) (by omega) hM hT hn (f := f) (r := r) (by rw [kt_S46 49 (by decide) (by decide)]; exact h49) hr hf (by rw [fr_S46.1 43 (by decide) (by decide)]; exact h43) (by rw [fr_S46.2.1 68 (by decide) (by decide) (by decide)]; exact ht)) rfl rfl (by omega) (Nat.le_of_ble_eq_true rfl) (fun r1 h hP => ?_)
                      obtain ⟨rfl, S47, nx_S47, tk_S47, hM⟩ := hP
                      rw [← htl] at tk_S47
                      have md_S47 := md_nx md_S46 nx_S47
                      have fr_S47 := fr_tr fr_S46 (fr_nx nx_S47)
                      have v54_S47 : S47.1 54 = S46.1 54 := nx_S47.2 54 (by decide)
                      refine ag_iconst dd_M_behind_286 ?_
                      refine ag_iret dd_M_behind_287 rfl ?_
                      have eg : mb_h ts p u o = .inl (ts.tail, (a + 2) :: P, U, o, false) := by
                        rw [mb_h, if_neg (by omega), if_neg (by omega), if_pos (by omega), hPU]
                        show (if a = 21 ∨ a = 22 then _ else _) = _
                        rw [if_pos (by omega)]
                      rw [eg]
                      exact ⟨rfl, S47, md_S47, tk_S47, fr_S47, hM⟩
                    · refine ag_iconst dd_M_behind_136 ?_
                      refine ag_iret dd_M_behind_137 rfl ?_
                      have eg : mb_h ts p u o = .inr (1, pr_p ts) := by
                        rw [mb_h, if_neg (by omega), if_neg (by omega), if_pos (by omega), hPU]
                        show (if a = 21 ∨ a = 22 then _ else _) = _
                        rw [if_neg (by omega)]
                      rw [eg]
                      exact ⟨(show (1 : Int) ≤ 1 ∧ (1 : Int) ≤ 3 by decide), rfl, S37, (kt_S37 50 (by decide) (by decide)).trans h50, fr_S37, hM⟩
          · exfalso; omega
      · exfalso; omega
  · refine ag_iload_n dd_M_behind_5 rfl ?_
    refine ag_bipush dd_M_behind_6 (by decide +kernel) ?_
    refine ag_icmp_eq (tgt := 17) dd_M_behind_8 (by decide) (by omega) (by omega) (fun c48 => ?_) (fun c48 => ?_)
    · exfalso; omega
    · refine ag_iload_n dd_M_behind_11 rfl ?_
      refine ag_bipush dd_M_behind_12 (by decide +kernel) ?_
      refine ag_icmp_ne (tgt := 45) dd_M_behind_14 (by decide) (by omega) (by omega) (fun c49 => ?_) (fun c49 => ?_)
      · refine ag_iload_n dd_M_behind_45 rfl ?_
        refine ag_bipush dd_M_behind_46 (by decide +kernel) ?_
        refine ag_icmp_eq (tgt := 57) dd_M_behind_48 (by decide) (by omega) (by omega) (fun c50 => ?_) (fun c50 => ?_)
        · exfalso; omega
        · refine ag_iload_n dd_M_behind_51 rfl ?_
          refine ag_bipush dd_M_behind_52 (by decide +kernel) ?_
          refine ag_icmp_ne (tgt := 86) dd_M_behind_54 (by decide) (by omega) (by omega) (fun c51 => ?_) (fun c51 => ?_)
          · refine ag_iload_n dd_M_behind_86 rfl ?_
            refine ag_bipush dd_M_behind_87 (by decide +kernel) ?_
            refine ag_icmp_ne (tgt := 161) dd_M_behind_89 (by decide) (by omega) (by omega) (fun c52 => ?_) (fun c52 => ?_)
            · refine ag_iload_n dd_M_behind_161 rfl ?_
              refine ag_bipush dd_M_behind_162 (by decide +kernel) ?_
              refine ag_icmp_ne (tgt := 280) dd_M_behind_164 (by decide) (by omega) (by omega) (fun c53 => ?_) (fun c53 => ?_)
              · exfalso; omega
              · refine ag_aload_n dd_M_behind_167 rfl ?_
                refine ag_iconst dd_M_behind_168 ?_
                refine ag_wV dd_M_behind_169 fi_M_294 (mr_38 hM) rfl (mc_M_settle (d := 1) (by omega) hM md_S (l := 3) (by omega) (by omega)) rfl rfl (by omega) (Nat.le_of_ble_eq_true rfl) (fun r1 h hP => ?_)
                obtain ⟨rfl, S54, md_S54, g1, g2, hM⟩ := hP
                have fr_S54 := fr_tr fr_S g1
                have kt_S54 := kt_tr kt_S g2
                clear g1 g2
                obtain ⟨P, U, hPU⟩ : ∃ P U, mt_ 3 p u = (P, U) := ⟨_, _, rfl⟩
                rw [hPU] at md_S54 hk3
                dsimp only at md_S54 hk3
                have hk3a : P.length + U.length = p.length + u.length := hk3.1
                have md55 := md_S54.1.1
                cases P with
                | nil =>
                  rw [List.length_nil] at md55
                  refine ag_aload_n dd_M_behind_172 rfl ?_
                  refine ag_get dd_M_behind_173 fg_M_271 (mr_38 hM) rfl ?_
                  refine ag_if_eq (tgt := 211) dd_M_behind_176 (by decide) (by omega) (fun c55 => ?_) (fun c55 => ?_)
                  · refine ag_iconst dd_M_behind_211 ?_
                    refine ag_iret dd_M_behind_212 rfl ?_
                    have eg : mb_h ts p u o = .inr (1, pr_p ts) := by
                      rw [mb_h, if_neg (by omega), if_neg (by omega), if_neg (by omega), if_pos (by omega), hPU]
                    rw [eg]
                    exact ⟨(show (1 : Int) ≤ 1 ∧ (1 : Int) ≤ 3 by decide), rfl, S54, (kt_S54 50 (by decide) (by decide)).trans h50, fr_S54, hM⟩
                  · exfalso; omega
                | cons a P =>
                  have htop := md_top md_S54
                  rw [List.length_cons] at hk3a
                  refine ag_aload_n dd_M_behind_172 rfl ?_
                  refine ag_get dd_M_behind_173 fg_M_271 (mr_38 hM) rfl ?_
                  refine ag_if_eq (tgt := 211) dd_M_behind_176 (by decide) (by omega) (fun c56 => ?_) (fun c56 => ?_)
                  · exfalso; omega
                  · refine ag_aload_n dd_M_behind_179 rfl ?_
                    refine ag_get dd_M_behind_180 fg_M_131 (mr_38 hM) rfl ?_
                    refine ag_aload_n dd_M_behind_183 rfl ?_
                    refine ag_get dd_M_behind_184 fg_M_271 (mr_38 hM) rfl ?_
                    refine ag_iconst dd_M_behind_187 ?_
                    refine ag_isub dd_M_behind_188 ?_
                    refine ag_iald dd_M_behind_189 (mr_71 hM) (by decide) (by omega) ?_
                    refine ag_bipush dd_M_behind_190 (by decide +kernel) ?_
                    refine ag_icmp_eq (tgt := 211) dd_M_behind_192 (by decide) (by omega) (by omega) (fun c57 => ?_) (fun c57 => ?_)
                    · refine ag_iconst dd_M_behind_211 ?_
                      refine ag_iret dd_M_behind_212 rfl ?_
                      have eg : mb_h ts p u o = .inr (1, pr_p ts) := by
                        rw [mb_h, if_neg (by omega), if_neg (by omega), if_neg (by omega), if_pos (by omega), hPU]
                        show (if a = 21 ∨ a = 22 then _ else _) = _
                        rw [if_pos (by omega)]
                      rw [eg]
                      exact ⟨(show (1 : Int) ≤ 1 ∧ (1 : Int) ≤ 3 by decide), rfl, S54, (kt_S54 50 (by decide) (by decide)).trans h50, fr_S54, hM⟩
                    · refine ag_aload_n dd_M_behind_195 rfl ?_
                      refine ag_get dd_M_behind_196 fg_M_131 (mr_38 hM) rfl ?_
                      refine ag_aload_n dd_M_behind_199 rfl ?_
                      refine ag_get dd_M_behind_200 fg_M_271 (mr_38 hM) rfl ?_
                      refine ag_iconst dd_M_behind_203 ?_
                      refine ag_isub dd_M_behind_204 ?_
                      refine ag_iald dd_M_behind_205 (mr_71 hM) (by decide) (by omega) ?_
                      refine ag_bipush dd_M_behind_206 (by decide +kernel) ?_
                      refine ag_icmp_ne (tgt := 213) dd_M_behind_208 (by decide) (by omega) (by omega) (fun c58 => ?_) (fun c58 => ?_)
                      · refine ag_aload_n dd_M_behind_213 rfl ?_
                        refine ag_dup dd_M_behind_214 rfl ?_
                        refine ag_get dd_M_behind_215 fg_M_271 (mr_38 hM) rfl ?_
                        refine ag_iconst dd_M_behind_218 ?_
                        refine ag_isub dd_M_behind_219 ?_
                        refine mp_55 dd_M_behind_220 fp_M_271 hM (fun h S59 eS59 hM => ?_)
                        have hpp := md_pop md_S54 eS59
                        have md_S59 := hpp.1
                        have fr_S59 := fr_tr fr_S54 (fr_put eS59 (by decide))
                        have kt_S59 := kt_tr kt_S54 (kt_put eS59 (by decide))
                        have v54_S59 : S59.1 54 = o := md_S59.2.2.1
                        have h55p : S59.1 55 = (P.length : Int) := md_S59.1.1
                        clear eS59
                        refine ag_aload_n dd_M_behind_223 rfl ?_
                        refine ag_dup dd_M_behind_224 rfl ?_
                        refine ag_get dd_M_behind_225 fg_M_274 (mr_38 hM) rfl ?_
                        refine ag_iconst dd_M_behind_228 ?_
                        refine ag_isub dd_M_behind_229 ?_
                        refine mp_54 dd_M_behind_230 fp_M_274 hM (fun h S60 eS60 hM => ?_)
                        have vt_S60 : S60.2 71 (S60.1 55).toNat = a := by rw [eS60]; exact hpp.2
                        have h55_S60 : S60.1 55 = (P.length : Int) := by rw [eS60]; exact h55p
                        have md_S60 := md_54 md_S59 eS60
                        have fr_S60 := fr_tr fr_S59 (fr_put eS60 (by decide))
                        have kt_S60 := kt_tr kt_S59 (kt_put eS60 (by decide))
                        clear eS60
                        refine ag_aload_n dd_M_behind_233 rfl ?_
                        refine ag_get dd_M_behind_234 fg_M_131 (mr_38 hM) rfl ?_
                        refine ag_aload_n dd_M_behind_237 rfl ?_
                        refine ag_get dd_M_behind_238 fg_M_271 (mr_38 hM) rfl ?_
                        refine ag_iald dd_M_behind_241 (mr_71 hM) (by decide) (by omega) ?_
                        refine ag_bipush dd_M_behind_242 (by decide +kernel) ?_
                        refine ag_icmp_le (tgt := 273) dd_M_behind_244 (by decide) (by omega) (by omega) (fun c61 => ?_) (fun c61 => ?_)
                        · refine ag_aload_n dd_M_behind_273 rfl ?_
                          refine ag_wV dd_M_behind_274 fi_M_281 (mr_38 hM) rfl (mc_M_whole (d := 1) (by omega) hM md_S60 (by first | omega | (rw [List.length_append, List.length_singleton]; omega))) rfl rfl (by omega) (Nat.le_of_ble_eq_true rfl) (fun r1 h hP => ?_)
                          obtain ⟨rfl, S62, md_S62, g1, g2, hM⟩ := hP
                          have fr_S62 := fr_tr fr_S60 g1
                          have kt_S62 := kt_tr kt_S60 g2
                          clear g1 g2
                          refine ag_goto (tgt := 282) dd_M_behind_277 (by decide) ?_
                          refine ag_aload_n dd_M_behind_282 rfl ?_
                          refine ag_wV dd_M_behind_283 fi_M_288 (mr_38 hM) rfl (mc_M_nextToken (d := 2) (by omega) hM hT hn (f := f) (r := r) (by rw [kt_S62 49 (by decide) (by decide)]; exact h49) hr hf (by rw [fr_S62.1 43 (by decide) (by decide)]; exact h43) (by rw [fr_S62.2.1 68 (by decide) (by decide) (by decide)]; exact ht)) rfl rfl (by omega) (Nat.le_of_ble_eq_true rfl) (fun r1 h hP => ?_)
                          obtain ⟨rfl, S63, nx_S63, tk_S63, hM⟩ := hP
                          rw [← htl] at tk_S63
                          have md_S63 := md_nx md_S62 nx_S63
                          have fr_S63 := fr_tr fr_S62 (fr_nx nx_S63)
                          have v54_S63 : S63.1 54 = S62.1 54 := nx_S63.2 54 (by decide)
                          refine ag_iconst dd_M_behind_286 ?_
                          refine ag_iret dd_M_behind_287 rfl ?_
                          have e54 : S59.1 54 - 1 = o - 1 := by omega
                          rw [e54] at md_S63
                          have eg : mb_h ts p u o = .inl (mw_c ts.tail P U (o - 1)) := by
                            rw [mb_h, if_neg (by omega), if_neg (by omega), if_neg (by omega), if_pos (by omega), hPU]
                            show (if a = 21 ∨ a = 22 then _ else _) = _
                            rw [if_neg (by omega), if_neg (by omega)]
                          rw [eg]
                          exact ⟨rfl, S63, md_S63, tk_S63, fr_S63, hM⟩
                        · refine ag_aload_n dd_M_behind_247 rfl ?_
                          refine ag_aload_n dd_M_behind_248 rfl ?_
                          refine ag_get dd_M_behind_249 fg_M_131 (mr_38 hM) rfl ?_
                          refine ag_aload_n dd_M_behind_252 rfl ?_
                          refine ag_get dd_M_behind_253 fg_M_271 (mr_38 hM) rfl ?_
                          refine ag_iald dd_M_behind_256 (mr_71 hM) (by decide) (by omega) ?_
                          refine ag_bipush dd_M_behind_257 (by decide +kernel) ?_
                          refine ag_icmp_ne (tgt := 267) dd_M_behind_259 (by decide) (by omega) (by omega) (fun c64 => ?_) (fun c64 => ?_)
                          · refine ag_bipush dd_M_behind_267 (by decide +kernel) ?_
                            refine ag_iconst dd_M_behind_269 ?_
                            refine ag_wV dd_M_behind_270 fi_M_277 (mr_38 hM) rfl (mc_M_emit (d := 1) (by omega) hM md_S60 (by omega)) rfl rfl (by omega) (Nat.le_of_ble_eq_true rfl) (fun r1 h hP => ?_)
                            obtain ⟨rfl, S65, md_S65, g1, g2, hM⟩ := hP
                            have fr_S65 := fr_tr fr_S60 g1
                            have kt_S65 := kt_tr kt_S60 g2
                            clear g1 g2
                            refine ag_aload_n dd_M_behind_273 rfl ?_
                            refine ag_wV dd_M_behind_274 fi_M_281 (mr_38 hM) rfl (mc_M_whole (d := 1) (by omega) hM md_S65 (by first | omega | (rw [List.length_append, List.length_singleton]; omega))) rfl rfl (by omega) (Nat.le_of_ble_eq_true rfl) (fun r1 h hP => ?_)
                            obtain ⟨rfl, S66, md_S66, g1, g2, hM⟩ := hP
                            have fr_S66 := fr_tr fr_S65 g1
                            have kt_S66 := kt_tr kt_S65 g2
                            clear g1 g2
                            refine ag_goto (tgt := 282) dd_M_behind_277 (by decide) ?_
                            refine ag_aload_n dd_M_behind_282 rfl ?_
                            refine ag_wV dd_M_behind_283 fi_M_288 (mr_38 hM) rfl (mc_M_nextToken (d := 2) (by omega) hM hT hn (f := f) (r := r) (by rw [kt_S66 49 (by decide) (by decide)]; exact h49) hr hf (by rw [fr_S66.1 43 (by decide) (by decide)]; exact h43) (by rw [fr_S66.2.1 68 (by decide) (by decide) (by decide)]; exact ht)) rfl rfl (by omega) (Nat.le_of_ble_eq_true rfl) (fun r1 h hP => ?_)
                            obtain ⟨rfl, S67, nx_S67, tk_S67, hM⟩ := hP
                            rw [← htl] at tk_S67
                            have md_S67 := md_nx md_S66 nx_S67
                            have fr_S67 := fr_tr fr_S66 (fr_nx nx_S67)
                            have v54_S67 : S67.1 54 = S66.1 54 := nx_S67.2 54 (by decide)
                            refine ag_iconst dd_M_behind_286 ?_
                            refine ag_iret dd_M_behind_287 rfl ?_
                            have e54 : S59.1 54 - 1 = o - 1 := by omega
                            rw [e54] at md_S67
                            have eg : mb_h ts p u o = .inl (mw_c ts.tail P (U ++ [(8, 0)]) (o - 1)) := by
                              rw [mb_h, if_neg (by omega), if_neg (by omega), if_neg (by omega), if_pos (by omega), hPU]
                              show (if a = 21 ∨ a = 22 then _ else _) = _
                              rw [if_neg (by omega), if_pos (by omega), if_neg (by omega)]
                            rw [eg]
                            exact ⟨rfl, S67, md_S67, tk_S67, fr_S67, hM⟩
                          · refine ag_bipush dd_M_behind_262 (by decide +kernel) ?_
                            refine ag_goto (tgt := 269) dd_M_behind_264 (by decide) ?_
                            refine ag_iconst dd_M_behind_269 ?_
                            refine ag_wV dd_M_behind_270 fi_M_277 (mr_38 hM) rfl (mc_M_emit (d := 1) (by omega) hM md_S60 (by omega)) rfl rfl (by omega) (Nat.le_of_ble_eq_true rfl) (fun r1 h hP => ?_)
                            obtain ⟨rfl, S68, md_S68, g1, g2, hM⟩ := hP
                            have fr_S68 := fr_tr fr_S60 g1
                            have kt_S68 := kt_tr kt_S60 g2
                            clear g1 g2
                            refine ag_aload_n dd_M_behind_273 rfl ?_
                            refine ag_wV dd_M_behind_274 fi_M_281 (mr_38 hM) rfl (mc_M_whole (d := 1) (by omega) hM md_S68 (by first | omega | (rw [List.length_append, List.length_singleton]; omega))) rfl rfl (by omega) (Nat.le_of_ble_eq_true rfl) (fun r1 h hP => ?_)
                            obtain ⟨rfl, S69, md_S69, g1, g2, hM⟩ := hP
                            have fr_S69 := fr_tr fr_S68 g1
                            have kt_S69 := kt_tr kt_S68 g2
                            clear g1 g2
                            refine ag_goto (tgt := 282) dd_M_behind_277 (by decide) ?_
                            refine ag_aload_n dd_M_behind_282 rfl ?_
                            refine ag_wV dd_M_behind_283 fi_M_288 (mr_38 hM) rfl (mc_M_nextToken (d := 2) (by omega) hM hT hn (f := f) (r := r) (by rw [kt_S69 49 (by decide) (by decide)]; exact h49) hr hf (by rw [fr_S69.1 43 (by decide) (by decide)]; exact h43) (by rw [fr_S69.2.1 68 (by decide) (by decide) (by decide)]; exact ht)) rfl rfl (by omega) (Nat.le_of_ble_eq_true rfl) (fun r1 h hP => ?_)
                            obtain ⟨rfl, S70, nx_S70, tk_S70, hM⟩ := hP
                            rw [← htl] at tk_S70
                            have md_S70 := md_nx md_S69 nx_S70
                            have fr_S70 := fr_tr fr_S69 (fr_nx nx_S70)
                            have v54_S70 : S70.1 54 = S69.1 54 := nx_S70.2 54 (by decide)
                            refine ag_iconst dd_M_behind_286 ?_
                            refine ag_iret dd_M_behind_287 rfl ?_
                            have e54 : S59.1 54 - 1 = o - 1 := by omega
                            rw [e54] at md_S70
                            have eg : mb_h ts p u o = .inl (mw_c ts.tail P (U ++ [(7, 0)]) (o - 1)) := by
                              rw [mb_h, if_neg (by omega), if_neg (by omega), if_neg (by omega), if_pos (by omega), hPU]
                              show (if a = 21 ∨ a = 22 then _ else _) = _
                              rw [if_neg (by omega), if_pos (by omega), if_pos (by omega)]
                            rw [eg]
                            exact ⟨rfl, S70, md_S70, tk_S70, fr_S70, hM⟩
                      · refine ag_iconst dd_M_behind_211 ?_
                        refine ag_iret dd_M_behind_212 rfl ?_
                        have eg : mb_h ts p u o = .inr (1, pr_p ts) := by
                          rw [mb_h, if_neg (by omega), if_neg (by omega), if_neg (by omega), if_pos (by omega), hPU]
                          show (if a = 21 ∨ a = 22 then _ else _) = _
                          rw [if_pos (by omega)]
                        rw [eg]
                        exact ⟨(show (1 : Int) ≤ 1 ∧ (1 : Int) ≤ 3 by decide), rfl, S54, (kt_S54 50 (by decide) (by decide)).trans h50, fr_S54, hM⟩
            · exfalso; omega
          · exfalso; omega
      · exfalso; omega
  · refine ag_iload_n dd_M_behind_5 rfl ?_
    refine ag_bipush dd_M_behind_6 (by decide +kernel) ?_
    refine ag_icmp_eq (tgt := 17) dd_M_behind_8 (by decide) (by omega) (by omega) (fun c71 => ?_) (fun c71 => ?_)
    · exfalso; omega
    · refine ag_iload_n dd_M_behind_11 rfl ?_
      refine ag_bipush dd_M_behind_12 (by decide +kernel) ?_
      refine ag_icmp_ne (tgt := 45) dd_M_behind_14 (by decide) (by omega) (by omega) (fun c72 => ?_) (fun c72 => ?_)
      · refine ag_iload_n dd_M_behind_45 rfl ?_
        refine ag_bipush dd_M_behind_46 (by decide +kernel) ?_
        refine ag_icmp_eq (tgt := 57) dd_M_behind_48 (by decide) (by omega) (by omega) (fun c73 => ?_) (fun c73 => ?_)
        · exfalso; omega
        · refine ag_iload_n dd_M_behind_51 rfl ?_
          refine ag_bipush dd_M_behind_52 (by decide +kernel) ?_
          refine ag_icmp_ne (tgt := 86) dd_M_behind_54 (by decide) (by omega) (by omega) (fun c74 => ?_) (fun c74 => ?_)
          · refine ag_iload_n dd_M_behind_86 rfl ?_
            refine ag_bipush dd_M_behind_87 (by decide +kernel) ?_
            refine ag_icmp_ne (tgt := 161) dd_M_behind_89 (by decide) (by omega) (by omega) (fun c75 => ?_) (fun c75 => ?_)
            · refine ag_iload_n dd_M_behind_161 rfl ?_
              refine ag_bipush dd_M_behind_162 (by decide +kernel) ?_
              refine ag_icmp_ne (tgt := 280) dd_M_behind_164 (by decide) (by omega) (by omega) (fun c76 => ?_) (fun c76 => ?_)
              · refine ag_iconst dd_M_behind_280 ?_
                refine ag_iret dd_M_behind_281 rfl ?_
                have eg : mb_h ts p u o = .inr (1, pr_p ts) := by
                  rw [mb_h, if_neg (by omega), if_neg (by omega), if_neg (by omega), if_neg (by omega)]
                rw [eg]
                exact ⟨(show (1 : Int) ≤ 1 ∧ (1 : Int) ≤ 3 by decide), rfl, S, h50, fr_S, hM⟩
              · exfalso; omega
            · exfalso; omega
          · exfalso; omega
      · exfalso; omega
