theorem lk_sb {c : Int} (h : 0 ≤ c ∧ c ≤ 255) : lk_ (sb_ c) = lk_ c := by
  unfold sb_
  split
  · rw [lk_1 (by omega), lk_1 (by omega)]
  · rfl
theorem sb_rg {c : Int} (h : 0 ≤ c ∧ c ≤ 255) : -128 ≤ sb_ c ∧ sb_ c ≤ 127 := by
  unfold sb_
  split <;> omega
theorem sb_id {c : Int} (h : c < 128) : sb_ c = c := by
  unfold sb_
  rw [if_neg (by omega)]
set_option maxHeartbeats 1000000 in
theorem mc_Formula_kindOf {w : aw_T} {h : ah_T} {d : Nat} (hd : 1 ≤ d) {c : Int} (hc : -128 ≤ c ∧ c ≤ 255) : am_M w mm_Formula_kindOf d [av_i c] h 0 0 (fun r h' => r = some (av_i (lk_ c)) ∧ h' = h) := by
  refine am_intro [some (av_i (c)), none] (by decide +kernel) (Nat.le_of_ble_eq_true rfl) rfl ?_
  refine ag_iload_n dd_Formula_kindOf_0 rfl ?_
  refine ag_bipush dd_Formula_kindOf_1 (by decide +kernel) ?_
  refine ag_bipush dd_Formula_kindOf_3 (by decide +kernel) ?_
  refine ag_rS dd_Formula_kindOf_5 fi_Formula_45 (mc_X_isWithin (d := 0) (by omega) (by omega) (by omega)) rfl rfl (by omega) (Nat.le_of_ble_eq_true rfl) ?_
  refine ag_if_neB (tgt := 22) dd_Formula_kindOf_8 (by decide) (fun c1 => ?_) (fun c1 => ?_)
  · refine ag_bipush dd_Formula_kindOf_22 (by decide +kernel) ?_
    refine ag_iret dd_Formula_kindOf_24 rfl ?_
    refine ⟨congrArg (fun z => some (av_i z)) ?_, rfl⟩
    unfold lk_
    repeat (first | rw [if_pos (by omega)] | rw [if_neg (by omega)])
    try omega
  · refine ag_iload_n dd_Formula_kindOf_11 rfl ?_
    refine ag_bipush dd_Formula_kindOf_12 (by decide +kernel) ?_
    refine ag_bipush dd_Formula_kindOf_14 (by decide +kernel) ?_
    refine ag_rS dd_Formula_kindOf_16 fi_Formula_45 (mc_X_isWithin (d := 0) (by omega) (by omega) (by omega)) rfl rfl (by omega) (Nat.le_of_ble_eq_true rfl) ?_
    refine ag_if_eqB (tgt := 25) dd_Formula_kindOf_19 (by decide) (fun c2 => ?_) (fun c2 => ?_)
    · refine ag_iload_n dd_Formula_kindOf_25 rfl ?_
      refine ag_bipush dd_Formula_kindOf_26 (by decide +kernel) ?_
      refine ag_bipush dd_Formula_kindOf_28 (by decide +kernel) ?_
      refine ag_rS dd_Formula_kindOf_30 fi_Formula_45 (mc_X_isWithin (d := 0) (by omega) (by omega) (by omega)) rfl rfl (by omega) (Nat.le_of_ble_eq_true rfl) ?_
      refine ag_if_eqB (tgt := 39) dd_Formula_kindOf_33 (by decide) (fun c3 => ?_) (fun c3 => ?_)
      · refine ag_iload_n dd_Formula_kindOf_39 rfl ?_
        refine ag_bipush dd_Formula_kindOf_40 (by decide +kernel) ?_
        refine ag_icmp_eq (tgt := 81) dd_Formula_kindOf_42 (by decide) (by omega) (by omega) (fun c4 => ?_) (fun c4 => ?_)
        · refine ag_iconst dd_Formula_kindOf_81 ?_
          refine ag_goto (tgt := 86) dd_Formula_kindOf_82 (by decide) ?_
          refine ag_istore_n (L' := [some (av_i (c)), some (av_i (1))]) dd_Formula_kindOf_86 rfl rfl (by decide) ?_
          refine ag_iload_n dd_Formula_kindOf_87 rfl ?_
          refine ag_if_ne (tgt := 97) dd_Formula_kindOf_88 (by decide) (by omega) (fun c5 => ?_) (fun c5 => ?_)
          · refine ag_iload_n dd_Formula_kindOf_97 rfl ?_
            refine ag_goto (tgt := 102) dd_Formula_kindOf_98 (by decide) ?_
            refine ag_iret dd_Formula_kindOf_102 rfl ?_
            refine ⟨congrArg (fun z => some (av_i z)) ?_, rfl⟩
            unfold lk_
            repeat (first | rw [if_pos (by omega)] | rw [if_neg (by omega)])
            try omega
          · exfalso; omega
        · refine ag_iload_n dd_Formula_kindOf_45 rfl ?_
          refine ag_bipush dd_Formula_kindOf_46 (by decide +kernel) ?_
          refine ag_icmp_eq (tgt := 81) dd_Formula_kindOf_48 (by decide) (by omega) (by omega) (fun c6 => ?_) (fun c6 => ?_)
          · refine ag_iconst dd_Formula_kindOf_81 ?_
            refine ag_goto (tgt := 86) dd_Formula_kindOf_82 (by decide) ?_
            refine ag_istore_n (L' := [some (av_i (c)), some (av_i (1))]) dd_Formula_kindOf_86 rfl rfl (by decide) ?_
            refine ag_iload_n dd_Formula_kindOf_87 rfl ?_
            refine ag_if_ne (tgt := 97) dd_Formula_kindOf_88 (by decide) (by omega) (fun c7 => ?_) (fun c7 => ?_)
            · refine ag_iload_n dd_Formula_kindOf_97 rfl ?_
              refine ag_goto (tgt := 102) dd_Formula_kindOf_98 (by decide) ?_
              refine ag_iret dd_Formula_kindOf_102 rfl ?_
              refine ⟨congrArg (fun z => some (av_i z)) ?_, rfl⟩
              unfold lk_
              repeat (first | rw [if_pos (by omega)] | rw [if_neg (by omega)])
              try omega
            · exfalso; omega
          · refine ag_iload_n dd_Formula_kindOf_51 rfl ?_
            refine ag_bipush dd_Formula_kindOf_52 (by decide +kernel) ?_
            refine ag_icmp_eq (tgt := 81) dd_Formula_kindOf_54 (by decide) (by omega) (by omega) (fun c8 => ?_) (fun c8 => ?_)
            · refine ag_iconst dd_Formula_kindOf_81 ?_
              refine ag_goto (tgt := 86) dd_Formula_kindOf_82 (by decide) ?_
              refine ag_istore_n (L' := [some (av_i (c)), some (av_i (1))]) dd_Formula_kindOf_86 rfl rfl (by decide) ?_
              refine ag_iload_n dd_Formula_kindOf_87 rfl ?_
              refine ag_if_ne (tgt := 97) dd_Formula_kindOf_88 (by decide) (by omega) (fun c9 => ?_) (fun c9 => ?_)
              · refine ag_iload_n dd_Formula_kindOf_97 rfl ?_
                refine ag_goto (tgt := 102) dd_Formula_kindOf_98 (by decide) ?_
                refine ag_iret dd_Formula_kindOf_102 rfl ?_
                refine ⟨congrArg (fun z => some (av_i z)) ?_, rfl⟩
                unfold lk_
                repeat (first | rw [if_pos (by omega)] | rw [if_neg (by omega)])
                try omega
              · exfalso; omega
            · refine ag_iload_n dd_Formula_kindOf_57 rfl ?_
              refine ag_bipush dd_Formula_kindOf_58 (by decide +kernel) ?_
              refine ag_icmp_eq (tgt := 81) dd_Formula_kindOf_60 (by decide) (by omega) (by omega) (fun c10 => ?_) (fun c10 => ?_)
              · refine ag_iconst dd_Formula_kindOf_81 ?_
                refine ag_goto (tgt := 86) dd_Formula_kindOf_82 (by decide) ?_
                refine ag_istore_n (L' := [some (av_i (c)), some (av_i (1))]) dd_Formula_kindOf_86 rfl rfl (by decide) ?_
                refine ag_iload_n dd_Formula_kindOf_87 rfl ?_
                refine ag_if_ne (tgt := 97) dd_Formula_kindOf_88 (by decide) (by omega) (fun c11 => ?_) (fun c11 => ?_)
                · refine ag_iload_n dd_Formula_kindOf_97 rfl ?_
                  refine ag_goto (tgt := 102) dd_Formula_kindOf_98 (by decide) ?_
                  refine ag_iret dd_Formula_kindOf_102 rfl ?_
                  refine ⟨congrArg (fun z => some (av_i z)) ?_, rfl⟩
                  unfold lk_
                  repeat (first | rw [if_pos (by omega)] | rw [if_neg (by omega)])
                  try omega
                · exfalso; omega
              · refine ag_iload_n dd_Formula_kindOf_63 rfl ?_
                refine ag_bipush dd_Formula_kindOf_64 (by decide +kernel) ?_
                refine ag_icmp_eq (tgt := 81) dd_Formula_kindOf_66 (by decide) (by omega) (by omega) (fun c12 => ?_) (fun c12 => ?_)
                · refine ag_iconst dd_Formula_kindOf_81 ?_
                  refine ag_goto (tgt := 86) dd_Formula_kindOf_82 (by decide) ?_
                  refine ag_istore_n (L' := [some (av_i (c)), some (av_i (1))]) dd_Formula_kindOf_86 rfl rfl (by decide) ?_
                  refine ag_iload_n dd_Formula_kindOf_87 rfl ?_
                  refine ag_if_ne (tgt := 97) dd_Formula_kindOf_88 (by decide) (by omega) (fun c13 => ?_) (fun c13 => ?_)
                  · refine ag_iload_n dd_Formula_kindOf_97 rfl ?_
                    refine ag_goto (tgt := 102) dd_Formula_kindOf_98 (by decide) ?_
                    refine ag_iret dd_Formula_kindOf_102 rfl ?_
                    refine ⟨congrArg (fun z => some (av_i z)) ?_, rfl⟩
                    unfold lk_
                    repeat (first | rw [if_pos (by omega)] | rw [if_neg (by omega)])
                    try omega
                  · exfalso; omega
                · refine ag_iload_n dd_Formula_kindOf_69 rfl ?_
                  refine ag_bipush dd_Formula_kindOf_70 (by decide +kernel) ?_
                  refine ag_icmp_eq (tgt := 81) dd_Formula_kindOf_72 (by decide) (by omega) (by omega) (fun c14 => ?_) (fun c14 => ?_)
                  · refine ag_iconst dd_Formula_kindOf_81 ?_
                    refine ag_goto (tgt := 86) dd_Formula_kindOf_82 (by decide) ?_
                    refine ag_istore_n (L' := [some (av_i (c)), some (av_i (1))]) dd_Formula_kindOf_86 rfl rfl (by decide) ?_
                    refine ag_iload_n dd_Formula_kindOf_87 rfl ?_
                    refine ag_if_ne (tgt := 97) dd_Formula_kindOf_88 (by decide) (by omega) (fun c15 => ?_) (fun c15 => ?_)
                    · refine ag_iload_n dd_Formula_kindOf_97 rfl ?_
                      refine ag_goto (tgt := 102) dd_Formula_kindOf_98 (by decide) ?_
                      refine ag_iret dd_Formula_kindOf_102 rfl ?_
                      refine ⟨congrArg (fun z => some (av_i z)) ?_, rfl⟩
                      unfold lk_
                      repeat (first | rw [if_pos (by omega)] | rw [if_neg (by omega)])
                      try omega
                    · exfalso; omega
                  · refine ag_iload_n dd_Formula_kindOf_75 rfl ?_
                    refine ag_bipush dd_Formula_kindOf_76 (by decide +kernel) ?_
                    refine ag_icmp_ne (tgt := 85) dd_Formula_kindOf_78 (by decide) (by omega) (by omega) (fun c16 => ?_) (fun c16 => ?_)
                    · refine ag_iconst dd_Formula_kindOf_85 ?_
                      refine ag_istore_n (L' := [some (av_i (c)), some (av_i (0))]) dd_Formula_kindOf_86 rfl rfl (by decide) ?_
                      refine ag_iload_n dd_Formula_kindOf_87 rfl ?_
                      refine ag_if_ne (tgt := 97) dd_Formula_kindOf_88 (by decide) (by omega) (fun c17 => ?_) (fun c17 => ?_)
                      · exfalso; omega
                      · refine ag_iload_n dd_Formula_kindOf_91 rfl ?_
                        refine ag_bipush dd_Formula_kindOf_92 (by decide +kernel) ?_
                        refine ag_icmp_ne (tgt := 101) dd_Formula_kindOf_94 (by decide) (by omega) (by omega) (fun c18 => ?_) (fun c18 => ?_)
                        · refine ag_iconst dd_Formula_kindOf_101 ?_
                          refine ag_iret dd_Formula_kindOf_102 rfl ?_
                          refine ⟨congrArg (fun z => some (av_i z)) ?_, rfl⟩
                          unfold lk_
                          repeat (first | rw [if_pos (by omega)] | rw [if_neg (by omega)])
                          try omega
                        · refine ag_iload_n dd_Formula_kindOf_97 rfl ?_
                          refine ag_goto (tgt := 102) dd_Formula_kindOf_98 (by decide) ?_
                          refine ag_iret dd_Formula_kindOf_102 rfl ?_
                          refine ⟨congrArg (fun z => some (av_i z)) ?_, rfl⟩
                          unfold lk_
                          repeat (first | rw [if_pos (by omega)] | rw [if_neg (by omega)])
                          try omega
                    · refine ag_iconst dd_Formula_kindOf_81 ?_
                      refine ag_goto (tgt := 86) dd_Formula_kindOf_82 (by decide) ?_
                      refine ag_istore_n (L' := [some (av_i (c)), some (av_i (1))]) dd_Formula_kindOf_86 rfl rfl (by decide) ?_
                      refine ag_iload_n dd_Formula_kindOf_87 rfl ?_
                      refine ag_if_ne (tgt := 97) dd_Formula_kindOf_88 (by decide) (by omega) (fun c19 => ?_) (fun c19 => ?_)
                      · refine ag_iload_n dd_Formula_kindOf_97 rfl ?_
                        refine ag_goto (tgt := 102) dd_Formula_kindOf_98 (by decide) ?_
                        refine ag_iret dd_Formula_kindOf_102 rfl ?_
                        refine ⟨congrArg (fun z => some (av_i z)) ?_, rfl⟩
                        unfold lk_
                        repeat (first | rw [if_pos (by omega)] | rw [if_neg (by omega)])
                        try omega
                      · exfalso; omega
      · refine ag_bipush dd_Formula_kindOf_36 (by decide +kernel) ?_
        refine ag_iret dd_Formula_kindOf_38 rfl ?_
        refine ⟨congrArg (fun z => some (av_i z)) ?_, rfl⟩
        unfold lk_
        repeat (first | rw [if_pos (by omega)] | rw [if_neg (by omega)])
        try omega
    · refine ag_bipush dd_Formula_kindOf_22 (by decide +kernel) ?_
      refine ag_iret dd_Formula_kindOf_24 rfl ?_
      refine ⟨congrArg (fun z => some (av_i z)) ?_, rfl⟩
      unfold lk_
      repeat (first | rw [if_pos (by omega)] | rw [if_neg (by omega)])
      try omega
set_option maxHeartbeats 1000000 in
theorem mc_Formula_wordToken {w : aw_T} {h : ah_T} {d : Nat} {A : Nat} {g : Nat → Int} (hA : h[A]? = some (ac_a 1 100 g)) {T : Nat → Int} {p e : Nat} {x : Int} (hx : x + 1 = (e : Int)) (hre : p < e) (he : e ≤ 100) (hg : ∀ i, p ≤ i → i < e → g i = T i ∧ 0 ≤ T i ∧ T i < 128) : am_M w mm_Formula_wordToken d [av_r A, av_i (p : Int), av_i x] h 0 0 (fun r h' => r = some (av_i (lw_ T p e)) ∧ h' = h) := by
  refine am_intro [some (av_r (A)), some (av_i ((p : Int))), some (av_i (x)), none] (by decide +kernel) (Nat.le_of_ble_eq_true rfl) rfl ?_
  refine ag_iload_n dd_Formula_wordToken_0 rfl ?_
  refine ag_if_lt (tgt := 10) dd_Formula_wordToken_1 (by decide) (by omega) (fun c1 => ?_) (fun c1 => ?_)
  · exfalso; omega
  · refine ag_iload_n dd_Formula_wordToken_4 rfl ?_
    refine ag_aload_n dd_Formula_wordToken_5 rfl ?_
    refine ag_alen dd_Formula_wordToken_6 hA (by decide) ?_
    refine ag_icmp_lt (tgt := 12) dd_Formula_wordToken_7 (by decide) (by omega) (by omega) (fun c2 => ?_) (fun c2 => ?_)
    · have h0 := hg p (by omega) (by omega)
      have hix := pr_ix_s (T p)
      have hix2 : (T p = 116 ∨ T p = 115 ∨ T p = 109 ∨ T p = 98 ∨ T p = 104) → 0 ≤ pr_ix (T p) := by
        rintro (q | q | q | q | q) <;> rw [q] <;> decide
      refine ag_iload_n dd_Formula_wordToken_12 rfl ?_
      refine ag_iload_n dd_Formula_wordToken_13 rfl ?_
      refine ag_icmp_gt (tgt := 23) dd_Formula_wordToken_14 (by decide) (by omega) (by omega) (fun c3 => ?_) (fun c3 => ?_)
      · exfalso; omega
      · refine ag_aload_n dd_Formula_wordToken_17 rfl ?_
        refine ag_iload_n dd_Formula_wordToken_18 rfl ?_
        refine ag_baldN dd_Formula_wordToken_19 hA (by decide) (by omega) ?_
        refine ag_goto (tgt := 24) dd_Formula_wordToken_20 (by decide) ?_
        refine ag_istore_nN (Lf := fun y => [some (av_r (A)), some (av_i ((p : Int))), some (av_i (x)), some (av_i (y))]) dd_Formula_wordToken_24 (fun _ => rfl) rfl (by decide) (fun y4 ey4 => ?_)
        refine ag_iload_n dd_Formula_wordToken_25 rfl ?_
        refine ag_iload_n dd_Formula_wordToken_26 rfl ?_
        refine ag_icmp_ne (tgt := 66) dd_Formula_wordToken_27 (by decide) (by omega) (by omega) (fun c5 => ?_) (fun c5 => ?_)
        · refine ag_iload_n dd_Formula_wordToken_66 rfl ?_
          refine ag_iload_n dd_Formula_wordToken_67 rfl ?_
          refine ag_iconst dd_Formula_wordToken_68 ?_
          refine ag_iadd dd_Formula_wordToken_69 ?_
          refine ag_icmp_ne (tgt := 79) dd_Formula_wordToken_70 (by decide) (by omega) (by omega) (fun c6 => ?_) (fun c6 => ?_)
          · refine ag_iconst dd_Formula_wordToken_79 ?_
            refine ag_iret dd_Formula_wordToken_80 rfl ?_
            refine ⟨congrArg (fun z => some (av_i z)) ?_, rfl⟩
            unfold lw_
            rw [if_neg (by omega), if_neg (by omega)]
          · refine ag_iload_n dd_Formula_wordToken_73 rfl ?_
            refine ag_bipush dd_Formula_wordToken_74 (by decide +kernel) ?_
            refine ag_icmp_eq (tgt := 81) dd_Formula_wordToken_76 (by decide) (by omega) (by omega) (fun c7 => ?_) (fun c7 => ?_)
            · have k1 : ((p : Int) + 1).toNat = p + 1 := by omega
              have k2 : x.toNat = p + 2 := by omega
              have h1 := hg (p + 1) (by omega) (by omega)
              have h2 := hg (p + 2) (by omega) (by omega)
              have h1b : g ((p : Int) + 1).toNat = T (p + 1) := by rw [k1]; exact h1.1
              have h2b : g x.toNat = T (p + 2) := by rw [k2]; exact h2.1
              refine ag_aload_n dd_Formula_wordToken_81 rfl ?_
              refine ag_iload_n dd_Formula_wordToken_82 rfl ?_
              refine ag_iconst dd_Formula_wordToken_83 ?_
              refine ag_iadd dd_Formula_wordToken_84 ?_
              refine ag_bald dd_Formula_wordToken_85 hA (by decide) (by omega) ?_
              refine ag_bipush dd_Formula_wordToken_86 (by decide +kernel) ?_
              refine ag_icmp_ne (tgt := 101) dd_Formula_wordToken_88 (by decide) (by omega) (by omega) (fun c8 => ?_) (fun c8 => ?_)
              · refine ag_aload_n dd_Formula_wordToken_101 rfl ?_
                refine ag_iload_n dd_Formula_wordToken_102 rfl ?_
                refine ag_iconst dd_Formula_wordToken_103 ?_
                refine ag_iadd dd_Formula_wordToken_104 ?_
                refine ag_bald dd_Formula_wordToken_105 hA (by decide) (by omega) ?_
                refine ag_bipush dd_Formula_wordToken_106 (by decide +kernel) ?_
                refine ag_icmp_ne (tgt := 123) dd_Formula_wordToken_108 (by decide) (by omega) (by omega) (fun c9 => ?_) (fun c9 => ?_)
                · refine ag_iconst dd_Formula_wordToken_123 ?_
                  refine ag_iret dd_Formula_wordToken_124 rfl ?_
                  refine ⟨congrArg (fun z => some (av_i z)) ?_, rfl⟩
                  unfold lw_
                  rw [if_neg (by omega), if_pos (by omega), if_neg (by omega)]
                  first | (exfalso; omega) | rw [if_pos (by omega)] | rw [if_neg (by omega)]
                · refine ag_aload_n dd_Formula_wordToken_111 rfl ?_
                  refine ag_iload_n dd_Formula_wordToken_112 rfl ?_
                  refine ag_bald dd_Formula_wordToken_113 hA (by decide) (by omega) ?_
                  refine ag_bipush dd_Formula_wordToken_114 (by decide +kernel) ?_
                  refine ag_icmp_ne (tgt := 123) dd_Formula_wordToken_116 (by decide) (by omega) (by omega) (fun c10 => ?_) (fun c10 => ?_)
                  · refine ag_iconst dd_Formula_wordToken_123 ?_
                    refine ag_iret dd_Formula_wordToken_124 rfl ?_
                    refine ⟨congrArg (fun z => some (av_i z)) ?_, rfl⟩
                    unfold lw_
                    rw [if_neg (by omega), if_pos (by omega), if_neg (by omega)]
                    first | (exfalso; omega) | rw [if_pos (by omega)] | rw [if_neg (by omega)]
                  · refine ag_iconst dd_Formula_wordToken_119 ?_
                    refine ag_goto (tgt := 124) dd_Formula_wordToken_120 (by decide) ?_
                    refine ag_iret dd_Formula_wordToken_124 rfl ?_
                    refine ⟨congrArg (fun z => some (av_i z)) ?_, rfl⟩
                    unfold lw_
                    rw [if_neg (by omega), if_pos (by omega), if_neg (by omega)]
                    first | (exfalso; omega) | rw [if_pos (by omega)] | rw [if_neg (by omega)]
              · refine ag_aload_n dd_Formula_wordToken_91 rfl ?_
                refine ag_iload_n dd_Formula_wordToken_92 rfl ?_
                refine ag_bald dd_Formula_wordToken_93 hA (by decide) (by omega) ?_
                refine ag_bipush dd_Formula_wordToken_94 (by decide +kernel) ?_
                refine ag_icmp_ne (tgt := 101) dd_Formula_wordToken_96 (by decide) (by omega) (by omega) (fun c11 => ?_) (fun c11 => ?_)
                · refine ag_aload_n dd_Formula_wordToken_101 rfl ?_
                  refine ag_iload_n dd_Formula_wordToken_102 rfl ?_
                  refine ag_iconst dd_Formula_wordToken_103 ?_
                  refine ag_iadd dd_Formula_wordToken_104 ?_
                  refine ag_bald dd_Formula_wordToken_105 hA (by decide) (by omega) ?_
                  refine ag_bipush dd_Formula_wordToken_106 (by decide +kernel) ?_
                  refine ag_icmp_ne (tgt := 123) dd_Formula_wordToken_108 (by decide) (by omega) (by omega) (fun c12 => ?_) (fun c12 => ?_)
                  · refine ag_iconst dd_Formula_wordToken_123 ?_
                    refine ag_iret dd_Formula_wordToken_124 rfl ?_
                    refine ⟨congrArg (fun z => some (av_i z)) ?_, rfl⟩
                    unfold lw_
                    rw [if_neg (by omega), if_pos (by omega), if_neg (by omega)]
                    first | (exfalso; omega) | rw [if_pos (by omega)] | rw [if_neg (by omega)]
                  · refine ag_aload_n dd_Formula_wordToken_111 rfl ?_
                    refine ag_iload_n dd_Formula_wordToken_112 rfl ?_
                    refine ag_bald dd_Formula_wordToken_113 hA (by decide) (by omega) ?_
                    refine ag_bipush dd_Formula_wordToken_114 (by decide +kernel) ?_
                    refine ag_icmp_ne (tgt := 123) dd_Formula_wordToken_116 (by decide) (by omega) (by omega) (fun c13 => ?_) (fun c13 => ?_)
                    · refine ag_iconst dd_Formula_wordToken_123 ?_
                      refine ag_iret dd_Formula_wordToken_124 rfl ?_
                      refine ⟨congrArg (fun z => some (av_i z)) ?_, rfl⟩
                      unfold lw_
                      rw [if_neg (by omega), if_pos (by omega), if_neg (by omega)]
                      first | (exfalso; omega) | rw [if_pos (by omega)] | rw [if_neg (by omega)]
                    · refine ag_iconst dd_Formula_wordToken_119 ?_
                      refine ag_goto (tgt := 124) dd_Formula_wordToken_120 (by decide) ?_
                      refine ag_iret dd_Formula_wordToken_124 rfl ?_
                      refine ⟨congrArg (fun z => some (av_i z)) ?_, rfl⟩
                      unfold lw_
                      rw [if_neg (by omega), if_pos (by omega), if_neg (by omega)]
                      first | (exfalso; omega) | rw [if_pos (by omega)] | rw [if_neg (by omega)]
                · refine ag_iconst dd_Formula_wordToken_99 ?_
                  refine ag_iret dd_Formula_wordToken_100 rfl ?_
                  refine ⟨congrArg (fun z => some (av_i z)) ?_, rfl⟩
                  unfold lw_
                  rw [if_neg (by omega), if_pos (by omega), if_pos (by omega)]
            · refine ag_iconst dd_Formula_wordToken_79 ?_
              refine ag_iret dd_Formula_wordToken_80 rfl ?_
              refine ⟨congrArg (fun z => some (av_i z)) ?_, rfl⟩
              unfold lw_
              rw [if_neg (by omega), if_neg (by omega)]
        · refine ag_iload_n dd_Formula_wordToken_30 rfl ?_
          refine ag_bipush dd_Formula_wordToken_31 (by decide +kernel) ?_
          refine ag_icmp_eq (tgt := 60) dd_Formula_wordToken_33 (by decide) (by omega) (by omega) (fun c14 => ?_) (fun c14 => ?_)
          · refine ag_iload_n dd_Formula_wordToken_60 rfl ?_
            refine ag_goto (tgt := 65) dd_Formula_wordToken_61 (by decide) ?_
            refine ag_iret dd_Formula_wordToken_65 rfl ?_
            refine ⟨congrArg (fun z => some (av_i z)) ?_, rfl⟩
            unfold lw_
            rw [if_pos (by omega)]
            first | (rw [if_pos (by omega)]; omega) | (rw [if_neg (by omega)])
          · refine ag_iload_n dd_Formula_wordToken_36 rfl ?_
            refine ag_bipush dd_Formula_wordToken_37 (by decide +kernel) ?_
            refine ag_icmp_eq (tgt := 60) dd_Formula_wordToken_39 (by decide) (by omega) (by omega) (fun c15 => ?_) (fun c15 => ?_)
            · refine ag_iload_n dd_Formula_wordToken_60 rfl ?_
              refine ag_goto (tgt := 65) dd_Formula_wordToken_61 (by decide) ?_
              refine ag_iret dd_Formula_wordToken_65 rfl ?_
              refine ⟨congrArg (fun z => some (av_i z)) ?_, rfl⟩
              unfold lw_
              rw [if_pos (by omega)]
              first | (rw [if_pos (by omega)]; omega) | (rw [if_neg (by omega)])
            · refine ag_iload_n dd_Formula_wordToken_42 rfl ?_
              refine ag_bipush dd_Formula_wordToken_43 (by decide +kernel) ?_
              refine ag_icmp_eq (tgt := 60) dd_Formula_wordToken_45 (by decide) (by omega) (by omega) (fun c16 => ?_) (fun c16 => ?_)
              · refine ag_iload_n dd_Formula_wordToken_60 rfl ?_
                refine ag_goto (tgt := 65) dd_Formula_wordToken_61 (by decide) ?_
                refine ag_iret dd_Formula_wordToken_65 rfl ?_
                refine ⟨congrArg (fun z => some (av_i z)) ?_, rfl⟩
                unfold lw_
                rw [if_pos (by omega)]
                first | (rw [if_pos (by omega)]; omega) | (rw [if_neg (by omega)])
              · refine ag_iload_n dd_Formula_wordToken_48 rfl ?_
                refine ag_bipush dd_Formula_wordToken_49 (by decide +kernel) ?_
                refine ag_icmp_eq (tgt := 60) dd_Formula_wordToken_51 (by decide) (by omega) (by omega) (fun c17 => ?_) (fun c17 => ?_)
                · refine ag_iload_n dd_Formula_wordToken_60 rfl ?_
                  refine ag_goto (tgt := 65) dd_Formula_wordToken_61 (by decide) ?_
                  refine ag_iret dd_Formula_wordToken_65 rfl ?_
                  refine ⟨congrArg (fun z => some (av_i z)) ?_, rfl⟩
                  unfold lw_
                  rw [if_pos (by omega)]
                  first | (rw [if_pos (by omega)]; omega) | (rw [if_neg (by omega)])
                · refine ag_iload_n dd_Formula_wordToken_54 rfl ?_
                  refine ag_bipush dd_Formula_wordToken_55 (by decide +kernel) ?_
                  refine ag_icmp_ne (tgt := 64) dd_Formula_wordToken_57 (by decide) (by omega) (by omega) (fun c18 => ?_) (fun c18 => ?_)
                  · refine ag_iconst dd_Formula_wordToken_64 ?_
                    refine ag_iret dd_Formula_wordToken_65 rfl ?_
                    refine ⟨congrArg (fun z => some (av_i z)) ?_, rfl⟩
                    unfold lw_
                    rw [if_pos (by omega)]
                    first | (rw [if_pos (by omega)]; omega) | (rw [if_neg (by omega)])
                  · refine ag_iload_n dd_Formula_wordToken_60 rfl ?_
                    refine ag_goto (tgt := 65) dd_Formula_wordToken_61 (by decide) ?_
                    refine ag_iret dd_Formula_wordToken_65 rfl ?_
                    refine ⟨congrArg (fun z => some (av_i z)) ?_, rfl⟩
                    unfold lw_
                    rw [if_pos (by omega)]
                    first | (rw [if_pos (by omega)]; omega) | (rw [if_neg (by omega)])
    · exfalso; omega
set_option maxHeartbeats 1000000 in
theorem ml_Formula_numberToken {w : aw_T} {h : ah_T} {d : Nat} (hd : 1 ≤ d) {A : Nat} {g : Nat → Int} (hA : h[A]? = some (ac_a 1 100 g)) {T : Nat → Int} {p e : Nat} {x x0 : Int} (hx : x + 1 = (e : Int)) (he : e ≤ 100) (hg : ∀ i, p ≤ i → i < e → g i = T i ∧ 48 ≤ T i ∧ T i ≤ 57) {P : ap_T} : ∀ (m i : Nat) (v : Int), i + m = e → p ≤ i → (0 ≤ v ∧ v ≤ 10000) → P (some (av_i (1000 + ln_ T m i v))) h → aw_W w mm_Formula_numberToken d P 9 [some (av_r (A)), some (av_i (x0)), some (av_i (x)), some (av_i (v)), some (av_i ((i : Int)))] [] h 0 0 := by
  intro m
  induction m with
  | zero =>
    intro i v hi hr hv hP
    refine ag_iload dd_Formula_numberToken_9 rfl ?_
    refine ag_iload_n dd_Formula_numberToken_11 rfl ?_
    refine ag_icmp_gt (tgt := 47) dd_Formula_numberToken_12 (by decide) (by omega) (by omega) (fun c1 => ?_) (fun c1 => ?_)
    · refine ag_sipush dd_Formula_numberToken_47 (by decide +kernel) ?_
      refine ag_iload_n dd_Formula_numberToken_50 rfl ?_
      refine ag_iadd dd_Formula_numberToken_51 ?_
      refine ag_iret dd_Formula_numberToken_52 rfl ?_
      rw [ln_] at hP
      exact hP
    · exfalso; omega
  | succ m ih =>
    intro i v hi hr hv hP
    have hgi := hg i (by omega) (by omega)
    refine ag_iload dd_Formula_numberToken_9 rfl ?_
    refine ag_iload_n dd_Formula_numberToken_11 rfl ?_
    refine ag_icmp_gt (tgt := 47) dd_Formula_numberToken_12 (by decide) (by omega) (by omega) (fun c1 => ?_) (fun c1 => ?_)
    · exfalso; omega
    · refine ag_iload dd_Formula_numberToken_15 rfl ?_
      refine ag_aload_n dd_Formula_numberToken_17 rfl ?_
      refine ag_alen dd_Formula_numberToken_18 hA (by decide) ?_
      refine ag_icmp_ge (tgt := 47) dd_Formula_numberToken_19 (by decide) (by omega) (by omega) (fun c2 => ?_) (fun c2 => ?_)
      · exfalso; omega
      · refine ag_iload_n dd_Formula_numberToken_22 rfl ?_
        refine ag_bipush dd_Formula_numberToken_23 (by decide +kernel) ?_
        refine ag_imul dd_Formula_numberToken_25 ?_
        refine ag_aload_n dd_Formula_numberToken_26 rfl ?_
        refine ag_iload dd_Formula_numberToken_27 rfl ?_
        refine ag_baldN dd_Formula_numberToken_29 hA (by decide) (by omega) ?_
        refine ag_iadd dd_Formula_numberToken_30 ?_
        refine ag_bipush dd_Formula_numberToken_31 (by decide +kernel) ?_
        refine ag_isub dd_Formula_numberToken_33 ?_
        refine ag_sipush dd_Formula_numberToken_34 (by decide +kernel) ?_
        refine ag_min dd_Formula_numberToken_37 fi_Formula_24 fo_mins fo_m fo_minc (by omega) (by omega) (by omega) (Nat.le_of_ble_eq_true rfl) ?_
        refine ag_istore_nN (Lf := fun y => [some (av_r (A)), some (av_i (x0)), some (av_i (x)), some (av_i (y)), some (av_i ((i : Int)))]) dd_Formula_numberToken_40 (fun _ => rfl) rfl (by decide) (fun y3 ey3 => ?_)
        refine ag_iincN (Lf := fun y => [some (av_r (A)), some (av_i (x0)), some (av_i (x)), some (av_i (y3)), some (av_i (y))]) dd_Formula_numberToken_41 rfl (fun _ => rfl) rfl (by decide) (fun y4 ey4 => ?_)
        refine ag_goto (tgt := 9) dd_Formula_numberToken_44 (by decide) ?_
        have ev : y3 = min (v * 10 + T i - 48) 10000 := by
          rw [ey3]
          omega
        obtain rfl : y4 = ((i + 1 : Nat) : Int) := by omega
        rw [ev]
        rw [ln_] at hP
        exact ih (i + 1) _ (by omega) (by omega) (by omega) hP
set_option maxHeartbeats 1000000 in
theorem mc_Formula_numberToken {w : aw_T} {h : ah_T} {d : Nat} (hd : 1 ≤ d) {A : Nat} {g : Nat → Int} (hA : h[A]? = some (ac_a 1 100 g)) {T : Nat → Int} {p e : Nat} {x : Int} (hx : x + 1 = (e : Int)) (hre : p < e) (he : e ≤ 100) (hg : ∀ i, p ≤ i → i < e → g i = T i ∧ 48 ≤ T i ∧ T i ≤ 57) : am_M w mm_Formula_numberToken d [av_r A, av_i (p : Int), av_i x] h 0 0 (fun r h' => r = some (av_i (1000 + ln_ T (e - p) p 0)) ∧ h' = h) := by
  refine am_intro [some (av_r (A)), some (av_i ((p : Int))), some (av_i (x)), none, none] (by decide +kernel) (Nat.le_of_ble_eq_true rfl) rfl ?_
  refine ag_iconst dd_Formula_numberToken_0 ?_
  refine ag_istore_n (L' := [some (av_r (A)), some (av_i ((p : Int))), some (av_i (x)), some (av_i (0)), none]) dd_Formula_numberToken_1 rfl rfl (by decide) ?_
  refine ag_iconst dd_Formula_numberToken_2 ?_
  refine ag_iload_n dd_Formula_numberToken_3 rfl ?_
  refine ag_max dd_Formula_numberToken_4 fi_Formula_49 fo_maxs fo_m fo_maxc (by omega) (by omega) (by omega) (Nat.le_of_ble_eq_true rfl) ?_
  refine ag_istoreN (Lf := fun y => [some (av_r (A)), some (av_i ((p : Int))), some (av_i (x)), some (av_i (0)), some (av_i (y))]) dd_Formula_numberToken_7 (fun _ => rfl) rfl (by decide) (fun y1 ey1 => ?_)
  have ey2 : y1 = ((p : Nat) : Int) := by rw [ey1]; omega
  rw [ey2]
  exact ml_Formula_numberToken hd hA hx he hg (e - p) p 0 (by omega) (Nat.le_refl _) (by omega) ⟨rfl, rfl⟩
/-- a text whose tokens so far are ts -/
def sg_ (h : ah_T) (F : Nat) (ts : List tk_T) : Prop := fa_ h F ts ∧ ∃ rest : List av_T, rest.length = 8 ∧ h[F]? = some (ac_o 5 (av_r (F + 1) :: av_r (F + 2) :: av_i (ts.length : Int) :: rest))
def f3_ (h h' : ah_T) (F : Nat) : Prop := h'.length = h.length ∧ ∀ b, b ≠ F → b ≠ F + 1 → b ≠ F + 2 → h'[b]? = h[b]?
theorem f3_rf (h : ah_T) (F : Nat) : f3_ h h F := ⟨rfl, fun _ _ _ _ => rfl⟩
theorem f3_tr {a b c : ah_T} {F : Nat} (h1 : f3_ a b F) (h2 : f3_ b c F) : f3_ a c F := ⟨h2.1.trans h1.1, fun x q1 q2 q3 => (h2.2 x q1 q2 q3).trans (h1.2 x q1 q2 q3)⟩
theorem dr_snoc {ts : List tk_T} {q : tk_T} {j : Nat} (h : j < ts.length) : pr_h ((ts ++ [q]).drop j) = pr_h (ts.drop j) ∧ pr_p ((ts ++ [q]).drop j) = pr_p (ts.drop j) := by
  rw [List.drop_append_of_le_length (by omega)]
  cases hd : ts.drop j with
  | nil =>
    have := List.drop_eq_nil_iff.mp hd
    omega
  | cons x r => exact ⟨rfl, rfl⟩
theorem dr_last (ts : List tk_T) (q : tk_T) : (ts ++ [q]).drop ts.length = [q] := by
  rw [List.drop_append_of_le_length (Nat.le_refl _), List.drop_length]
  rfl
theorem sg_put {h h1 h2 h3 : ah_T} {F : Nat} {ts : List tk_T} {x y : Int} {tk pk : Nat → Int} {rest : List av_T} (ha : fa_ h F ts) (hlen : ts.length ≤ 100) (hx : 0 ≤ x ∧ x ≤ 11000) (hy : -1 ≤ y ∧ y ≤ 200) (hr : rest.length = 8) (hT : ∀ j, j < ts.length → tk j = pr_h (ts.drop j)) (hP : ∀ j, j < ts.length → pk j = pr_p (ts.drop j))
    (u1 : hu_ h h1 (F + 1) (ac_a 0 101 (ai_up tk ts.length x))) (u2 : hu_ h1 h2 (F + 2) (ac_a 0 101 (ai_up pk ts.length y))) (u3 : hu_ h2 h3 F (ac_o 5 (av_r (F + 1) :: av_r (F + 2) :: av_i ((ts.length : Int) + 1) :: rest))) : sg_ h3 F (ts ++ [(x, y)]) ∧ f3_ h h3 F := by
  have hl : (ts ++ [(x, y)]).length = ts.length + 1 := by rw [List.length_append, List.length_singleton]
  refine ⟨⟨⟨by omega, ⟨ai_up tk ts.length x, ?_, fun j hj => ?_⟩, ⟨ai_up pk ts.length y, ?_, fun j hj => ?_⟩, fun q hq => ?_⟩, rest, hr, ?_⟩, ?_, fun b q1 q2 q3 => ?_⟩
  · rw [u3.2.2 _ (by omega), u2.2.2 _ (by omega)]
    exact u1.2.1
  · by_cases e : j = ts.length
    · rw [e, ai_up_s, dr_last]
      rfl
    · rw [ai_up_n _ _ e, (dr_snoc (by omega)).1]
      exact hT j (by omega)
  · rw [u3.2.2 _ (by omega)]
    exact u2.2.1
  · by_cases e : j = ts.length
    · rw [e, ai_up_s, dr_last]
      rfl
    · rw [ai_up_n _ _ e, (dr_snoc (by omega)).2]
      exact hP j (by omega)
  · rcases List.mem_append.mp hq with q1 | q1
    · exact ha.2.2.2 q q1
    · rw [List.mem_singleton.mp q1]
      exact ⟨hx, hy⟩
  · rw [u3.2.1, hl]
    rfl
  · rw [u3.1, u2.1, u1.1]
  · rw [u3.2.2 b q1, u2.2.2 b q3, u1.2.2 b q2]
theorem ag_iastU {w : aw_T} {M : am_T} {d : Nat} {P : ap_T} {pc n : Nat} {L : al_T} {st : List av_T} {h : ah_T} {kc ks : Nat} {a N : Nat} {f : Nat → Int} {i x : Int} (hd : ad_D M pc .iastore 1 n) (hc : h[a]? = some (ac_a 0 N f)) (hN : N ≤ 2147483648) (hi : 0 ≤ i ∧ i < N) (kk : ∀ h', hu_ h h' a (ac_a 0 N (ai_up f i.toNat x)) → aw_W w M d P n L st h' kc ks) : aw_W w M d P pc L (av_i x :: av_i i :: av_r a :: st) h kc ks := ag_iast hd hc hN hi (kk _ (hu_set hc))
set_option maxHeartbeats 1000000 in
theorem mc_Formula_put {w : aw_T} {h : ah_T} {d : Nat} {F : Nat} {ts : List tk_T} (H : sg_ h F ts) (hlen : ts.length ≤ 100) {x y : Int} (hx : 0 ≤ x ∧ x ≤ 11000) (hy : -1 ≤ y ∧ y ≤ 200) : am_M w mm_Formula_put d [av_r F, av_i x, av_i y] h 0 0 (fun r1 h1 => r1 = none ∧ sg_ h1 F (ts ++ [(x, y)]) ∧ f3_ h h1 F) := by
  refine am_intro [some (av_r (F)), some (av_i (x)), some (av_i (y))] (by decide +kernel) (Nat.le_of_ble_eq_true rfl) rfl ?_
  obtain ⟨⟨hn101, ⟨tk, hT, hTv⟩, ⟨pk, hP, hPv⟩, hB⟩, rest, hr, hc⟩ := H
  refine ag_aload_n dd_Formula_put_0 rfl ?_
  refine ag_get dd_Formula_put_1 fg_Formula_20 hc rfl ?_
  refine ag_aload_n dd_Formula_put_4 rfl ?_
  refine ag_get dd_Formula_put_5 fg_Formula_13 hc rfl ?_
  refine ag_alen dd_Formula_put_8 hT (by decide) ?_
  refine ag_icmp_ge (tgt := 54) dd_Formula_put_9 (by decide) (by omega) (by omega) (fun c1 => ?_) (fun c1 => ?_)
  · exfalso; omega
  · refine ag_aload_n dd_Formula_put_12 rfl ?_
    refine ag_get dd_Formula_put_13 fg_Formula_20 hc rfl ?_
    refine ag_aload_n dd_Formula_put_16 rfl ?_
    refine ag_get dd_Formula_put_17 fg_Formula_17 hc rfl ?_
    refine ag_alen dd_Formula_put_20 hP (by decide) ?_
    refine ag_icmp_ge (tgt := 54) dd_Formula_put_21 (by decide) (by omega) (by omega) (fun c2 => ?_) (fun c2 => ?_)
    · exfalso; omega
    · refine ag_aload_n dd_Formula_put_24 rfl ?_
      refine ag_get dd_Formula_put_25 fg_Formula_13 hc rfl ?_
      refine ag_aload_n dd_Formula_put_28 rfl ?_
      refine ag_get dd_Formula_put_29 fg_Formula_20 hc rfl ?_
      refine ag_iload_n dd_Formula_put_32 rfl ?_
      refine ag_iastU dd_Formula_put_33 hT (by decide) (by omega) (fun h u1 => ?_)
      refine ag_aload_n dd_Formula_put_34 rfl ?_
      refine ag_get dd_Formula_put_35 fg_Formula_17 ((u1.2.2 F (by omega)).trans hc) rfl ?_
      refine ag_aload_n dd_Formula_put_38 rfl ?_
      refine ag_get dd_Formula_put_39 fg_Formula_20 ((u1.2.2 F (by omega)).trans hc) rfl ?_
      refine ag_iload_n dd_Formula_put_42 rfl ?_
      refine ag_iastU dd_Formula_put_43 ((u1.2.2 (F + 2) (by omega)).trans hP) (by decide) (by omega) (fun h u2 => ?_)
      refine ag_aload_n dd_Formula_put_44 rfl ?_
      refine ag_dup dd_Formula_put_45 rfl ?_
      refine ag_get dd_Formula_put_46 fg_Formula_20 ((u2.2.2 F (by omega)).trans ((u1.2.2 F (by omega)).trans hc)) rfl ?_
      refine ag_iconst dd_Formula_put_49 ?_
      refine ag_iadd dd_Formula_put_50 ?_
      refine hp_i dd_Formula_put_51 fp_Formula_20 ((u2.2.2 F (by omega)).trans ((u1.2.2 F (by omega)).trans hc)) (Nat.le_of_ble_eq_true rfl) (fun h huN => ?_)
      have hu1 := huN
      clear huN
      refine ag_vret dd_Formula_put_54 rfl ?_
      rw [Int.toNat_natCast] at u1 u2
      have := sg_put ⟨hn101, ⟨tk, hT, hTv⟩, ⟨pk, hP, hPv⟩, hB⟩ hlen hx hy hr hTv hPv u1 u2 hu1
      exact ⟨rfl, this.1, this.2⟩
theorem gk_ {g T : Nat → Int} (hg : ∀ i, g i = sb_ (T i)) (hT : ∀ i, 0 ≤ T i ∧ T i ≤ 255) (i : Nat) : lk_ (g i) = lk_ (T i) ∧ (-128 ≤ g i ∧ g i ≤ 127) ∧ (T i < 128 → g i = T i) ∧ (1 ≤ lk_ (T i) ∧ lk_ (T i) ≤ 97) := by
  rw [hg i]
  refine ⟨lk_sb (hT i), sb_rg (hT i), fun q => sb_id q, ?_⟩
  unfold lk_
  split
  · omega
  · split
    · omega
    · split <;> omega
set_option maxHeartbeats 1000000 in
theorem ml_Formula_run {w : aw_T} {h : ah_T} {d : Nat} (hd : 2 ≤ d) {F A : Nat} {g T : Nat → Int} (hg : ∀ i, g i = sb_ (T i)) (hT : ∀ i, 0 ≤ T i ∧ T i ≤ 255) (hA : h[A]? = some (ac_a 1 100 g)) {len k : Int} (hk : 0 ≤ k ∧ k ≤ 255) {n p : Nat} (hn : n ≤ 100) {P : ap_T} : ∀ (m j : Nat), j + 1 + m = n → aw_W w mm_Formula_split d P 88 [some (av_r (F)), some (av_r (A)), some (av_i (len)), some (av_i ((n : Int))), some (av_i (((lr_ T k m (j + 1) : Nat) : Int) - 1)), some (av_i ((p : Int))), some (av_i (k)), some (av_i (1))] [] h 0 0 → aw_W w mm_Formula_split d P 55 [some (av_r (F)), some (av_r (A)), some (av_i (len)), some (av_i ((n : Int))), some (av_i ((j : Int))), some (av_i ((p : Int))), some (av_i (k)), some (av_i (1))] [] h 0 0 := by
  intro m
  induction m with
  | zero =>
    intro j hj hX
    refine ag_iload dd_Formula_split_55 rfl ?_
    refine ag_if_eq (tgt := 88) dd_Formula_split_57 (by decide) (by omega) (fun c1 => ?_) (fun c1 => ?_)
    · exfalso; omega
    · refine ag_iload dd_Formula_split_60 rfl ?_
      refine ag_iconst dd_Formula_split_62 ?_
      refine ag_iadd dd_Formula_split_63 ?_
      refine ag_iload_n dd_Formula_split_64 rfl ?_
      refine ag_icmp_ge (tgt := 88) dd_Formula_split_65 (by decide) (by omega) (by omega) (fun c2 => ?_) (fun c2 => ?_)
      · have e1 : lr_ T k 0 (j + 1) = j + 1 := by rfl
        rw [e1, show (((j + 1 : Nat) : Int) - 1) = (j : Int) by omega] at hX
        exact hX
      · exfalso; omega
  | succ m ih =>
    intro j hj hX
    refine ag_iload dd_Formula_split_55 rfl ?_
    refine ag_if_eq (tgt := 88) dd_Formula_split_57 (by decide) (by omega) (fun c1 => ?_) (fun c1 => ?_)
    · exfalso; omega
    · refine ag_iload dd_Formula_split_60 rfl ?_
      refine ag_iconst dd_Formula_split_62 ?_
      refine ag_iadd dd_Formula_split_63 ?_
      refine ag_iload_n dd_Formula_split_64 rfl ?_
      refine ag_icmp_ge (tgt := 88) dd_Formula_split_65 (by decide) (by omega) (by omega) (fun c2 => ?_) (fun c2 => ?_)
      · exfalso; omega
      · have hgk := gk_ hg hT (j + 1)
        have kj : ((j : Int) + 1).toNat = j + 1 := by omega
        refine ag_aload_n dd_Formula_split_68 rfl ?_
        refine ag_iload dd_Formula_split_69 rfl ?_
        refine ag_iconst dd_Formula_split_71 ?_
        refine ag_iadd dd_Formula_split_72 ?_
        refine ag_bald dd_Formula_split_73 hA (by decide) (by omega) ?_
        rw [kj]
        refine ag_rS dd_Formula_split_74 fi_Formula_30 (mc_Formula_kindOf (d := 1) (by omega) (by omega)) rfl rfl (by omega) (Nat.le_of_ble_eq_true rfl) ?_
        refine ag_iload dd_Formula_split_77 rfl ?_
        refine ag_icmp_ne (tgt := 88) dd_Formula_split_79 (by decide) (by omega) (by omega) (fun c3 => ?_) (fun c3 => ?_)
        · have e1 : lr_ T k (m + 1) (j + 1) = j + 1 := by rw [lr_, if_neg (by omega)]
          rw [e1, show (((j + 1 : Nat) : Int) - 1) = (j : Int) by omega] at hX
          exact hX
        · refine ag_iincN (Lf := fun y => [some (av_r (F)), some (av_r (A)), some (av_i (len)), some (av_i ((n : Int))), some (av_i (y)), some (av_i ((p : Int))), some (av_i (k)), some (av_i (1))]) dd_Formula_split_82 rfl (fun _ => rfl) rfl (by decide) (fun y4 ey4 => ?_)
          refine ag_goto (tgt := 55) dd_Formula_split_85 (by decide) ?_
          obtain rfl : y4 = ((j + 1 : Nat) : Int) := by omega
          have e1 : lr_ T k (m + 1) (j + 1) = lr_ T k m (j + 1 + 1) := by rw [lr_, if_pos (by omega)]
          rw [e1] at hX
          exact ih (j + 1) (by omega) hX
theorem lw_b {T : Nat → Int} {p e : Nat} (h : ∀ i, p ≤ i → i < e → 0 ≤ T i ∧ T i < 128) (he : p < e) : 0 ≤ lw_ T p e ∧ lw_ T p e ≤ 11000 := by
  have := h p (Nat.le_refl p) he
  unfold lw_
  repeat' split
  all_goals omega
theorem ln_b (T : Nat → Int) : ∀ (k i : Nat) (a : Int), (∀ j, i ≤ j → j < i + k → 48 ≤ T j ∧ T j ≤ 57) → 0 ≤ a ∧ a ≤ 10000 → 0 ≤ ln_ T k i a ∧ ln_ T k i a ≤ 10000
  | 0, i, a, _, h => h
  | k + 1, i, a, h, ha => by
    rw [ln_]
    have := h i (Nat.le_refl i) (by omega)
    exact ln_b T k (i + 1) _ (fun j h1 h2 => h j (by omega) (by omega)) (by omega)
set_option maxHeartbeats 1000000 in
theorem ml_Formula_split {w : aw_T} {h0 : ah_T} {d : Nat} (hd : 2 ≤ d) {F A : Nat} (hAF : A ≠ F ∧ A ≠ F + 1 ∧ A ≠ F + 2) {g T : Nat → Int} (hg : ∀ i, g i = sb_ (T i)) (hT : ∀ i, 0 ≤ T i ∧ T i ≤ 255) (hA0 : h0[A]? = some (ac_a 1 100 g)) {len : Int} {n : Nat} (hn : n ≤ 100) {P : ap_T} : ∀ (f : Nat) (acc : List tk_T) (p : Nat) (h : ah_T), p ≤ n → n - p ≤ f → acc.length + f ≤ 100 → sg_ h F acc → f3_ h0 h F → h[A]? = some (ac_a 1 100 g) → (∀ h, sg_ h F (acc ++ lx_ T n f p) → f3_ h0 h F → P none h) → aw_W w mm_Formula_split d P 15 [some (av_r (F)), some (av_r (A)), some (av_i (len)), some (av_i ((n : Int))), some (av_i ((p : Int))), none, none, none] [] h 0 0 := by
  intro f
  induction f with
  | zero =>
    intro acc p h hp hfu hacc H hf hA hX
    obtain rfl : p = n := by omega
    have hgk := gk_ hg hT p
    have Hs := H
    obtain ⟨ha, rest, hr, hc⟩ := Hs
    refine ag_iload dd_Formula_split_15 rfl ?_
    refine ag_iload_n dd_Formula_split_17 rfl ?_
    refine ag_icmp_ge (tgt := 157) dd_Formula_split_18 (by decide) (by omega) (by omega) (fun c1 => ?_) (fun c1 => ?_)
    · refine ag_aload_n dd_Formula_split_157 rfl ?_
      refine ag_iconst dd_Formula_split_158 ?_
      refine ag_iload_n dd_Formula_split_159 rfl ?_
      refine ag_wV dd_Formula_split_160 fi_Formula_38 hc rfl (mc_Formula_put (d := 0) H (by omega) (x := 0) (y := (p : Int)) (by omega) (by omega)) rfl rfl (by omega) (Nat.le_of_ble_eq_true rfl) (fun r1 h hP => ?_)
      obtain ⟨rfl, H2, hf2⟩ := hP
      replace hf2 := f3_tr hf hf2
      have hA2 : h[A]? = some (ac_a 1 100 g) := (hf2.2 A hAF.1 hAF.2.1 hAF.2.2).trans hA0
      refine ag_vret dd_Formula_split_163 rfl ?_
      rw [lx_end (by omega)] at hX
      exact hX h H2 hf2
    · exfalso; omega
  | succ f ih =>
    intro acc p h hp hfu hacc H hf hA hX
    by_cases hpn : p < n
    · rcases (show lk_ (T p) = 97 ∨ lk_ (T p) = 48 ∨ lk_ (T p) = 32 ∨ (lk_ (T p) ≠ 97 ∧ lk_ (T p) ≠ 48 ∧ lk_ (T p) ≠ 32) by omega) with hk | hk | hk | hk
      · skip
        have hgk := gk_ hg hT p
        have Hs := H
        obtain ⟨ha, rest, hr, hc⟩ := Hs
        refine ag_iload dd_Formula_split_15 rfl ?_
        refine ag_iload_n dd_Formula_split_17 rfl ?_
        refine ag_icmp_ge (tgt := 157) dd_Formula_split_18 (by decide) (by omega) (by omega) (fun c1 => ?_) (fun c1 => ?_)
        · exfalso; omega
        · refine ag_iload dd_Formula_split_21 rfl ?_
          refine ag_istore (L' := [some (av_r (F)), some (av_r (A)), some (av_i (len)), some (av_i ((n : Int))), some (av_i ((p : Int))), some (av_i ((p : Int))), none, none]) dd_Formula_split_23 rfl rfl (by decide) ?_
          refine ag_aload_n dd_Formula_split_25 rfl ?_
          refine ag_iload dd_Formula_split_26 rfl ?_
          refine ag_baldN dd_Formula_split_28 hA (by decide) (by omega) ?_
          refine ag_rS dd_Formula_split_29 fi_Formula_30 (mc_Formula_kindOf (d := 1) (by omega) (by omega)) rfl rfl (by omega) (Nat.le_of_ble_eq_true rfl) ?_
          refine ag_istoreN (Lf := fun y => [some (av_r (F)), some (av_r (A)), some (av_i (len)), some (av_i ((n : Int))), some (av_i ((p : Int))), some (av_i ((p : Int))), some (av_i (y)), none]) dd_Formula_split_32 (fun _ => rfl) rfl (by decide) (fun y2 ey2 => ?_)
          obtain rfl : y2 = 97 := by omega
          refine ag_iload dd_Formula_split_34 rfl ?_
          refine ag_bipush dd_Formula_split_36 (by decide +kernel) ?_
          refine ag_icmp_eq (tgt := 48) dd_Formula_split_38 (by decide) (by omega) (by omega) (fun c3 => ?_) (fun c3 => ?_)
          · refine ag_iconst dd_Formula_split_48 ?_
            refine ag_goto (tgt := 53) dd_Formula_split_49 (by decide) ?_
            refine ag_istore (L' := [some (av_r (F)), some (av_r (A)), some (av_i (len)), some (av_i ((n : Int))), some (av_i ((p : Int))), some (av_i ((p : Int))), some (av_i (97)), some (av_i (1))]) dd_Formula_split_53 rfl rfl (by decide) ?_
            have hgt := lr_gt hpn hk
            obtain ⟨m, hm⟩ : ∃ m, n - p = m + 1 := ⟨n - p - 1, by omega⟩
            have elr : lr_ T 97 (n - p) p = lr_ T 97 m (p + 1) := by rw [hm, lr_, if_pos hk]
            refine ml_Formula_run hd hg hT hA (by decide) hn m p (by omega) ?_
            generalize he : lr_ T 97 (n - p) p = e at *
            rw [← elr]
            have hLe : ∀ i, p ≤ i → i < e → g i = T i ∧ 0 ≤ T i ∧ T i < 128 := fun i h1 h2 => by
              have q := lk_97.mp (lr_in T 97 (n - p) p i h1 (by omega))
              exact ⟨(gk_ hg hT i).2.2.1 (by omega), by omega, by omega⟩
            have hwb := lw_b (fun i h1 h2 => (hLe i h1 h2).2) (show p < e by omega)
            refine ag_iload dd_Formula_split_88 rfl ?_
            refine ag_bipush dd_Formula_split_90 (by decide +kernel) ?_
            refine ag_icmp_ne (tgt := 112) dd_Formula_split_92 (by decide) (by omega) (by omega) (fun c4 => ?_) (fun c4 => ?_)
            · exfalso; omega
            · refine ag_aload_n dd_Formula_split_95 rfl ?_
              refine ag_aload_n dd_Formula_split_96 rfl ?_
              refine ag_iload dd_Formula_split_97 rfl ?_
              refine ag_iload dd_Formula_split_99 rfl ?_
              refine ag_rS dd_Formula_split_101 fi_Formula_34 (mc_Formula_wordToken (d := 0) hA (T := T) (p := p) (e := e) (x := ((e : Nat) : Int) - 1) (by omega) (by omega) (by omega) hLe) rfl rfl (by omega) (Nat.le_of_ble_eq_true rfl) ?_
              refine ag_iload dd_Formula_split_104 rfl ?_
              refine ag_wV dd_Formula_split_106 fi_Formula_38 hc rfl (mc_Formula_put (d := 0) H (by omega) (x := (lw_ T p e)) (y := (p : Int)) (by omega) (by omega)) rfl rfl (by omega) (Nat.le_of_ble_eq_true rfl) (fun r1 h hP => ?_)
              obtain ⟨rfl, H2, hf2⟩ := hP
              replace hf2 := f3_tr hf hf2
              have hA2 : h[A]? = some (ac_a 1 100 g) := (hf2.2 A hAF.1 hAF.2.1 hAF.2.2).trans hA0
              refine ag_goto (tgt := 151) dd_Formula_split_109 (by decide) ?_
              refine ag_iincN (Lf := fun y => [some (av_r (F)), some (av_r (A)), some (av_i (len)), some (av_i ((n : Int))), some (av_i (y)), some (av_i ((p : Int))), some (av_i (97)), some (av_i (1))]) dd_Formula_split_151 rfl (fun _ => rfl) rfl (by decide) (fun y5 ey5 => ?_)
              refine ag_goto (tgt := 15) dd_Formula_split_154 (by decide) ?_
              obtain rfl : y5 = ((e : Nat) : Int) := by omega
              refine ag_weak [some (av_r (F)), some (av_r (A)), some (av_i (len)), some (av_i ((n : Int))), some (av_i (((e : Nat) : Int))), none, none, none] (by simp [al_le]) ?_
              exact ih _ (e) _ (by omega) (by omega) (by rw [List.length_append, List.length_singleton]; omega) H2 hf2 hA2 (fun h z1 z2 => hX h (by rw [lx_w hpn hk, he]; rw [List.append_assoc] at z1; exact z1) z2)
          · exfalso; omega
      · skip
        have hgk := gk_ hg hT p
        have Hs := H
        obtain ⟨ha, rest, hr, hc⟩ := Hs
        refine ag_iload dd_Formula_split_15 rfl ?_
        refine ag_iload_n dd_Formula_split_17 rfl ?_
        refine ag_icmp_ge (tgt := 157) dd_Formula_split_18 (by decide) (by omega) (by omega) (fun c1 => ?_) (fun c1 => ?_)
        · exfalso; omega
        · refine ag_iload dd_Formula_split_21 rfl ?_
          refine ag_istore (L' := [some (av_r (F)), some (av_r (A)), some (av_i (len)), some (av_i ((n : Int))), some (av_i ((p : Int))), some (av_i ((p : Int))), none, none]) dd_Formula_split_23 rfl rfl (by decide) ?_
          refine ag_aload_n dd_Formula_split_25 rfl ?_
          refine ag_iload dd_Formula_split_26 rfl ?_
          refine ag_baldN dd_Formula_split_28 hA (by decide) (by omega) ?_
          refine ag_rS dd_Formula_split_29 fi_Formula_30 (mc_Formula_kindOf (d := 1) (by omega) (by omega)) rfl rfl (by omega) (Nat.le_of_ble_eq_true rfl) ?_
          refine ag_istoreN (Lf := fun y => [some (av_r (F)), some (av_r (A)), some (av_i (len)), some (av_i ((n : Int))), some (av_i ((p : Int))), some (av_i ((p : Int))), some (av_i (y)), none]) dd_Formula_split_32 (fun _ => rfl) rfl (by decide) (fun y2 ey2 => ?_)
          obtain rfl : y2 = 48 := by omega
          refine ag_iload dd_Formula_split_34 rfl ?_
          refine ag_bipush dd_Formula_split_36 (by decide +kernel) ?_
          refine ag_icmp_eq (tgt := 48) dd_Formula_split_38 (by decide) (by omega) (by omega) (fun c3 => ?_) (fun c3 => ?_)
          · exfalso; omega
          · refine ag_iload dd_Formula_split_41 rfl ?_
            refine ag_bipush dd_Formula_split_43 (by decide +kernel) ?_
            refine ag_icmp_ne (tgt := 52) dd_Formula_split_45 (by decide) (by omega) (by omega) (fun c4 => ?_) (fun c4 => ?_)
            · exfalso; omega
            · refine ag_iconst dd_Formula_split_48 ?_
              refine ag_goto (tgt := 53) dd_Formula_split_49 (by decide) ?_
              refine ag_istore (L' := [some (av_r (F)), some (av_r (A)), some (av_i (len)), some (av_i ((n : Int))), some (av_i ((p : Int))), some (av_i ((p : Int))), some (av_i (48)), some (av_i (1))]) dd_Formula_split_53 rfl rfl (by decide) ?_
              have hgt := lr_gt hpn hk
              obtain ⟨m, hm⟩ : ∃ m, n - p = m + 1 := ⟨n - p - 1, by omega⟩
              have elr : lr_ T 48 (n - p) p = lr_ T 48 m (p + 1) := by rw [hm, lr_, if_pos hk]
              refine ml_Formula_run hd hg hT hA (by decide) hn m p (by omega) ?_
              generalize he : lr_ T 48 (n - p) p = e at *
              rw [← elr]
              have hLe : ∀ i, p ≤ i → i < e → g i = T i ∧ 48 ≤ T i ∧ T i ≤ 57 := fun i h1 h2 => by
                have q := lk_48.mp (lr_in T 48 (n - p) p i h1 (by omega))
                exact ⟨(gk_ hg hT i).2.2.1 (by omega), by omega, by omega⟩
              have hwb := ln_b T (e - p) p 0 (fun j h1 h2 => (hLe j h1 (by omega)).2) (by omega)
              refine ag_iload dd_Formula_split_88 rfl ?_
              refine ag_bipush dd_Formula_split_90 (by decide +kernel) ?_
              refine ag_icmp_ne (tgt := 112) dd_Formula_split_92 (by decide) (by omega) (by omega) (fun c5 => ?_) (fun c5 => ?_)
              · refine ag_iload dd_Formula_split_112 rfl ?_
                refine ag_bipush dd_Formula_split_114 (by decide +kernel) ?_
                refine ag_icmp_ne (tgt := 136) dd_Formula_split_116 (by decide) (by omega) (by omega) (fun c6 => ?_) (fun c6 => ?_)
                · exfalso; omega
                · refine ag_aload_n dd_Formula_split_119 rfl ?_
                  refine ag_aload_n dd_Formula_split_120 rfl ?_
                  refine ag_iload dd_Formula_split_121 rfl ?_
                  refine ag_iload dd_Formula_split_123 rfl ?_
                  refine ag_rS dd_Formula_split_125 fi_Formula_42 (mc_Formula_numberToken (d := 1) (by omega) hA (T := T) (p := p) (e := e) (x := ((e : Nat) : Int) - 1) (by omega) (by omega) (by omega) hLe) rfl rfl (by omega) (Nat.le_of_ble_eq_true rfl) ?_
                  refine ag_iload dd_Formula_split_128 rfl ?_
                  refine ag_wV dd_Formula_split_130 fi_Formula_38 hc rfl (mc_Formula_put (d := 0) H (by omega) (x := (1000 + ln_ T (e - p) p 0)) (y := (p : Int)) (by omega) (by omega)) rfl rfl (by omega) (Nat.le_of_ble_eq_true rfl) (fun r1 h hP => ?_)
                  obtain ⟨rfl, H2, hf2⟩ := hP
                  replace hf2 := f3_tr hf hf2
                  have hA2 : h[A]? = some (ac_a 1 100 g) := (hf2.2 A hAF.1 hAF.2.1 hAF.2.2).trans hA0
                  refine ag_goto (tgt := 151) dd_Formula_split_133 (by decide) ?_
                  refine ag_iincN (Lf := fun y => [some (av_r (F)), some (av_r (A)), some (av_i (len)), some (av_i ((n : Int))), some (av_i (y)), some (av_i ((p : Int))), some (av_i (48)), some (av_i (1))]) dd_Formula_split_151 rfl (fun _ => rfl) rfl (by decide) (fun y7 ey7 => ?_)
                  refine ag_goto (tgt := 15) dd_Formula_split_154 (by decide) ?_
                  obtain rfl : y7 = ((e : Nat) : Int) := by omega
                  refine ag_weak [some (av_r (F)), some (av_r (A)), some (av_i (len)), some (av_i ((n : Int))), some (av_i (((e : Nat) : Int))), none, none, none] (by simp [al_le]) ?_
                  exact ih _ (e) _ (by omega) (by omega) (by rw [List.length_append, List.length_singleton]; omega) H2 hf2 hA2 (fun h z1 z2 => hX h (by rw [lx_n hpn hk, he]; rw [List.append_assoc] at z1; exact z1) z2)
              · exfalso; omega
      · skip
        have hgk := gk_ hg hT p
        have Hs := H
        obtain ⟨ha, rest, hr, hc⟩ := Hs
        refine ag_iload dd_Formula_split_15 rfl ?_
        refine ag_iload_n dd_Formula_split_17 rfl ?_
        refine ag_icmp_ge (tgt := 157) dd_Formula_split_18 (by decide) (by omega) (by omega) (fun c1 => ?_) (fun c1 => ?_)
        · exfalso; omega
        · refine ag_iload dd_Formula_split_21 rfl ?_
          refine ag_istore (L' := [some (av_r (F)), some (av_r (A)), some (av_i (len)), some (av_i ((n : Int))), some (av_i ((p : Int))), some (av_i ((p : Int))), none, none]) dd_Formula_split_23 rfl rfl (by decide) ?_
          refine ag_aload_n dd_Formula_split_25 rfl ?_
          refine ag_iload dd_Formula_split_26 rfl ?_
          refine ag_baldN dd_Formula_split_28 hA (by decide) (by omega) ?_
          refine ag_rS dd_Formula_split_29 fi_Formula_30 (mc_Formula_kindOf (d := 1) (by omega) (by omega)) rfl rfl (by omega) (Nat.le_of_ble_eq_true rfl) ?_
          refine ag_istoreN (Lf := fun y => [some (av_r (F)), some (av_r (A)), some (av_i (len)), some (av_i ((n : Int))), some (av_i ((p : Int))), some (av_i ((p : Int))), some (av_i (y)), none]) dd_Formula_split_32 (fun _ => rfl) rfl (by decide) (fun y2 ey2 => ?_)
          obtain rfl : y2 = 32 := by omega
          refine ag_iload dd_Formula_split_34 rfl ?_
          refine ag_bipush dd_Formula_split_36 (by decide +kernel) ?_
          refine ag_icmp_eq (tgt := 48) dd_Formula_split_38 (by decide) (by omega) (by omega) (fun c3 => ?_) (fun c3 => ?_)
          · exfalso; omega
          · refine ag_iload dd_Formula_split_41 rfl ?_
            refine ag_bipush dd_Formula_split_43 (by decide +kernel) ?_
            refine ag_icmp_ne (tgt := 52) dd_Formula_split_45 (by decide) (by omega) (by omega) (fun c4 => ?_) (fun c4 => ?_)
            · refine ag_iconst dd_Formula_split_52 ?_
              refine ag_istore (L' := [some (av_r (F)), some (av_r (A)), some (av_i (len)), some (av_i ((n : Int))), some (av_i ((p : Int))), some (av_i ((p : Int))), some (av_i (32)), some (av_i (0))]) dd_Formula_split_53 rfl rfl (by decide) ?_
              refine ag_iload dd_Formula_split_55 rfl ?_
              refine ag_if_eq (tgt := 88) dd_Formula_split_57 (by decide) (by omega) (fun c5 => ?_) (fun c5 => ?_)
              · refine ag_iload dd_Formula_split_88 rfl ?_
                refine ag_bipush dd_Formula_split_90 (by decide +kernel) ?_
                refine ag_icmp_ne (tgt := 112) dd_Formula_split_92 (by decide) (by omega) (by omega) (fun c6 => ?_) (fun c6 => ?_)
                · refine ag_iload dd_Formula_split_112 rfl ?_
                  refine ag_bipush dd_Formula_split_114 (by decide +kernel) ?_
                  refine ag_icmp_ne (tgt := 136) dd_Formula_split_116 (by decide) (by omega) (by omega) (fun c7 => ?_) (fun c7 => ?_)
                  · refine ag_iload dd_Formula_split_136 rfl ?_
                    refine ag_bipush dd_Formula_split_138 (by decide +kernel) ?_
                    refine ag_icmp_eq (tgt := 151) dd_Formula_split_140 (by decide) (by omega) (by omega) (fun c8 => ?_) (fun c8 => ?_)
                    · refine ag_iincN (Lf := fun y => [some (av_r (F)), some (av_r (A)), some (av_i (len)), some (av_i ((n : Int))), some (av_i (y)), some (av_i ((p : Int))), some (av_i (32)), some (av_i (0))]) dd_Formula_split_151 rfl (fun _ => rfl) rfl (by decide) (fun y9 ey9 => ?_)
                      refine ag_goto (tgt := 15) dd_Formula_split_154 (by decide) ?_
                      obtain rfl : y9 = ((p + 1 : Nat) : Int) := by omega
                      refine ag_weak [some (av_r (F)), some (av_r (A)), some (av_i (len)), some (av_i ((n : Int))), some (av_i (((p + 1 : Nat) : Int))), none, none, none] (by simp [al_le]) ?_
                      exact ih _ (p + 1) _ (by omega) (by omega) (by omega) H hf hA (fun h z1 z2 => hX h (by rw [lx_b hpn hk]; exact z1) z2)
                    · exfalso; omega
                  · exfalso; omega
                · exfalso; omega
              · exfalso; omega
            · exfalso; omega
      · skip
        have hgk := gk_ hg hT p
        have Hs := H
        obtain ⟨ha, rest, hr, hc⟩ := Hs
        refine ag_iload dd_Formula_split_15 rfl ?_
        refine ag_iload_n dd_Formula_split_17 rfl ?_
        refine ag_icmp_ge (tgt := 157) dd_Formula_split_18 (by decide) (by omega) (by omega) (fun c1 => ?_) (fun c1 => ?_)
        · exfalso; omega
        · refine ag_iload dd_Formula_split_21 rfl ?_
          refine ag_istore (L' := [some (av_r (F)), some (av_r (A)), some (av_i (len)), some (av_i ((n : Int))), some (av_i ((p : Int))), some (av_i ((p : Int))), none, none]) dd_Formula_split_23 rfl rfl (by decide) ?_
          refine ag_aload_n dd_Formula_split_25 rfl ?_
          refine ag_iload dd_Formula_split_26 rfl ?_
          refine ag_baldN dd_Formula_split_28 hA (by decide) (by omega) ?_
          refine ag_rS dd_Formula_split_29 fi_Formula_30 (mc_Formula_kindOf (d := 1) (by omega) (by omega)) rfl rfl (by omega) (Nat.le_of_ble_eq_true rfl) ?_
          refine ag_istoreN (Lf := fun y => [some (av_r (F)), some (av_r (A)), some (av_i (len)), some (av_i ((n : Int))), some (av_i ((p : Int))), some (av_i ((p : Int))), some (av_i (y)), none]) dd_Formula_split_32 (fun _ => rfl) rfl (by decide) (fun y2 ey2 => ?_)
          have hyk : y2 = lk_ (T p) := by omega
          refine ag_iload dd_Formula_split_34 rfl ?_
          refine ag_bipush dd_Formula_split_36 (by decide +kernel) ?_
          refine ag_icmp_eq (tgt := 48) dd_Formula_split_38 (by decide) (by omega) (by omega) (fun c3 => ?_) (fun c3 => ?_)
          · exfalso; omega
          · refine ag_iload dd_Formula_split_41 rfl ?_
            refine ag_bipush dd_Formula_split_43 (by decide +kernel) ?_
            refine ag_icmp_ne (tgt := 52) dd_Formula_split_45 (by decide) (by omega) (by omega) (fun c4 => ?_) (fun c4 => ?_)
            · refine ag_iconst dd_Formula_split_52 ?_
              refine ag_istore (L' := [some (av_r (F)), some (av_r (A)), some (av_i (len)), some (av_i ((n : Int))), some (av_i ((p : Int))), some (av_i ((p : Int))), some (av_i (y2)), some (av_i (0))]) dd_Formula_split_53 rfl rfl (by decide) ?_
              refine ag_iload dd_Formula_split_55 rfl ?_
              refine ag_if_eq (tgt := 88) dd_Formula_split_57 (by decide) (by omega) (fun c5 => ?_) (fun c5 => ?_)
              · refine ag_iload dd_Formula_split_88 rfl ?_
                refine ag_bipush dd_Formula_split_90 (by decide +kernel) ?_
                refine ag_icmp_ne (tgt := 112) dd_Formula_split_92 (by decide) (by omega) (by omega) (fun c6 => ?_) (fun c6 => ?_)
                · refine ag_iload dd_Formula_split_112 rfl ?_
                  refine ag_bipush dd_Formula_split_114 (by decide +kernel) ?_
                  refine ag_icmp_ne (tgt := 136) dd_Formula_split_116 (by decide) (by omega) (by omega) (fun c7 => ?_) (fun c7 => ?_)
                  · refine ag_iload dd_Formula_split_136 rfl ?_
                    refine ag_bipush dd_Formula_split_138 (by decide +kernel) ?_
                    refine ag_icmp_eq (tgt := 151) dd_Formula_split_140 (by decide) (by omega) (by omega) (fun c8 => ?_) (fun c8 => ?_)
                    · exfalso; omega
                    · refine ag_aload_n dd_Formula_split_143 rfl ?_
                      refine ag_iload dd_Formula_split_144 rfl ?_
                      refine ag_iload dd_Formula_split_146 rfl ?_
                      refine ag_wV dd_Formula_split_148 fi_Formula_38 hc rfl (mc_Formula_put (d := 0) H (by omega) (x := y2) (y := (p : Int)) (by omega) (by omega)) rfl rfl (by omega) (Nat.le_of_ble_eq_true rfl) (fun r1 h hP => ?_)
                      obtain ⟨rfl, H2, hf2⟩ := hP
                      replace hf2 := f3_tr hf hf2
                      have hA2 : h[A]? = some (ac_a 1 100 g) := (hf2.2 A hAF.1 hAF.2.1 hAF.2.2).trans hA0
                      refine ag_iincN (Lf := fun y => [some (av_r (F)), some (av_r (A)), some (av_i (len)), some (av_i ((n : Int))), some (av_i (y)), some (av_i ((p : Int))), some (av_i (y2)), some (av_i (0))]) dd_Formula_split_151 rfl (fun _ => rfl) rfl (by decide) (fun y9 ey9 => ?_)
                      refine ag_goto (tgt := 15) dd_Formula_split_154 (by decide) ?_
                      rw [hyk] at H2
                      obtain rfl : y9 = ((p + 1 : Nat) : Int) := by omega
                      refine ag_weak [some (av_r (F)), some (av_r (A)), some (av_i (len)), some (av_i ((n : Int))), some (av_i (((p + 1 : Nat) : Int))), none, none, none] (by simp [al_le]) ?_
                      exact ih _ (p + 1) _ (by omega) (by omega) (by rw [List.length_append, List.length_singleton]; omega) H2 hf2 hA2 (fun h z1 z2 => hX h (by rw [lx_s hpn hk.1 hk.2.1 hk.2.2]; rw [List.append_assoc] at z1; exact z1) z2)
                  · exfalso; omega
                · exfalso; omega
              · exfalso; omega
            · exfalso; omega
    · obtain rfl : p = n := by omega
      have hgk := gk_ hg hT p
      have Hs := H
      obtain ⟨ha, rest, hr, hc⟩ := Hs
      refine ag_iload dd_Formula_split_15 rfl ?_
      refine ag_iload_n dd_Formula_split_17 rfl ?_
      refine ag_icmp_ge (tgt := 157) dd_Formula_split_18 (by decide) (by omega) (by omega) (fun c1 => ?_) (fun c1 => ?_)
      · refine ag_aload_n dd_Formula_split_157 rfl ?_
        refine ag_iconst dd_Formula_split_158 ?_
        refine ag_iload_n dd_Formula_split_159 rfl ?_
        refine ag_wV dd_Formula_split_160 fi_Formula_38 hc rfl (mc_Formula_put (d := 0) H (by omega) (x := 0) (y := (p : Int)) (by omega) (by omega)) rfl rfl (by omega) (Nat.le_of_ble_eq_true rfl) (fun r1 h hP => ?_)
        obtain ⟨rfl, H2, hf2⟩ := hP
        replace hf2 := f3_tr hf hf2
        have hA2 : h[A]? = some (ac_a 1 100 g) := (hf2.2 A hAF.1 hAF.2.1 hAF.2.2).trans hA0
        refine ag_vret dd_Formula_split_163 rfl ?_
        rw [lx_end (by omega)] at hX
        exact hX h H2 hf2
      · exfalso; omega
set_option maxHeartbeats 1000000 in
theorem mc_Formula_split {w : aw_T} {h : ah_T} {d : Nat} (hd : 2 ≤ d) {F A : Nat} (hAF : A ≠ F ∧ A ≠ F + 1 ∧ A ≠ F + 2) {g T : Nat → Int} (hg : ∀ i, g i = sb_ (T i)) (hT : ∀ i, 0 ≤ T i ∧ T i ≤ 255) (hA : h[A]? = some (ac_a 1 100 g)) {n : Nat} (hn : n ≤ 100) {v2 : av_T} {rest : List av_T} (hr : rest.length = 8) (hc : h[F]? = some (ac_o 5 (av_r (F + 1) :: av_r (F + 2) :: v2 :: rest))) {tk pk : Nat → Int} (hT1 : h[F + 1]? = some (ac_a 0 101 tk)) (hP1 : h[F + 2]? = some (ac_a 0 101 pk)) : am_M w mm_Formula_split d [av_r F, av_r A, av_i (n : Int)] h 0 0 (fun r1 h1 => r1 = none ∧ sg_ h1 F (lx_ T n 100 0) ∧ f3_ h h1 F) := by
  refine am_intro [some (av_r (F)), some (av_r (A)), some (av_i ((n : Int))), none, none, none, none, none] (by decide +kernel) (Nat.le_of_ble_eq_true rfl) rfl ?_
  refine ag_aload_n dd_Formula_split_0 rfl ?_
  refine ag_iconst dd_Formula_split_1 ?_
  refine hp_i dd_Formula_split_2 fp_Formula_20 hc (Nat.le_of_ble_eq_true rfl) (fun h huN => ?_)
  have hu1 := huN
  clear huN
  refine ag_iload_n dd_Formula_split_5 rfl ?_
  refine ag_aload_n dd_Formula_split_6 rfl ?_
  refine ag_alen dd_Formula_split_7 ((hu1.2.2 A hAF.1).trans hA) (by decide) ?_
  refine ag_min dd_Formula_split_8 fi_Formula_24 fo_mins fo_m fo_minc (by omega) (by omega) (by omega) (Nat.le_of_ble_eq_true rfl) ?_
  refine ag_istore_nN (Lf := fun y => [some (av_r (F)), some (av_r (A)), some (av_i ((n : Int))), some (av_i (y)), none, none, none, none]) dd_Formula_split_11 (fun _ => rfl) rfl (by decide) (fun y1 ey1 => ?_)
  refine ag_iconst dd_Formula_split_12 ?_
  refine ag_istore (L' := [some (av_r (F)), some (av_r (A)), some (av_i ((n : Int))), some (av_i (y1)), some (av_i (0)), none, none, none]) dd_Formula_split_13 rfl rfl (by decide) ?_
  obtain rfl : y1 = ((n : Nat) : Int) := by omega
  have H : sg_ h F [] := ⟨⟨Nat.zero_le _, ⟨tk, (hu1.2.2 (F + 1) (by omega)).trans hT1, fun j hj => absurd hj (Nat.not_lt_zero j)⟩, ⟨pk, (hu1.2.2 (F + 2) (by omega)).trans hP1, fun j hj => absurd hj (Nat.not_lt_zero j)⟩, fun q hq => by cases hq⟩, rest, hr, hu1.2.1⟩
  exact ml_Formula_split hd hAF hg hT hA hn 100 [] 0 h (Nat.zero_le _) (by omega) (Nat.le_refl _) H ⟨hu1.1, fun b q1 q2 q3 => hu1.2.2 b q1⟩ ((hu1.2.2 A hAF.1).trans hA) (fun h z1 z2 => ⟨rfl, z1, z2⟩)
