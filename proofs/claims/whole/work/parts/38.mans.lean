def sp_fault (S : ms_T) (a : Int) : Int := if a = 0 then S.1 47 else if a = 1 then S.1 48 else -1
def sp_sweet (S : ms_T) (f t : Int) : Int := if (0 ≤ f ∧ f < S.1 2) ∧ (0 ≤ t ∧ t ≤ 4000) then sp_swt S f.toNat t else -1
def sp_fieldOf (S : ms_T) (f a : Int) : Int := if ¬ (0 ≤ f ∧ f < S.1 2) then -1 else if a = 0 then S.2 40 f.toNat else if a = 1 then S.2 41 f.toNat else if a = 2 then S.2 46 f.toNat else if a = 3 then S.2 47 f.toNat else if a = 4 then (if 0 ≤ S.2 49 f.toNat then 1 else 0) else if a = 5 then S.2 48 f.toNat else if a = 6 then S.2 51 f.toNat else -1
def sp_load (S : ms_T) (l a : Int) : Int := if ¬ (0 ≤ l ∧ l < S.1 3) then -1 else if a = 0 then S.2 55 l.toNat else if a = 1 then S.2 56 l.toNat else if a = 2 then S.2 57 l.toNat else if a = 3 then S.2 58 l.toNat else if a = 4 then S.2 59 l.toNat else if a = 5 then S.2 60 l.toNat else if a = 6 then S.2 61 l.toNat else if a = 7 then (if 0 ≤ S.2 62 l.toNat then 1 else 0) else if a = 8 then S.2 63 l.toNat else -1
def sp_bundle (S : ms_T) (i : Int) : Int := if 0 ≤ i ∧ i < S.1 36 then S.2 65 i.toNat else -1
def sp_paid (S : ms_T) (f : Int) : Int := if 0 ≤ f ∧ f < S.1 1 then S.2 39 f.toNat else 0
set_option maxHeartbeats 1000000 in
theorem mc_M_fault {w : aw_T} {h0 h : ah_T} {S : ms_T} {d : Nat} (hd : 0 ≤ d) (hM : mo_I h0 h S) {a : Int} (ha : -2147483648 ≤ a ∧ a < 2147483648) : am_M w mm_M_fault d [av_r 38, av_i a] h 0 0 (fun r h' => r = some (av_i (sp_fault S a)) ∧ h' = h) := by
  refine am_intro [some (av_r 38), some (av_i (a))] (by decide +kernel) (Nat.le_of_ble_eq_true rfl) rfl ?_
  refine ag_iload_n dd_M_fault_0 rfl ?_
  refine ag_if_ne (tgt := 11) dd_M_fault_1 (by decide) (by omega) (fun c1 => ?_) (fun c1 => ?_)
  · refine ag_iload_n dd_M_fault_11 rfl ?_
    refine ag_iconst dd_M_fault_12 ?_
    refine ag_icmp_ne (tgt := 23) dd_M_fault_13 (by decide) (by omega) (by omega) (fun c2 => ?_) (fun c2 => ?_)
    · refine ag_iconst dd_M_fault_23 ?_
      refine ag_iret dd_M_fault_24 rfl ?_
      refine ⟨congrArg (fun z => some (av_i z)) ?_, rfl⟩
      unfold sp_fault
      repeat (first | rw [if_pos (by omega)] | rw [if_neg (by omega)])
      try rfl
    · refine ag_aload_n dd_M_fault_16 rfl ?_
      refine ag_get dd_M_fault_17 fg_M_128 (mr_38 hM) rfl ?_
      refine ag_goto (tgt := 24) dd_M_fault_20 (by decide) ?_
      refine ag_iret dd_M_fault_24 rfl ?_
      refine ⟨congrArg (fun z => some (av_i z)) ?_, rfl⟩
      unfold sp_fault
      repeat (first | rw [if_pos (by omega)] | rw [if_neg (by omega)])
      try rfl
  · refine ag_aload_n dd_M_fault_4 rfl ?_
    refine ag_get dd_M_fault_5 fg_M_125 (mr_38 hM) rfl ?_
    refine ag_goto (tgt := 24) dd_M_fault_8 (by decide) ?_
    refine ag_iret dd_M_fault_24 rfl ?_
    refine ⟨congrArg (fun z => some (av_i z)) ?_, rfl⟩
    unfold sp_fault
    repeat (first | rw [if_pos (by omega)] | rw [if_neg (by omega)])
    try rfl
set_option maxHeartbeats 1000000 in
theorem mc_M_sweet {w : aw_T} {h0 h : ah_T} {S : ms_T} {d : Nat} (hd : 2 ≤ d) (hM : mo_I h0 h S) {f : Int} (hf : -2147483648 ≤ f ∧ f < 2147483648) {t : Int} (ht : -2147483648 ≤ t ∧ t < 2147483648) (hfs : iv_fs S) : am_M w mm_M_sweet d [av_r 38, av_i f, av_i t] h 0 0 (fun r h' => r = some (av_i (sp_sweet S f t)) ∧ h' = h) := by
  refine am_intro [some (av_r 38), some (av_i (f)), some (av_i (t))] (by decide +kernel) (Nat.le_of_ble_eq_true rfl) rfl ?_
  have hf2 := hfs.1
  refine ag_aload_n dd_M_sweet_0 rfl ?_
  refine ag_iload_n dd_M_sweet_1 rfl ?_
  refine ag_rV dd_M_sweet_2 fi_M_180 (mr_38 hM) rfl (mc_M_isField (d := 1) (by omega) hM (by omega) (by omega)) rfl rfl (by omega) (Nat.le_of_ble_eq_true rfl) ?_
  refine ag_if_eqB (tgt := 28) dd_M_sweet_5 (by decide) (fun c1 => ?_) (fun c1 => ?_)
  · refine ag_iconst dd_M_sweet_28 ?_
    refine ag_iret dd_M_sweet_29 rfl ?_
    refine ⟨congrArg (fun z => some (av_i z)) ?_, rfl⟩
    unfold sp_sweet
    try simp only [Int.toNat_natCast]
    repeat (first | rw [if_pos (by omega)] | rw [if_neg (by omega)])
    try rfl
  · obtain ⟨n, rfl⟩ : ∃ n : Nat, f = (n : Int) := ⟨f.toNat, by omega⟩
    refine ag_iload_n dd_M_sweet_8 rfl ?_
    refine ag_iconst dd_M_sweet_9 ?_
    refine ag_sipush dd_M_sweet_10 (by decide +kernel) ?_
    refine ag_rS dd_M_sweet_13 fi_M_155 (mc_M_isIn (d := 0) (by omega) (by omega) (by omega)) rfl rfl (by omega) (Nat.le_of_ble_eq_true rfl) ?_
    refine ag_if_eqB (tgt := 28) dd_M_sweet_16 (by decide) (fun c2 => ?_) (fun c2 => ?_)
    · refine ag_iconst dd_M_sweet_28 ?_
      refine ag_iret dd_M_sweet_29 rfl ?_
      refine ⟨congrArg (fun z => some (av_i z)) ?_, rfl⟩
      unfold sp_sweet
      try simp only [Int.toNat_natCast]
      repeat (first | rw [if_pos (by omega)] | rw [if_neg (by omega)])
      try rfl
    · refine ag_aload_n dd_M_sweet_19 rfl ?_
      refine ag_iload_n dd_M_sweet_20 rfl ?_
      refine ag_iload_n dd_M_sweet_21 rfl ?_
      refine ag_rV dd_M_sweet_22 fi_M_187 (mr_38 hM) rfl (mc_M_sweetAt (d := 0) (by omega) hM (by omega) (hfs.2 n (by omega)).sw (by omega)) rfl rfl (by omega) (Nat.le_of_ble_eq_true rfl) ?_
      refine ag_goto (tgt := 29) dd_M_sweet_25 (by decide) ?_
      refine ag_iret dd_M_sweet_29 rfl ?_
      refine ⟨congrArg (fun z => some (av_i z)) ?_, rfl⟩
      unfold sp_sweet
      try simp only [Int.toNat_natCast]
      repeat (first | rw [if_pos (by omega)] | rw [if_neg (by omega)])
      try rfl
set_option maxHeartbeats 1000000 in
theorem mc_M_fieldOf {w : aw_T} {h0 h : ah_T} {S : ms_T} {d : Nat} (hd : 2 ≤ d) (hM : mo_I h0 h S) {f : Int} (hf : -2147483648 ≤ f ∧ f < 2147483648) {a : Int} (ha : -2147483648 ≤ a ∧ a < 2147483648) (hfs : iv_fs S) : am_M w mm_M_fieldOf d [av_r 38, av_i f, av_i a] h 0 0 (fun r h' => r = some (av_i (sp_fieldOf S f a)) ∧ h' = h) := by
  refine am_intro [some (av_r 38), some (av_i (f)), some (av_i (a))] (by decide +kernel) (Nat.le_of_ble_eq_true rfl) rfl ?_
  have hf2 := hfs.1
  refine ag_aload_n dd_M_fieldOf_0 rfl ?_
  refine ag_iload_n dd_M_fieldOf_1 rfl ?_
  refine ag_rV dd_M_fieldOf_2 fi_M_180 (mr_38 hM) rfl (mc_M_isField (d := 1) (by omega) hM (by omega) (by omega)) rfl rfl (by omega) (Nat.le_of_ble_eq_true rfl) ?_
  refine ag_if_neB (tgt := 10) dd_M_fieldOf_5 (by decide) (fun c1 => ?_) (fun c1 => ?_)
  · obtain ⟨n, rfl⟩ : ∃ n : Nat, f = (n : Int) := ⟨f.toNat, by omega⟩
    obtain ⟨h40, -, -, -, -, -, h46, -, h48, h49, h50, -⟩ := hfs.2 n (by omega)
    refine ag_iload_n dd_M_fieldOf_10 rfl ?_
    rcases (show (a < 0 ∨ 6 < a) ∨ a = 0 ∨ a = 1 ∨ a = 2 ∨ a = 3 ∨ a = 4 ∨ a = 5 ∨ a = 6 by omega) with c2 | c2 | c2 | c2 | c2 | c2 | c2 | c2
    · refine ag_tabOut (tgt := 109) dd_M_fieldOf_11 (by omega) c2 (by decide) ?_
      refine ag_iconst dd_M_fieldOf_109 ?_
      refine ag_iret dd_M_fieldOf_110 rfl ?_
      refine ⟨congrArg (fun z => some (av_i z)) ?_, rfl⟩
      unfold sp_fieldOf
      try simp only [Int.toNat_natCast]
      repeat (first | rw [if_pos (by omega)] | rw [if_neg (by omega)])
    · refine ag_tabIn (tgt := 52) (off := 41) dd_M_fieldOf_11 (by omega) (by omega) (by omega) (by rw [c2]; rfl) (by decide) ?_
      refine ag_aload_n dd_M_fieldOf_52 rfl ?_
      refine ag_get dd_M_fieldOf_53 fg_M_26 (mr_38 hM) rfl ?_
      refine ag_iload_n dd_M_fieldOf_56 rfl ?_
      refine ag_ialdN dd_M_fieldOf_57 (mr_40 hM) (by decide) (by omega) ?_
      refine ag_iret dd_M_fieldOf_58 rfl ?_
      have hv0 := c2
      refine ⟨congrArg (fun z => some (av_i z)) ?_, rfl⟩
      unfold sp_fieldOf
      rw [if_neg (by omega), hv0]
      rfl
    · refine ag_tabIn (tgt := 59) (off := 48) dd_M_fieldOf_11 (by omega) (by omega) (by omega) (by rw [c2]; rfl) (by decide) ?_
      refine ag_aload_n dd_M_fieldOf_59 rfl ?_
      refine ag_get dd_M_fieldOf_60 fg_M_30 (mr_38 hM) rfl ?_
      refine ag_iload_n dd_M_fieldOf_63 rfl ?_
      refine ag_ialdN dd_M_fieldOf_64 (mr_41 hM) (by decide) (by omega) ?_
      refine ag_iret dd_M_fieldOf_65 rfl ?_
      have hv0 := c2
      refine ⟨congrArg (fun z => some (av_i z)) ?_, rfl⟩
      unfold sp_fieldOf
      rw [if_neg (by omega), hv0]
      rfl
    · refine ag_tabIn (tgt := 66) (off := 55) dd_M_fieldOf_11 (by omega) (by omega) (by omega) (by rw [c2]; rfl) (by decide) ?_
      refine ag_aload_n dd_M_fieldOf_66 rfl ?_
      refine ag_get dd_M_fieldOf_67 fg_M_45 (mr_38 hM) rfl ?_
      refine ag_iload_n dd_M_fieldOf_70 rfl ?_
      refine ag_ialdN dd_M_fieldOf_71 (mr_46 hM) (by decide) (by omega) ?_
      refine ag_iret dd_M_fieldOf_72 rfl ?_
      have hv0 := c2
      refine ⟨congrArg (fun z => some (av_i z)) ?_, rfl⟩
      unfold sp_fieldOf
      rw [if_neg (by omega), hv0]
      rfl
    · refine ag_tabIn (tgt := 73) (off := 62) dd_M_fieldOf_11 (by omega) (by omega) (by omega) (by rw [c2]; rfl) (by decide) ?_
      refine ag_aload_n dd_M_fieldOf_73 rfl ?_
      refine ag_get dd_M_fieldOf_74 fg_M_48 (mr_38 hM) rfl ?_
      refine ag_iload_n dd_M_fieldOf_77 rfl ?_
      refine ag_ialdN dd_M_fieldOf_78 (mr_47 hM) (by decide) (by omega) ?_
      refine ag_iret dd_M_fieldOf_79 rfl ?_
      have hv0 := c2
      refine ⟨congrArg (fun z => some (av_i z)) ?_, rfl⟩
      unfold sp_fieldOf
      rw [if_neg (by omega), hv0]
      rfl
    · refine ag_tabIn (tgt := 80) (off := 69) dd_M_fieldOf_11 (by omega) (by omega) (by omega) (by rw [c2]; rfl) (by decide) ?_
      refine ag_aload_n dd_M_fieldOf_80 rfl ?_
      refine ag_get dd_M_fieldOf_81 fg_M_54 (mr_38 hM) rfl ?_
      refine ag_iload_n dd_M_fieldOf_84 rfl ?_
      refine ag_ialdN dd_M_fieldOf_85 (mr_49 hM) (by decide) (by omega) ?_
      refine ag_if_lt (tgt := 93) dd_M_fieldOf_86 (by decide) (by omega) (fun c3 => ?_) (fun c3 => ?_)
      · refine ag_iconst dd_M_fieldOf_93 ?_
        refine ag_iret dd_M_fieldOf_94 rfl ?_
        have hv0 := c2
        refine ⟨congrArg (fun z => some (av_i z)) ?_, rfl⟩
        unfold sp_fieldOf
        rw [if_neg (by omega), hv0]
        show _ = if 0 ≤ S.2 49 n then (1 : Int) else 0
        first | rw [if_pos (by omega)] | rw [if_neg (by omega)]
      · refine ag_iconst dd_M_fieldOf_89 ?_
        refine ag_goto (tgt := 94) dd_M_fieldOf_90 (by decide) ?_
        refine ag_iret dd_M_fieldOf_94 rfl ?_
        have hv0 := c2
        refine ⟨congrArg (fun z => some (av_i z)) ?_, rfl⟩
        unfold sp_fieldOf
        rw [if_neg (by omega), hv0]
        show _ = if 0 ≤ S.2 49 n then (1 : Int) else 0
        first | rw [if_pos (by omega)] | rw [if_neg (by omega)]
    · refine ag_tabIn (tgt := 95) (off := 84) dd_M_fieldOf_11 (by omega) (by omega) (by omega) (by rw [c2]; rfl) (by decide) ?_
      refine ag_aload_n dd_M_fieldOf_95 rfl ?_
      refine ag_get dd_M_fieldOf_96 fg_M_51 (mr_38 hM) rfl ?_
      refine ag_iload_n dd_M_fieldOf_99 rfl ?_
      refine ag_ialdN dd_M_fieldOf_100 (mr_48 hM) (by decide) (by omega) ?_
      refine ag_iret dd_M_fieldOf_101 rfl ?_
      have hv0 := c2
      refine ⟨congrArg (fun z => some (av_i z)) ?_, rfl⟩
      unfold sp_fieldOf
      rw [if_neg (by omega), hv0]
      rfl
    · refine ag_tabIn (tgt := 102) (off := 91) dd_M_fieldOf_11 (by omega) (by omega) (by omega) (by rw [c2]; rfl) (by decide) ?_
      refine ag_aload_n dd_M_fieldOf_102 rfl ?_
      refine ag_get dd_M_fieldOf_103 fg_M_60 (mr_38 hM) rfl ?_
      refine ag_iload_n dd_M_fieldOf_106 rfl ?_
      refine ag_ialdN dd_M_fieldOf_107 (mr_51 hM) (by decide) (by omega) ?_
      refine ag_iret dd_M_fieldOf_108 rfl ?_
      have hv0 := c2
      refine ⟨congrArg (fun z => some (av_i z)) ?_, rfl⟩
      unfold sp_fieldOf
      rw [if_neg (by omega), hv0]
      rfl
  · refine ag_iconst dd_M_fieldOf_8 ?_
    refine ag_iret dd_M_fieldOf_9 rfl ?_
    refine ⟨congrArg (fun z => some (av_i z)) ?_, rfl⟩
    unfold sp_fieldOf
    rw [if_pos (by omega)]
set_option maxHeartbeats 1000000 in
theorem mc_M_load {w : aw_T} {h0 h : ah_T} {S : ms_T} {d : Nat} (hd : 2 ≤ d) (hM : mo_I h0 h S) {l : Int} (hl : -2147483648 ≤ l ∧ l < 2147483648) {a : Int} (ha : -2147483648 ≤ a ∧ a < 2147483648) (hI : iv_S S) : am_M w mm_M_load d [av_r 38, av_i l, av_i a] h 0 0 (fun r h' => r = some (av_i (sp_load S l a)) ∧ h' = h) := by
  refine am_intro [some (av_r 38), some (av_i (l)), some (av_i (a))] (by decide +kernel) (Nat.le_of_ble_eq_true rfl) rfl ?_
  have a3 := hI.1.2.2.2.1
  refine ag_iload_n dd_M_load_0 rfl ?_
  refine ag_iconst dd_M_load_1 ?_
  refine ag_aload_n dd_M_load_2 rfl ?_
  refine ag_get dd_M_load_3 fg_M_191 (mr_38 hM) rfl ?_
  refine ag_iconst dd_M_load_6 ?_
  refine ag_isub dd_M_load_7 ?_
  refine ag_rS dd_M_load_8 fi_M_155 (mc_M_isIn (d := 0) (by omega) (by omega) (by omega)) rfl rfl (by omega) (Nat.le_of_ble_eq_true rfl) ?_
  refine ag_if_neB (tgt := 16) dd_M_load_11 (by decide) (fun c1 => ?_) (fun c1 => ?_)
  · obtain ⟨n, rfl⟩ : ∃ n : Nat, l = (n : Int) := ⟨l.toNat, by omega⟩
    obtain ⟨q1, q2, q3, q4, q5, q6, q7, q8, q9, q10, q11⟩ := hI.2.2.2.1 n (by omega)
    refine ag_iload_n dd_M_load_16 rfl ?_
    rcases (show (a < 0 ∨ 8 < a) ∨ a = 0 ∨ a = 1 ∨ a = 2 ∨ a = 3 ∨ a = 4 ∨ a = 5 ∨ a = 6 ∨ a = 7 ∨ a = 8 by omega) with c2 | c2 | c2 | c2 | c2 | c2 | c2 | c2 | c2 | c2
    · refine ag_tabOut (tgt := 139) dd_M_load_17 (by omega) c2 (by decide) ?_
      refine ag_iconst dd_M_load_139 ?_
      refine ag_iret dd_M_load_140 rfl ?_
      refine ⟨congrArg (fun z => some (av_i z)) ?_, rfl⟩
      unfold sp_load
      try simp only [Int.toNat_natCast]
      repeat (first | rw [if_pos (by omega)] | rw [if_neg (by omega)])
    · refine ag_tabIn (tgt := 68) (off := 51) dd_M_load_17 (by omega) (by omega) (by omega) (by rw [c2]; rfl) (by decide) ?_
      refine ag_aload_n dd_M_load_68 rfl ?_
      refine ag_get dd_M_load_69 fg_M_73 (mr_38 hM) rfl ?_
      refine ag_iload_n dd_M_load_72 rfl ?_
      refine ag_ialdN dd_M_load_73 (mr_55 hM) (by decide) (by omega) ?_
      refine ag_iret dd_M_load_74 rfl ?_
      have hv0 := c2
      refine ⟨congrArg (fun z => some (av_i z)) ?_, rfl⟩
      unfold sp_load
      rw [if_neg (by omega), hv0]
      rfl
    · refine ag_tabIn (tgt := 75) (off := 58) dd_M_load_17 (by omega) (by omega) (by omega) (by rw [c2]; rfl) (by decide) ?_
      refine ag_aload_n dd_M_load_75 rfl ?_
      refine ag_get dd_M_load_76 fg_M_76 (mr_38 hM) rfl ?_
      refine ag_iload_n dd_M_load_79 rfl ?_
      refine ag_ialdN dd_M_load_80 (mr_56 hM) (by decide) (by omega) ?_
      refine ag_iret dd_M_load_81 rfl ?_
      have hv0 := c2
      refine ⟨congrArg (fun z => some (av_i z)) ?_, rfl⟩
      unfold sp_load
      rw [if_neg (by omega), hv0]
      rfl
    · refine ag_tabIn (tgt := 82) (off := 65) dd_M_load_17 (by omega) (by omega) (by omega) (by rw [c2]; rfl) (by decide) ?_
      refine ag_aload_n dd_M_load_82 rfl ?_
      refine ag_get dd_M_load_83 fg_M_79 (mr_38 hM) rfl ?_
      refine ag_iload_n dd_M_load_86 rfl ?_
      refine ag_ialdN dd_M_load_87 (mr_57 hM) (by decide) (by omega) ?_
      refine ag_iret dd_M_load_88 rfl ?_
      have hv0 := c2
      refine ⟨congrArg (fun z => some (av_i z)) ?_, rfl⟩
      unfold sp_load
      rw [if_neg (by omega), hv0]
      rfl
    · refine ag_tabIn (tgt := 89) (off := 72) dd_M_load_17 (by omega) (by omega) (by omega) (by rw [c2]; rfl) (by decide) ?_
      refine ag_aload_n dd_M_load_89 rfl ?_
      refine ag_get dd_M_load_90 fg_M_82 (mr_38 hM) rfl ?_
      refine ag_iload_n dd_M_load_93 rfl ?_
      refine ag_ialdN dd_M_load_94 (mr_58 hM) (by decide) (by omega) ?_
      refine ag_iret dd_M_load_95 rfl ?_
      have hv0 := c2
      refine ⟨congrArg (fun z => some (av_i z)) ?_, rfl⟩
      unfold sp_load
      rw [if_neg (by omega), hv0]
      rfl
    · refine ag_tabIn (tgt := 96) (off := 79) dd_M_load_17 (by omega) (by omega) (by omega) (by rw [c2]; rfl) (by decide) ?_
      refine ag_aload_n dd_M_load_96 rfl ?_
      refine ag_get dd_M_load_97 fg_M_85 (mr_38 hM) rfl ?_
      refine ag_iload_n dd_M_load_100 rfl ?_
      refine ag_ialdN dd_M_load_101 (mr_59 hM) (by decide) (by omega) ?_
      refine ag_iret dd_M_load_102 rfl ?_
      have hv0 := c2
      refine ⟨congrArg (fun z => some (av_i z)) ?_, rfl⟩
      unfold sp_load
      rw [if_neg (by omega), hv0]
      rfl
    · refine ag_tabIn (tgt := 103) (off := 86) dd_M_load_17 (by omega) (by omega) (by omega) (by rw [c2]; rfl) (by decide) ?_
      refine ag_aload_n dd_M_load_103 rfl ?_
      refine ag_get dd_M_load_104 fg_M_88 (mr_38 hM) rfl ?_
      refine ag_iload_n dd_M_load_107 rfl ?_
      refine ag_ialdN dd_M_load_108 (mr_60 hM) (by decide) (by omega) ?_
      refine ag_iret dd_M_load_109 rfl ?_
      have hv0 := c2
      refine ⟨congrArg (fun z => some (av_i z)) ?_, rfl⟩
      unfold sp_load
      rw [if_neg (by omega), hv0]
      rfl
    · refine ag_tabIn (tgt := 110) (off := 93) dd_M_load_17 (by omega) (by omega) (by omega) (by rw [c2]; rfl) (by decide) ?_
      refine ag_aload_n dd_M_load_110 rfl ?_
      refine ag_get dd_M_load_111 fg_M_91 (mr_38 hM) rfl ?_
      refine ag_iload_n dd_M_load_114 rfl ?_
      refine ag_ialdN dd_M_load_115 (mr_61 hM) (by decide) (by omega) ?_
      refine ag_iret dd_M_load_116 rfl ?_
      have hv0 := c2
      refine ⟨congrArg (fun z => some (av_i z)) ?_, rfl⟩
      unfold sp_load
      rw [if_neg (by omega), hv0]
      rfl
    · refine ag_tabIn (tgt := 117) (off := 100) dd_M_load_17 (by omega) (by omega) (by omega) (by rw [c2]; rfl) (by decide) ?_
      refine ag_aload_n dd_M_load_117 rfl ?_
      refine ag_get dd_M_load_118 fg_M_94 (mr_38 hM) rfl ?_
      refine ag_iload_n dd_M_load_121 rfl ?_
      refine ag_ialdN dd_M_load_122 (mr_62 hM) (by decide) (by omega) ?_
      refine ag_if_lt (tgt := 130) dd_M_load_123 (by decide) (by omega) (fun c3 => ?_) (fun c3 => ?_)
      · refine ag_iconst dd_M_load_130 ?_
        refine ag_iret dd_M_load_131 rfl ?_
        have hv0 := c2
        refine ⟨congrArg (fun z => some (av_i z)) ?_, rfl⟩
        unfold sp_load
        rw [if_neg (by omega), hv0]
        show _ = if 0 ≤ S.2 62 n then (1 : Int) else 0
        first | rw [if_pos (by omega)] | rw [if_neg (by omega)]
      · refine ag_iconst dd_M_load_126 ?_
        refine ag_goto (tgt := 131) dd_M_load_127 (by decide) ?_
        refine ag_iret dd_M_load_131 rfl ?_
        have hv0 := c2
        refine ⟨congrArg (fun z => some (av_i z)) ?_, rfl⟩
        unfold sp_load
        rw [if_neg (by omega), hv0]
        show _ = if 0 ≤ S.2 62 n then (1 : Int) else 0
        first | rw [if_pos (by omega)] | rw [if_neg (by omega)]
    · refine ag_tabIn (tgt := 132) (off := 115) dd_M_load_17 (by omega) (by omega) (by omega) (by rw [c2]; rfl) (by decide) ?_
      refine ag_aload_n dd_M_load_132 rfl ?_
      refine ag_get dd_M_load_133 fg_M_97 (mr_38 hM) rfl ?_
      refine ag_iload_n dd_M_load_136 rfl ?_
      refine ag_ialdN dd_M_load_137 (mr_63 hM) (by decide) (by omega) ?_
      refine ag_iret dd_M_load_138 rfl ?_
      have hv0 := c2
      refine ⟨congrArg (fun z => some (av_i z)) ?_, rfl⟩
      unfold sp_load
      rw [if_neg (by omega), hv0]
      rfl
  · refine ag_iconst dd_M_load_14 ?_
    refine ag_iret dd_M_load_15 rfl ?_
    refine ⟨congrArg (fun z => some (av_i z)) ?_, rfl⟩
    unfold sp_load
    rw [if_pos (by omega)]
set_option maxHeartbeats 1000000 in
theorem mc_M_bundle {w : aw_T} {h0 h : ah_T} {S : ms_T} {d : Nat} (hd : 1 ≤ d) (hM : mo_I h0 h S) {i : Int} (hi : -2147483648 ≤ i ∧ i < 2147483648) (hI : iv_S S) : am_M w mm_M_bundle d [av_r 38, av_i i] h 0 0 (fun r h' => r = some (av_i (sp_bundle S i)) ∧ h' = h) := by
  refine am_intro [some (av_r 38), some (av_i (i))] (by decide +kernel) (Nat.le_of_ble_eq_true rfl) rfl ?_
  have hsm := iv_sum hI
  have a3 := hI.1.2.2.2.1
  refine ag_iload_n dd_M_bundle_0 rfl ?_
  refine ag_iconst dd_M_bundle_1 ?_
  refine ag_aload_n dd_M_bundle_2 rfl ?_
  refine ag_get dd_M_bundle_3 fg_M_205 (mr_38 hM) rfl ?_
  refine ag_iconst dd_M_bundle_6 ?_
  refine ag_isub dd_M_bundle_7 ?_
  refine ag_rS dd_M_bundle_8 fi_M_155 (mc_M_isIn (d := 0) (by omega) (by omega) (by omega)) rfl rfl (by omega) (Nat.le_of_ble_eq_true rfl) ?_
  refine ag_if_eqB (tgt := 23) dd_M_bundle_11 (by decide) (fun c1 => ?_) (fun c1 => ?_)
  · refine ag_iconst dd_M_bundle_23 ?_
    refine ag_iret dd_M_bundle_24 rfl ?_
    refine ⟨congrArg (fun z => some (av_i z)) ?_, rfl⟩
    unfold sp_bundle
    repeat (first | rw [if_pos (by omega)] | rw [if_neg (by omega)])
    try rfl
  · refine ag_aload_n dd_M_bundle_14 rfl ?_
    refine ag_get dd_M_bundle_15 fg_M_103 (mr_38 hM) rfl ?_
    refine ag_iload_n dd_M_bundle_18 rfl ?_
    refine ag_bald dd_M_bundle_19 (mr_65 hM) (by decide) (by omega) ?_
    refine ag_goto (tgt := 24) dd_M_bundle_20 (by decide) ?_
    refine ag_iret dd_M_bundle_24 rfl ?_
    refine ⟨congrArg (fun z => some (av_i z)) ?_, rfl⟩
    unfold sp_bundle
    repeat (first | rw [if_pos (by omega)] | rw [if_neg (by omega)])
    try rfl
set_option maxHeartbeats 1000000 in
theorem mc_M_paid {w : aw_T} {h0 h : ah_T} {S : ms_T} {d : Nat} (hd : 1 ≤ d) (hM : mo_I h0 h S) {f : Int} (hf : -2147483648 ≤ f ∧ f < 2147483648) (hf1 : 0 ≤ S.1 1 ∧ S.1 1 ≤ 10) : am_M w mm_M_paid d [av_r 38, av_i f] h 0 0 (fun r h' => r = some (av_l (sp_paid S f)) ∧ h' = h) := by
  refine am_intro [some (av_r 38), some (av_i (f))] (by decide +kernel) (Nat.le_of_ble_eq_true rfl) rfl ?_
  refine ag_iload_n dd_M_paid_0 rfl ?_
  refine ag_iconst dd_M_paid_1 ?_
  refine ag_aload_n dd_M_paid_2 rfl ?_
  refine ag_get dd_M_paid_3 fg_M_166 (mr_38 hM) rfl ?_
  refine ag_iconst dd_M_paid_6 ?_
  refine ag_isub dd_M_paid_7 ?_
  refine ag_rS dd_M_paid_8 fi_M_155 (mc_M_isIn (d := 0) (by omega) (by omega) (by omega)) rfl rfl (by omega) (Nat.le_of_ble_eq_true rfl) ?_
  refine ag_if_eqB (tgt := 23) dd_M_paid_11 (by decide) (fun c1 => ?_) (fun c1 => ?_)
  · refine ag_lconst (a := 0) dd_M_paid_23 (by decide +kernel) ?_
    refine ag_lret dd_M_paid_24 rfl ?_
    refine ⟨congrArg (fun z => some (av_l z)) ?_, rfl⟩
    unfold sp_paid
    repeat (first | rw [if_pos (by omega)] | rw [if_neg (by omega)])
    try rfl
  · refine ag_aload_n dd_M_paid_14 rfl ?_
    refine ag_get dd_M_paid_15 fg_M_22 (mr_38 hM) rfl ?_
    refine ag_iload_n dd_M_paid_18 rfl ?_
    refine ag_lald dd_M_paid_19 (mr_39 hM) (by decide) (by omega) ?_
    refine ag_goto (tgt := 24) dd_M_paid_20 (by decide) ?_
    refine ag_lret dd_M_paid_24 rfl ?_
    refine ⟨congrArg (fun z => some (av_l z)) ?_, rfl⟩
    unfold sp_paid
    repeat (first | rw [if_pos (by omega)] | rw [if_neg (by omega)])
    try rfl
def sp_frN (S : ms_T) : Nat → Int
  | 0 => 0
  | n + 1 => sp_frN S n + (if S.2 64 n ≤ S.1 0 then 1 else 0)
theorem sp_frN_b (S : ms_T) : ∀ n : Nat, 0 ≤ sp_frN S n ∧ sp_frN S n ≤ n
  | 0 => by rw [sp_frN]; omega
  | n + 1 => by
    have := sp_frN_b S n
    rw [sp_frN]
    split <;> omega
def sp_about (S : ms_T) (a : Int) : Int := if 20 ≤ a ∧ a < 20 + S.1 39 then S.2 66 (a - 20).toNat else if a = 0 then S.1 0 else if a = 1 then S.1 1 else if a = 2 then S.1 2 else if a = 3 then S.1 3 else if a = 4 then sp_fg S else if a = 5 then sp_frN S (S.1 6).toNat else if a = 6 then sp_turn S else if a = 7 then S.1 36 else if a = 8 then S.1 37 else if a = 9 then S.1 38 else if a = 10 then S.1 43 else -1
set_option maxHeartbeats 1000000 in
theorem ml_M_about {w : aw_T} {h0 h : ah_T} {S : ms_T} {d : Nat} (hd : 1 ≤ d) (hM : mo_I h0 h S) (hI : iv_S S) (ho : iv_ord S) {a : Int} (ha : -2147483648 ≤ a ∧ a < 2147483648) (hna : ¬ (20 ≤ a ∧ a < 20 + S.1 39)) {P : ap_T} (hP : P (some (av_i (sp_about S a))) h) : ∀ (r k : Nat), (k : Int) + r = S.1 6 → aw_W w mm_M_about d P 30 [some (av_r 38), some (av_i (a)), some (av_i ((sp_frN S k))), some (av_i ((k : Int)))] [] h 0 0 := by
  intro r
  induction r with
  | zero =>
    intro k hk
    have hb := sp_frN_b S k
    have a0 := hI.1.1
    have a6 := hI.1.2.2.2.2.2.2.1
    refine ag_iload_n dd_M_about_30 rfl ?_
    refine ag_aload_n dd_M_about_31 rfl ?_
    refine ag_get dd_M_about_32 fg_M_16 (mr_38 hM) rfl ?_
    refine ag_icmp_ge (tgt := 65) dd_M_about_35 (by decide) (by omega) (by omega) (fun c1 => ?_) (fun c1 => ?_)
    · obtain rfl : k = (S.1 6).toNat := by omega
      refine ag_iload_n dd_M_about_65 rfl ?_
      rcases (show (a < 0 ∨ 10 < a) ∨ a = 0 ∨ a = 1 ∨ a = 2 ∨ a = 3 ∨ a = 4 ∨ a = 5 ∨ a = 6 ∨ a = 7 ∨ a = 8 ∨ a = 9 ∨ a = 10 by omega) with c2 | c2 | c2 | c2 | c2 | c2 | c2 | c2 | c2 | c2 | c2 | c2
      · refine ag_tabOut (tgt := 176) dd_M_about_66 (by omega) c2 (by decide) ?_
        refine ag_iconst dd_M_about_176 ?_
        refine ag_iret dd_M_about_177 rfl ?_
        unfold sp_about at hP
        rw [if_neg hna] at hP
        repeat (first | rw [if_pos (by omega)] at hP | rw [if_neg (by omega)] at hP)
        exact hP
      · refine ag_tabIn (tgt := 124) (off := 58) dd_M_about_66 (by omega) (by omega) (by omega) (by rw [c2]; rfl) (by decide) ?_
        refine ag_aload_n dd_M_about_124 rfl ?_
        refine ag_get dd_M_about_125 fg_M_159 (mr_38 hM) rfl ?_
        refine ag_iret dd_M_about_128 rfl ?_
        unfold sp_about at hP
        rw [if_neg hna] at hP
        rw [c2] at hP
        exact hP
      · refine ag_tabIn (tgt := 129) (off := 63) dd_M_about_66 (by omega) (by omega) (by omega) (by rw [c2]; rfl) (by decide) ?_
        refine ag_aload_n dd_M_about_129 rfl ?_
        refine ag_get dd_M_about_130 fg_M_166 (mr_38 hM) rfl ?_
        refine ag_iret dd_M_about_133 rfl ?_
        unfold sp_about at hP
        rw [if_neg hna] at hP
        rw [c2] at hP
        exact hP
      · refine ag_tabIn (tgt := 134) (off := 68) dd_M_about_66 (by omega) (by omega) (by omega) (by rw [c2]; rfl) (by decide) ?_
        refine ag_aload_n dd_M_about_134 rfl ?_
        refine ag_get dd_M_about_135 fg_M_152 (mr_38 hM) rfl ?_
        refine ag_iret dd_M_about_138 rfl ?_
        unfold sp_about at hP
        rw [if_neg hna] at hP
        rw [c2] at hP
        exact hP
      · refine ag_tabIn (tgt := 139) (off := 73) dd_M_about_66 (by omega) (by omega) (by omega) (by rw [c2]; rfl) (by decide) ?_
        refine ag_aload_n dd_M_about_139 rfl ?_
        refine ag_get dd_M_about_140 fg_M_191 (mr_38 hM) rfl ?_
        refine ag_iret dd_M_about_143 rfl ?_
        unfold sp_about at hP
        rw [if_neg hna] at hP
        rw [c2] at hP
        exact hP
      · refine ag_tabIn (tgt := 144) (off := 78) dd_M_about_66 (by omega) (by omega) (by omega) (by rw [c2]; rfl) (by decide) ?_
        refine ag_aload_n dd_M_about_144 rfl ?_
        refine ag_rV dd_M_about_145 fi_M_184 (mr_38 hM) rfl (mc_M_freeGangs (d := 0) (by omega) hM ⟨hI.1.2.2.1, fun f hf => (hI.2.1 f hf).1⟩ hI.1.2.2.2.2.1) rfl rfl (by omega) (Nat.le_of_ble_eq_true rfl) ?_
        refine ag_iret dd_M_about_148 rfl ?_
        unfold sp_about at hP
        rw [if_neg hna] at hP
        rw [c2] at hP
        exact hP
      · refine ag_tabIn (tgt := 149) (off := 83) dd_M_about_66 (by omega) (by omega) (by omega) (by rw [c2]; rfl) (by decide) ?_
        refine ag_iload_n dd_M_about_149 rfl ?_
        refine ag_iret dd_M_about_150 rfl ?_
        unfold sp_about at hP
        rw [if_neg hna] at hP
        rw [c2] at hP
        exact hP
      · refine ag_tabIn (tgt := 151) (off := 85) dd_M_about_66 (by omega) (by omega) (by omega) (by rw [c2]; rfl) (by decide) ?_
        refine ag_aload_n dd_M_about_151 rfl ?_
        refine ag_rV dd_M_about_152 fi_M_176 (mr_38 hM) rfl (mc_M_turn (d := 0) (by omega) hM ho) rfl rfl (by omega) (Nat.le_of_ble_eq_true rfl) ?_
        refine ag_iret dd_M_about_155 rfl ?_
        unfold sp_about at hP
        rw [if_neg hna] at hP
        rw [c2] at hP
        exact hP
      · refine ag_tabIn (tgt := 156) (off := 90) dd_M_about_66 (by omega) (by omega) (by omega) (by rw [c2]; rfl) (by decide) ?_
        refine ag_aload_n dd_M_about_156 rfl ?_
        refine ag_get dd_M_about_157 fg_M_205 (mr_38 hM) rfl ?_
        refine ag_iret dd_M_about_160 rfl ?_
        unfold sp_about at hP
        rw [if_neg hna] at hP
        rw [c2] at hP
        exact hP
      · refine ag_tabIn (tgt := 161) (off := 95) dd_M_about_66 (by omega) (by omega) (by omega) (by rw [c2]; rfl) (by decide) ?_
        refine ag_aload_n dd_M_about_161 rfl ?_
        refine ag_get dd_M_about_162 fg_M_226 (mr_38 hM) rfl ?_
        refine ag_iret dd_M_about_165 rfl ?_
        unfold sp_about at hP
        rw [if_neg hna] at hP
        rw [c2] at hP
        exact hP
      · refine ag_tabIn (tgt := 166) (off := 100) dd_M_about_66 (by omega) (by omega) (by omega) (by rw [c2]; rfl) (by decide) ?_
        refine ag_aload_n dd_M_about_166 rfl ?_
        refine ag_get dd_M_about_167 fg_M_107 (mr_38 hM) rfl ?_
        refine ag_iret dd_M_about_170 rfl ?_
        unfold sp_about at hP
        rw [if_neg hna] at hP
        rw [c2] at hP
        exact hP
      · refine ag_tabIn (tgt := 171) (off := 105) dd_M_about_66 (by omega) (by omega) (by omega) (by rw [c2]; rfl) (by decide) ?_
        refine ag_aload_n dd_M_about_171 rfl ?_
        refine ag_get dd_M_about_172 fg_M_235 (mr_38 hM) rfl ?_
        refine ag_iret dd_M_about_175 rfl ?_
        unfold sp_about at hP
        rw [if_neg hna] at hP
        rw [c2] at hP
        exact hP
    · exfalso; omega
  | succ r ih =>
    intro k hk
    have hb := sp_frN_b S k
    have a0 := hI.1.1
    have a6 := hI.1.2.2.2.2.2.2.1
    refine ag_iload_n dd_M_about_30 rfl ?_
    refine ag_aload_n dd_M_about_31 rfl ?_
    refine ag_get dd_M_about_32 fg_M_16 (mr_38 hM) rfl ?_
    refine ag_icmp_ge (tgt := 65) dd_M_about_35 (by decide) (by omega) (by omega) (fun c1 => ?_) (fun c1 => ?_)
    · exfalso; omega
    · have hT := hI.2.2.2.2.2.2.2 k
      refine ag_iload_n dd_M_about_38 rfl ?_
      refine ag_aload_n dd_M_about_39 rfl ?_
      refine ag_get dd_M_about_40 fg_M_100 (mr_38 hM) rfl ?_
      refine ag_iload_n dd_M_about_43 rfl ?_
      refine ag_ialdN dd_M_about_44 (mr_64 hM) (by decide) (by omega) ?_
      refine ag_aload_n dd_M_about_45 rfl ?_
      refine ag_get dd_M_about_46 fg_M_159 (mr_38 hM) rfl ?_
      refine ag_icmp_gt (tgt := 56) dd_M_about_49 (by decide) (by omega) (by omega) (fun c2 => ?_) (fun c2 => ?_)
      · refine ag_iconst dd_M_about_56 ?_
        refine ag_iadd dd_M_about_57 ?_
        refine ag_istore_nN (Lf := fun y => [some (av_r 38), some (av_i (a)), some (av_i (y)), some (av_i ((k : Int)))]) dd_M_about_58 (fun _ => rfl) rfl (by decide) (fun y3 ey3 => ?_)
        refine ag_iincN (Lf := fun y => [some (av_r 38), some (av_i (a)), some (av_i (y3)), some (av_i (y))]) dd_M_about_59 rfl (fun _ => rfl) rfl (by decide) (fun y4 ey4 => ?_)
        refine ag_goto (tgt := 30) dd_M_about_62 (by decide) ?_
        have ek : y3 = sp_frN S (k + 1) := by
          rw [sp_frN]
          first | (rw [if_pos (by omega)]; omega) | (rw [if_neg (by omega)]; omega)
        obtain rfl : y4 = ((k + 1 : Nat) : Int) := by omega
        rw [ek]
        exact ih (k + 1) (by omega)
      · refine ag_iconst dd_M_about_52 ?_
        refine ag_goto (tgt := 57) dd_M_about_53 (by decide) ?_
        refine ag_iadd dd_M_about_57 ?_
        refine ag_istore_nN (Lf := fun y => [some (av_r 38), some (av_i (a)), some (av_i (y)), some (av_i ((k : Int)))]) dd_M_about_58 (fun _ => rfl) rfl (by decide) (fun y5 ey5 => ?_)
        refine ag_iincN (Lf := fun y => [some (av_r 38), some (av_i (a)), some (av_i (y5)), some (av_i (y))]) dd_M_about_59 rfl (fun _ => rfl) rfl (by decide) (fun y6 ey6 => ?_)
        refine ag_goto (tgt := 30) dd_M_about_62 (by decide) ?_
        have ek : y5 = sp_frN S (k + 1) := by
          rw [sp_frN]
          first | (rw [if_pos (by omega)]; omega) | (rw [if_neg (by omega)]; omega)
        obtain rfl : y6 = ((k + 1 : Nat) : Int) := by omega
        rw [ek]
        exact ih (k + 1) (by omega)
set_option maxHeartbeats 1000000 in
theorem mc_M_about {w : aw_T} {h0 h : ah_T} {S : ms_T} {d : Nat} (hd : 1 ≤ d) (hM : mo_I h0 h S) (hI : iv_S S) (ho : iv_ord S) {a : Int} (ha : -2147483648 ≤ a ∧ a < 2147483648) : am_M w mm_M_about d [av_r 38, av_i a] h 0 0 (fun r h' => r = some (av_i (sp_about S a)) ∧ h' = h) := by
  refine am_intro [some (av_r 38), some (av_i (a)), none, none] (by decide +kernel) (Nat.le_of_ble_eq_true rfl) rfl ?_
  have a6 := hI.1.2.2.2.2.2.2.1
  have ho1 := ho.1
  refine ag_iload_n dd_M_about_0 rfl ?_
  refine ag_bipush dd_M_about_1 (by decide +kernel) ?_
  refine ag_bipush dd_M_about_3 (by decide +kernel) ?_
  refine ag_aload_n dd_M_about_5 rfl ?_
  refine ag_get dd_M_about_6 fg_M_172 (mr_38 hM) rfl ?_
  refine ag_iadd dd_M_about_9 ?_
  refine ag_rS dd_M_about_10 fi_M_155 (mc_M_isIn (d := 0) (by omega) (by omega) (by omega)) rfl rfl (by omega) (Nat.le_of_ble_eq_true rfl) ?_
  refine ag_if_eqB (tgt := 26) dd_M_about_13 (by decide) (fun c1 => ?_) (fun c1 => ?_)
  · refine ag_iconst dd_M_about_26 ?_
    refine ag_istore_n (L' := [some (av_r 38), some (av_i (a)), some (av_i (0)), none]) dd_M_about_27 rfl rfl (by decide) ?_
    refine ag_iconst dd_M_about_28 ?_
    refine ag_istore_n (L' := [some (av_r 38), some (av_i (a)), some (av_i (0)), some (av_i (0))]) dd_M_about_29 rfl rfl (by decide) ?_
    exact ml_M_about (by omega) hM hI ho ha (by omega) ⟨rfl, rfl⟩ (S.1 6).toNat 0 (by omega)
  · refine ag_aload_n dd_M_about_16 rfl ?_
    refine ag_get dd_M_about_17 fg_M_110 (mr_38 hM) rfl ?_
    refine ag_iload_n dd_M_about_20 rfl ?_
    refine ag_bipush dd_M_about_21 (by decide +kernel) ?_
    refine ag_isub dd_M_about_23 ?_
    refine ag_iald dd_M_about_24 (mr_66 hM) (by decide) (by omega) ?_
    refine ag_iret dd_M_about_25 rfl ?_
    unfold sp_about
    rw [if_pos (by omega)]
    exact ⟨rfl, rfl⟩
def sp_by (v k : Int) : Int := (Int32.ofInt (Int32.ofInt v >>> (Int32.ofInt k &&& 31)).toInt &&& Int32.ofInt 255).toInt
def sp_tp (S : ms_T) (v k : Int) : ms_T := (ai_up S.1 43 (S.1 43 + 1), ai_up S.2 68 (ai_up (S.2 68) (S.1 43).toNat (sp_by v k)))
def sp_four (S : ms_T) (v : Int) : ms_T := sp_tp (sp_tp (sp_tp (sp_tp S v 24) v 16) v 8) v 0
def sp_feed (S : ms_T) (a b c e f : Int) : Option av_T × ms_T := if 100 < S.1 43 + 20 then (some (av_i (-1)), S) else (some (av_i (S.1 43 + 20)), sp_four (sp_four (sp_four (sp_four (sp_four S a) b) c) e) f)
def sp_end (S : ms_T) (n : Int) : Option av_T × ms_T := if 0 ≤ n ∧ n ≤ S.1 43 then (some (av_i n), (ai_up S.1 43 n, S.2)) else (some (av_i (-1)), S)
theorem sp_tp43 (S : ms_T) (v k : Int) : (sp_tp S v k).1 43 = S.1 43 + 1 := rfl
theorem sp_four43 (S : ms_T) (v : Int) : (sp_four S v).1 43 = S.1 43 + 4 := by
  show S.1 43 + 1 + 1 + 1 + 1 = _
  omega
set_option maxHeartbeats 1000000 in
theorem mc_M_four {w : aw_T} {h0 h : ah_T} {S : ms_T} {d : Nat} (hd : 0 ≤ d) (hM : mo_I h0 h S) {v : Int} (h43 : 0 ≤ S.1 43 ∧ S.1 43 + 4 ≤ 100) : am_M w mm_M_four d [av_r 38, av_i v] h 0 0 (mo_P h0 (none, sp_four S v)) := by
  refine am_intro [some (av_r 38), some (av_i (v)), none] (by decide +kernel) (Nat.le_of_ble_eq_true rfl) rfl ?_
  refine ag_bipush dd_M_four_0 (by decide +kernel) ?_
  refine ag_istore_n (L' := [some (av_r 38), some (av_i (v)), some (av_i (24))]) dd_M_four_2 rfl rfl (by decide) ?_
  refine ag_iload_n dd_M_four_3 rfl ?_
  refine ag_if_lt (tgt := 39) dd_M_four_4 (by decide) (by omega) (fun c1 => ?_) (fun c1 => ?_)
  · exfalso; omega
  · refine ag_aload_n dd_M_four_7 rfl ?_
    refine ag_get dd_M_four_8 fg_M_116 (mr_38 hM) rfl ?_
    refine ag_aload_n dd_M_four_11 rfl ?_
    refine ag_get dd_M_four_12 fg_M_235 (mr_38 hM) rfl ?_
    refine ag_iload_n dd_M_four_15 rfl ?_
    refine ag_iload_n dd_M_four_16 rfl ?_
    refine ag_ishr dd_M_four_17 ?_
    refine ag_sipush dd_M_four_18 (by decide +kernel) ?_
    refine ag_iand dd_M_four_21 ?_
    refine ms_68 dd_M_four_22 hM (by omega) (fun h S2 eS2 hM => ?_)
    refine ag_aload_n dd_M_four_23 rfl ?_
    refine ag_dup dd_M_four_24 rfl ?_
    refine ag_get dd_M_four_25 fg_M_235 (mr_38 hM) rfl ?_
    refine ag_iconst dd_M_four_28 ?_
    refine ag_iadd dd_M_four_29 ?_
    refine mp_43 dd_M_four_30 fp_M_235 hM (fun h S3 eS3 hM => ?_)
    obtain rfl : S3 = sp_tp S v 24 := by
      subst_vars
      rfl
    have h43 := sp_tp43 S v 24
    refine ag_iinc (L' := [some (av_r 38), some (av_i (v)), some (av_i (16))]) dd_M_four_33 rfl rfl rfl (by decide) ?_
    refine ag_goto (tgt := 3) dd_M_four_36 (by decide) ?_
    refine ag_iload_n dd_M_four_3 rfl ?_
    refine ag_if_lt (tgt := 39) dd_M_four_4 (by decide) (by omega) (fun c4 => ?_) (fun c4 => ?_)
    · exfalso; omega
    · refine ag_aload_n dd_M_four_7 rfl ?_
      refine ag_get dd_M_four_8 fg_M_116 (mr_38 hM) rfl ?_
      refine ag_aload_n dd_M_four_11 rfl ?_
      refine ag_get dd_M_four_12 fg_M_235 (mr_38 hM) rfl ?_
      refine ag_iload_n dd_M_four_15 rfl ?_
      refine ag_iload_n dd_M_four_16 rfl ?_
      refine ag_ishr dd_M_four_17 ?_
      refine ag_sipush dd_M_four_18 (by decide +kernel) ?_
      refine ag_iand dd_M_four_21 ?_
      refine ms_68 dd_M_four_22 hM (by omega) (fun h S5 eS5 hM => ?_)
      refine ag_aload_n dd_M_four_23 rfl ?_
      refine ag_dup dd_M_four_24 rfl ?_
      refine ag_get dd_M_four_25 fg_M_235 (mr_38 hM) rfl ?_
      refine ag_iconst dd_M_four_28 ?_
      refine ag_iadd dd_M_four_29 ?_
      refine mp_43 dd_M_four_30 fp_M_235 hM (fun h S6 eS6 hM => ?_)
      obtain rfl : S6 = sp_tp (sp_tp S v 24) v 16 := by
        subst_vars
        rfl
      have h43 := sp_tp43 (sp_tp S v 24) v 16
      refine ag_iinc (L' := [some (av_r 38), some (av_i (v)), some (av_i (8))]) dd_M_four_33 rfl rfl rfl (by decide) ?_
      refine ag_goto (tgt := 3) dd_M_four_36 (by decide) ?_
      refine ag_iload_n dd_M_four_3 rfl ?_
      refine ag_if_lt (tgt := 39) dd_M_four_4 (by decide) (by omega) (fun c7 => ?_) (fun c7 => ?_)
      · exfalso; omega
      · refine ag_aload_n dd_M_four_7 rfl ?_
        refine ag_get dd_M_four_8 fg_M_116 (mr_38 hM) rfl ?_
        refine ag_aload_n dd_M_four_11 rfl ?_
        refine ag_get dd_M_four_12 fg_M_235 (mr_38 hM) rfl ?_
        refine ag_iload_n dd_M_four_15 rfl ?_
        refine ag_iload_n dd_M_four_16 rfl ?_
        refine ag_ishr dd_M_four_17 ?_
        refine ag_sipush dd_M_four_18 (by decide +kernel) ?_
        refine ag_iand dd_M_four_21 ?_
        refine ms_68 dd_M_four_22 hM (by omega) (fun h S8 eS8 hM => ?_)
        refine ag_aload_n dd_M_four_23 rfl ?_
        refine ag_dup dd_M_four_24 rfl ?_
        refine ag_get dd_M_four_25 fg_M_235 (mr_38 hM) rfl ?_
        refine ag_iconst dd_M_four_28 ?_
        refine ag_iadd dd_M_four_29 ?_
        refine mp_43 dd_M_four_30 fp_M_235 hM (fun h S9 eS9 hM => ?_)
        obtain rfl : S9 = sp_tp (sp_tp (sp_tp S v 24) v 16) v 8 := by
          subst_vars
          rfl
        have h43 := sp_tp43 (sp_tp (sp_tp S v 24) v 16) v 8
        refine ag_iinc (L' := [some (av_r 38), some (av_i (v)), some (av_i (0))]) dd_M_four_33 rfl rfl rfl (by decide) ?_
        refine ag_goto (tgt := 3) dd_M_four_36 (by decide) ?_
        refine ag_iload_n dd_M_four_3 rfl ?_
        refine ag_if_lt (tgt := 39) dd_M_four_4 (by decide) (by omega) (fun c10 => ?_) (fun c10 => ?_)
        · exfalso; omega
        · refine ag_aload_n dd_M_four_7 rfl ?_
          refine ag_get dd_M_four_8 fg_M_116 (mr_38 hM) rfl ?_
          refine ag_aload_n dd_M_four_11 rfl ?_
          refine ag_get dd_M_four_12 fg_M_235 (mr_38 hM) rfl ?_
          refine ag_iload_n dd_M_four_15 rfl ?_
          refine ag_iload_n dd_M_four_16 rfl ?_
          refine ag_ishr dd_M_four_17 ?_
          refine ag_sipush dd_M_four_18 (by decide +kernel) ?_
          refine ag_iand dd_M_four_21 ?_
          refine ms_68 dd_M_four_22 hM (by omega) (fun h S11 eS11 hM => ?_)
          refine ag_aload_n dd_M_four_23 rfl ?_
          refine ag_dup dd_M_four_24 rfl ?_
          refine ag_get dd_M_four_25 fg_M_235 (mr_38 hM) rfl ?_
          refine ag_iconst dd_M_four_28 ?_
          refine ag_iadd dd_M_four_29 ?_
          refine mp_43 dd_M_four_30 fp_M_235 hM (fun h S12 eS12 hM => ?_)
          obtain rfl : S12 = sp_tp (sp_tp (sp_tp (sp_tp S v 24) v 16) v 8) v 0 := by
            subst_vars
            rfl
          have h43 := sp_tp43 (sp_tp (sp_tp (sp_tp S v 24) v 16) v 8) v 0
          refine ag_iinc (L' := [some (av_r 38), some (av_i (v)), some (av_i (-8))]) dd_M_four_33 rfl rfl rfl (by decide) ?_
          refine ag_goto (tgt := 3) dd_M_four_36 (by decide) ?_
          refine ag_iload_n dd_M_four_3 rfl ?_
          refine ag_if_lt (tgt := 39) dd_M_four_4 (by decide) (by omega) (fun c13 => ?_) (fun c13 => ?_)
          · refine ag_vret dd_M_four_39 rfl ?_
            exact ⟨rfl, hM⟩
          · exfalso; omega
set_option maxHeartbeats 1000000 in
theorem mc_M_feed {w : aw_T} {h0 h : ah_T} {S : ms_T} {d : Nat} (hd : 1 ≤ d) (hM : mo_I h0 h S) {a : Int} (ha : -2147483648 ≤ a ∧ a < 2147483648) {b : Int} (hb : -2147483648 ≤ b ∧ b < 2147483648) {c : Int} (hc : -2147483648 ≤ c ∧ c < 2147483648) {e : Int} (he : -2147483648 ≤ e ∧ e < 2147483648) {f : Int} (hf : -2147483648 ≤ f ∧ f < 2147483648) (h43 : 0 ≤ S.1 43 ∧ S.1 43 ≤ 100) : am_M w mm_M_feed d [av_r 38, av_i a, av_i b, av_i c, av_i e, av_i f] h 0 0 (mo_P h0 (sp_feed S a b c e f)) := by
  refine am_intro [some (av_r 38), some (av_i (a)), some (av_i (b)), some (av_i (c)), some (av_i (e)), some (av_i (f))] (by decide +kernel) (Nat.le_of_ble_eq_true rfl) rfl ?_
  refine ag_aload_n dd_M_feed_0 rfl ?_
  refine ag_get dd_M_feed_1 fg_M_235 (mr_38 hM) rfl ?_
  refine ag_bipush dd_M_feed_4 (by decide +kernel) ?_
  refine ag_iadd dd_M_feed_6 ?_
  refine ag_bipush dd_M_feed_7 (by decide +kernel) ?_
  refine ag_icmp_le (tgt := 14) dd_M_feed_9 (by decide) (by omega) (by omega) (fun c1 => ?_) (fun c1 => ?_)
  · refine ag_aload_n dd_M_feed_14 rfl ?_
    refine ag_iload_n dd_M_feed_15 rfl ?_
    refine ag_wV dd_M_feed_16 fi_M_238 (mr_38 hM) rfl (mc_M_four (d := 0) (by omega) hM (by omega)) rfl rfl (by omega) (Nat.le_of_ble_eq_true rfl) (fun r h hP => ?_)
    obtain ⟨rfl, hM⟩ := hP
    replace hM : mo_I h0 h (sp_four S a) := hM
    have h43 := sp_four43 S a
    generalize eS2 : sp_four S a = S2 at hM h43
    refine ag_aload_n dd_M_feed_19 rfl ?_
    refine ag_iload_n dd_M_feed_20 rfl ?_
    refine ag_wV dd_M_feed_21 fi_M_238 (mr_38 hM) rfl (mc_M_four (d := 0) (by omega) hM (by omega)) rfl rfl (by omega) (Nat.le_of_ble_eq_true rfl) (fun r h hP => ?_)
    obtain ⟨rfl, hM⟩ := hP
    replace hM : mo_I h0 h (sp_four S2 b) := hM
    have h43 := sp_four43 S2 b
    generalize eS3 : sp_four S2 b = S3 at hM h43
    refine ag_aload_n dd_M_feed_24 rfl ?_
    refine ag_iload_n dd_M_feed_25 rfl ?_
    refine ag_wV dd_M_feed_26 fi_M_238 (mr_38 hM) rfl (mc_M_four (d := 0) (by omega) hM (by omega)) rfl rfl (by omega) (Nat.le_of_ble_eq_true rfl) (fun r h hP => ?_)
    obtain ⟨rfl, hM⟩ := hP
    replace hM : mo_I h0 h (sp_four S3 c) := hM
    have h43 := sp_four43 S3 c
    generalize eS4 : sp_four S3 c = S4 at hM h43
    refine ag_aload_n dd_M_feed_29 rfl ?_
    refine ag_iload dd_M_feed_30 rfl ?_
    refine ag_wV dd_M_feed_32 fi_M_238 (mr_38 hM) rfl (mc_M_four (d := 0) (by omega) hM (by omega)) rfl rfl (by omega) (Nat.le_of_ble_eq_true rfl) (fun r h hP => ?_)
    obtain ⟨rfl, hM⟩ := hP
    replace hM : mo_I h0 h (sp_four S4 e) := hM
    have h43 := sp_four43 S4 e
    generalize eS5 : sp_four S4 e = S5 at hM h43
    refine ag_aload_n dd_M_feed_35 rfl ?_
    refine ag_iload dd_M_feed_36 rfl ?_
    refine ag_wV dd_M_feed_38 fi_M_238 (mr_38 hM) rfl (mc_M_four (d := 0) (by omega) hM (by omega)) rfl rfl (by omega) (Nat.le_of_ble_eq_true rfl) (fun r h hP => ?_)
    obtain ⟨rfl, hM⟩ := hP
    replace hM : mo_I h0 h (sp_four S5 f) := hM
    have h43 := sp_four43 S5 f
    generalize eS6 : sp_four S5 f = S6 at hM h43
    refine ag_aload_n dd_M_feed_41 rfl ?_
    refine ag_get dd_M_feed_42 fg_M_235 (mr_38 hM) rfl ?_
    refine ag_iret dd_M_feed_45 rfl ?_
    unfold sp_feed
    rw [if_neg (by omega)]
    have e43 : S6.1 43 = S.1 43 + 20 := by omega
    rw [e43]
    subst_vars
    exact ⟨rfl, hM⟩
  · refine ag_iconst dd_M_feed_12 ?_
    refine ag_iret dd_M_feed_13 rfl ?_
    unfold sp_feed
    rw [if_pos (by omega)]
    exact ⟨rfl, hM⟩
set_option maxHeartbeats 1000000 in
theorem mc_M_end {w : aw_T} {h0 h : ah_T} {S : ms_T} {d : Nat} (hd : 1 ≤ d) (hM : mo_I h0 h S) {n : Int} (hn : -2147483648 ≤ n ∧ n < 2147483648) (h43 : 0 ≤ S.1 43 ∧ S.1 43 ≤ 100) : am_M w mm_M_end d [av_r 38, av_i n] h 0 0 (mo_P h0 (sp_end S n)) := by
  refine am_intro [some (av_r 38), some (av_i (n))] (by decide +kernel) (Nat.le_of_ble_eq_true rfl) rfl ?_
  refine ag_iload_n dd_M_end_0 rfl ?_
  refine ag_iconst dd_M_end_1 ?_
  refine ag_aload_n dd_M_end_2 rfl ?_
  refine ag_get dd_M_end_3 fg_M_235 (mr_38 hM) rfl ?_
  refine ag_rS dd_M_end_6 fi_M_155 (mc_M_isIn (d := 0) (by omega) (by omega) (by omega)) rfl rfl (by omega) (Nat.le_of_ble_eq_true rfl) ?_
  refine ag_if_neB (tgt := 14) dd_M_end_9 (by decide) (fun c1 => ?_) (fun c1 => ?_)
  · refine ag_aload_n dd_M_end_14 rfl ?_
    refine ag_iload_n dd_M_end_15 rfl ?_
    refine mp_43 dd_M_end_16 fp_M_235 hM (fun h S2 eS2 hM => ?_)
    refine ag_iload_n dd_M_end_19 rfl ?_
    refine ag_iret dd_M_end_20 rfl ?_
    unfold sp_end
    first | rw [if_pos (by omega)] | rw [if_neg (by omega)]
    subst_vars
    exact ⟨rfl, hM⟩
  · refine ag_iconst dd_M_end_12 ?_
    refine ag_iret dd_M_end_13 rfl ?_
    unfold sp_end
    first | rw [if_pos (by omega)] | rw [if_neg (by omega)]
    subst_vars
    exact ⟨rfl, hM⟩
