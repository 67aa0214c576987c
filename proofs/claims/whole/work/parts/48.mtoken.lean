/-- the tape and how much of it is told -/
def iv_tp (S : ms_T) : Prop := (0 ≤ S.1 43 ∧ S.1 43 ≤ 100) ∧ ∀ i, 0 ≤ S.2 68 i ∧ S.2 68 i ≤ 255
def sp_see (S : ms_T) (k : Int) : Int := if k < S.1 43 then S.2 68 k.toNat else -1
theorem sp_see_c {S : ms_T} {T : Nat → Int} {n r : Nat} {k : Int} (ht : S.2 68 = T) (hn : S.1 43 = (n : Int)) (hk : k = (r : Int)) : (r < n ∧ sp_see S k = T r) ∨ (n ≤ r ∧ sp_see S k = -1) := by
  subst hk
  unfold sp_see
  rw [hn, ht]
  by_cases h : r < n
  · left
    rw [if_pos (by omega), Int.toNat_natCast]
    exact ⟨h, rfl⟩
  · right
    rw [if_neg (by omega)]
    exact ⟨by omega, rfl⟩
/-- only what the reading of a token changes has changed -/
def nx_ (S S1 : ms_T) : Prop := S1.2 = S.2 ∧ ∀ k, ¬ (49 ≤ k ∧ k ≤ 52) → S1.1 k = S.1 k
theorem nx_rf (S : ms_T) : nx_ S S := ⟨rfl, fun _ _ => rfl⟩
theorem nx_up {S S1 S2 : ms_T} {k : Nat} {v : Int} (h : nx_ S S1) (e : S2 = (ai_up S1.1 k v, S1.2)) (hk : 49 ≤ k ∧ k ≤ 52) : nx_ S S2 := by
  subst e
  refine ⟨h.1, fun j hj => ?_⟩
  show ai_up S1.1 k v j = S.1 j
  rw [ai_up_n _ _ (by omega)]
  exact h.2 j hj
theorem nx_tr {S S1 S2 : ms_T} (h : nx_ S S1) (h2 : nx_ S1 S2) : nx_ S S2 := ⟨h2.1.trans h.1, fun k hk => (h2.2 k hk).trans (h.2 k hk)⟩
/-- the model stands before the tokens ts of the tape T of n bytes -/
def tk_R (T : Nat → Int) (n : Nat) (S : ms_T) (ts : List tk_T) : Prop := ts ≠ [] ∧ S.1 50 = pr_p ts ∧ tc_ (pr_h ts) (S.1 51) (S.1 52) ∧ (pr_h ts ≠ 0 → ∃ r f : Nat, S.1 49 = (r : Int) ∧ r ≤ n ∧ n - r ≤ f ∧ ts.tail = lx_ T n f r)
theorem sp_shl {a k : Nat} (hk : k < 31) (h : a * 2 ^ k < 2147483648) : (Int32.ofInt (a : Int) <<< (Int32.ofInt (k : Int) &&& 31)).toInt = ((a * 2 ^ k : Nat) : Int) := by
  have h2 : a < 2147483648 := Nat.lt_of_le_of_lt (Nat.le_mul_of_pos_right a (Nat.two_pow_pos k)) h
  show ((Int32.ofInt (a : Int)).toBitVec <<< ((Int32.ofInt (k : Int) &&& 31).toBitVec.smod 32)).toInt = _
  rw [BitVec.shiftLeft_eq', sp_sh k hk, BitVec.toInt_shiftLeft, Nat.shiftLeft_eq]
  have e1 : (Int32.ofInt (a : Int)).toBitVec.toNat = a := by
    rw [sp_ofN]
    show a % 2 ^ 32 = a
    omega
  rw [e1]
  generalize a * 2 ^ k = z at h
  rw [Int.bmod_def]
  have : ((2 ^ 32 : Nat) : Int) = 4294967296 := by decide
  rw [this]
  split <;> omega
theorem sp_or {a b : Nat} (ha : a < 2 ^ 31) (hb : b < 2 ^ 31) : (Int32.ofInt (a : Int) ||| Int32.ofInt (b : Int)).toInt = ((a ||| b : Nat) : Int) := by
  have e1 : ∀ z : Nat, z < 2 ^ 31 → (Int32.ofInt (z : Int)).toBitVec.toNat = z := by
    intro z hz
    rw [sp_ofN]
    show z % 2 ^ 32 = z
    omega
  have h3 := Nat.or_lt_two_pow ha hb
  show ((Int32.ofInt (a : Int)).toBitVec ||| (Int32.ofInt (b : Int)).toBitVec).toInt = _
  rw [BitVec.toInt_eq_toNat_cond, BitVec.toNat_or, e1 a ha, e1 b hb, if_pos (by omega)]
theorem sp_shor {a k b : Nat} (hk : k < 31) (h : a * 2 ^ k < 2147483648) (hb : b < 2 ^ k) : (Int32.ofInt (Int32.ofInt (a : Int) <<< (Int32.ofInt (k : Int) &&& 31)).toInt ||| Int32.ofInt (b : Int)).toInt = ((a * 2 ^ k + b : Nat) : Int) := by
  have h2 : 2 ^ k < 2 ^ 31 := Nat.pow_lt_pow_right (by omega) hk
  have e := Nat.shiftLeft_add_eq_or_of_lt hb a
  rw [Nat.shiftLeft_eq] at e
  rw [sp_shl hk h, sp_or h (by omega), ← e]
theorem c_w7 {w c : Int} (hw : 0 ≤ w ∧ w < 2097152) (hc : 0 ≤ c ∧ c < 128) : (Int32.ofInt (Int32.ofInt w <<< (Int32.ofInt 7 &&& 31)).toInt ||| Int32.ofInt c).toInt = w * 128 + c := by
  obtain ⟨a, rfl⟩ : ∃ a : Nat, w = (a : Int) := ⟨w.toNat, by omega⟩
  obtain ⟨b, rfl⟩ : ∃ b : Nat, c = (b : Int) := ⟨c.toNat, by omega⟩
  have := sp_shor (a := a) (k := 7) (b := b) (by omega) (by omega) (by omega)
  rw [show ((7 : Nat) : Int) = 7 from rfl] at this
  rw [this]
  omega
set_option maxHeartbeats 1000000 in
theorem mc_M_see {w : aw_T} {h0 h : ah_T} {S : ms_T} {d : Nat} (hd : 0 ≤ d) (hM : mo_I h0 h S) (h43 : 0 ≤ S.1 43 ∧ S.1 43 ≤ 100) {k : Int} (hk : 0 ≤ k ∧ k ≤ 1000) : am_M w mm_M_see d [av_r 38, av_i k] h 0 0 (fun r h' => r = some (av_i (sp_see S k)) ∧ h' = h) := by
  refine am_intro [some (av_r 38), some (av_i (k))] (by decide +kernel) (Nat.le_of_ble_eq_true rfl) rfl ?_
  refine ag_iload_n dd_M_see_0 rfl ?_
  refine ag_aload_n dd_M_see_1 rfl ?_
  refine ag_get dd_M_see_2 fg_M_235 (mr_38 hM) rfl ?_
  refine ag_icmp_ge (tgt := 17) dd_M_see_5 (by decide) (by omega) (by omega) (fun c1 => ?_) (fun c1 => ?_)
  · refine ag_iconst dd_M_see_17 ?_
    refine ag_iret dd_M_see_18 rfl ?_
    refine ⟨congrArg (fun z => some (av_i z)) ?_, rfl⟩
    unfold sp_see
    first | rw [if_pos (by omega)] | rw [if_neg (by omega)]
  · refine ag_aload_n dd_M_see_8 rfl ?_
    refine ag_get dd_M_see_9 fg_M_116 (mr_38 hM) rfl ?_
    refine ag_iload_n dd_M_see_12 rfl ?_
    refine ag_iald dd_M_see_13 (mr_68 hM) (by decide) (by omega) ?_
    refine ag_goto (tgt := 18) dd_M_see_14 (by decide) ?_
    refine ag_iret dd_M_see_18 rfl ?_
    refine ⟨congrArg (fun z => some (av_i z)) ?_, rfl⟩
    unfold sp_see
    first | rw [if_pos (by omega)] | rw [if_neg (by omega)]
set_option maxHeartbeats 1000000 in
theorem mc_M_isDigit {w : aw_T} {h : ah_T} {d : Nat} (hd : 1 ≤ d) {c : Int} (hc : -1 ≤ c ∧ c ≤ 255) : am_M w mm_M_isDigit d [av_i c] h 0 0 (fun r h' => r = some (av_i (if 48 ≤ c ∧ c ≤ 57 then 1 else 0)) ∧ h' = h) := by
  refine am_intro [some (av_i (c))] (by decide +kernel) (Nat.le_of_ble_eq_true rfl) rfl ?_
  refine ag_iload_n dd_M_isDigit_0 rfl ?_
  refine ag_bipush dd_M_isDigit_1 (by decide +kernel) ?_
  refine ag_bipush dd_M_isDigit_3 (by decide +kernel) ?_
  refine ag_rS dd_M_isDigit_5 fi_M_155 (mc_M_isIn (d := 0) (by omega) (by omega) (by omega)) rfl rfl (by omega) (Nat.le_of_ble_eq_true rfl) ?_
  refine ag_zret dd_M_isDigit_8 rfl (by first | exact Or.inl rfl | exact Or.inr rfl | (split <;> omega)) ?_
  exact ⟨rfl, rfl⟩
set_option maxHeartbeats 1000000 in
theorem mc_M_isLetter {w : aw_T} {h : ah_T} {d : Nat} (hd : 1 ≤ d) {c : Int} (hc : -1 ≤ c ∧ c ≤ 255) : am_M w mm_M_isLetter d [av_i c] h 0 0 (fun r h' => r = some (av_i (if (97 ≤ c ∧ c ≤ 122) ∨ (65 ≤ c ∧ c ≤ 90) then 1 else 0)) ∧ h' = h) := by
  refine am_intro [some (av_i (c))] (by decide +kernel) (Nat.le_of_ble_eq_true rfl) rfl ?_
  refine ag_iload_n dd_M_isLetter_0 rfl ?_
  refine ag_bipush dd_M_isLetter_1 (by decide +kernel) ?_
  refine ag_bipush dd_M_isLetter_3 (by decide +kernel) ?_
  refine ag_rS dd_M_isLetter_5 fi_M_155 (mc_M_isIn (d := 0) (by omega) (by omega) (by omega)) rfl rfl (by omega) (Nat.le_of_ble_eq_true rfl) ?_
  refine ag_if_neB (tgt := 22) dd_M_isLetter_8 (by decide) (fun c1 => ?_) (fun c1 => ?_)
  · refine ag_iconst dd_M_isLetter_22 ?_
    refine ag_goto (tgt := 27) dd_M_isLetter_23 (by decide) ?_
    refine ag_zret dd_M_isLetter_27 rfl (by first | exact Or.inl rfl | exact Or.inr rfl | omega) ?_
    refine ⟨congrArg (fun z => some (av_i z)) ?_, rfl⟩
    first | rw [if_pos (by omega)] | rw [if_neg (by omega)]
  · refine ag_iload_n dd_M_isLetter_11 rfl ?_
    refine ag_bipush dd_M_isLetter_12 (by decide +kernel) ?_
    refine ag_bipush dd_M_isLetter_14 (by decide +kernel) ?_
    refine ag_rS dd_M_isLetter_16 fi_M_155 (mc_M_isIn (d := 0) (by omega) (by omega) (by omega)) rfl rfl (by omega) (Nat.le_of_ble_eq_true rfl) ?_
    refine ag_if_eqB (tgt := 26) dd_M_isLetter_19 (by decide) (fun c2 => ?_) (fun c2 => ?_)
    · refine ag_iconst dd_M_isLetter_26 ?_
      refine ag_zret dd_M_isLetter_27 rfl (by first | exact Or.inl rfl | exact Or.inr rfl | omega) ?_
      refine ⟨congrArg (fun z => some (av_i z)) ?_, rfl⟩
      first | rw [if_pos (by omega)] | rw [if_neg (by omega)]
    · refine ag_iconst dd_M_isLetter_22 ?_
      refine ag_goto (tgt := 27) dd_M_isLetter_23 (by decide) ?_
      refine ag_zret dd_M_isLetter_27 rfl (by first | exact Or.inl rfl | exact Or.inr rfl | omega) ?_
      refine ⟨congrArg (fun z => some (av_i z)) ?_, rfl⟩
      first | rw [if_pos (by omega)] | rw [if_neg (by omega)]
set_option maxHeartbeats 1000000 in
theorem mc_M_letterOf {w : aw_T} {h : ah_T} {d : Nat} {c : Int} (hc : -1 ≤ c ∧ c ≤ 255) : am_M w mm_M_letterOf d [av_i c] h 0 0 (fun r h' => r = some (av_i (pr_ix c)) ∧ h' = h) := by
  refine am_intro [some (av_i (c))] (by decide +kernel) (Nat.le_of_ble_eq_true rfl) rfl ?_
  refine ag_iload_n dd_M_letterOf_0 rfl ?_
  refine ag_bipush dd_M_letterOf_1 (by decide +kernel) ?_
  refine ag_icmp_ne (tgt := 10) dd_M_letterOf_3 (by decide) (by omega) (by omega) (fun c1 => ?_) (fun c1 => ?_)
  · refine ag_iload_n dd_M_letterOf_10 rfl ?_
    refine ag_bipush dd_M_letterOf_11 (by decide +kernel) ?_
    refine ag_icmp_ne (tgt := 20) dd_M_letterOf_13 (by decide) (by omega) (by omega) (fun c2 => ?_) (fun c2 => ?_)
    · refine ag_iload_n dd_M_letterOf_20 rfl ?_
      refine ag_bipush dd_M_letterOf_21 (by decide +kernel) ?_
      refine ag_icmp_ne (tgt := 30) dd_M_letterOf_23 (by decide) (by omega) (by omega) (fun c3 => ?_) (fun c3 => ?_)
      · refine ag_iload_n dd_M_letterOf_30 rfl ?_
        refine ag_bipush dd_M_letterOf_31 (by decide +kernel) ?_
        refine ag_icmp_ne (tgt := 40) dd_M_letterOf_33 (by decide) (by omega) (by omega) (fun c4 => ?_) (fun c4 => ?_)
        · refine ag_iload_n dd_M_letterOf_40 rfl ?_
          refine ag_bipush dd_M_letterOf_41 (by decide +kernel) ?_
          refine ag_icmp_ne (tgt := 50) dd_M_letterOf_43 (by decide) (by omega) (by omega) (fun c5 => ?_) (fun c5 => ?_)
          · refine ag_iconst dd_M_letterOf_50 ?_
            refine ag_iret dd_M_letterOf_51 rfl ?_
            refine ⟨congrArg (fun z => some (av_i z)) ?_, rfl⟩
            unfold pr_ix
            repeat (first | rw [if_pos (by omega)] | rw [if_neg (by omega)])
          · refine ag_iconst dd_M_letterOf_46 ?_
            refine ag_goto (tgt := 51) dd_M_letterOf_47 (by decide) ?_
            refine ag_iret dd_M_letterOf_51 rfl ?_
            refine ⟨congrArg (fun z => some (av_i z)) ?_, rfl⟩
            unfold pr_ix
            repeat (first | rw [if_pos (by omega)] | rw [if_neg (by omega)])
        · refine ag_iconst dd_M_letterOf_36 ?_
          refine ag_goto (tgt := 51) dd_M_letterOf_37 (by decide) ?_
          refine ag_iret dd_M_letterOf_51 rfl ?_
          refine ⟨congrArg (fun z => some (av_i z)) ?_, rfl⟩
          unfold pr_ix
          repeat (first | rw [if_pos (by omega)] | rw [if_neg (by omega)])
      · refine ag_iconst dd_M_letterOf_26 ?_
        refine ag_goto (tgt := 51) dd_M_letterOf_27 (by decide) ?_
        refine ag_iret dd_M_letterOf_51 rfl ?_
        refine ⟨congrArg (fun z => some (av_i z)) ?_, rfl⟩
        unfold pr_ix
        repeat (first | rw [if_pos (by omega)] | rw [if_neg (by omega)])
    · refine ag_iconst dd_M_letterOf_16 ?_
      refine ag_goto (tgt := 51) dd_M_letterOf_17 (by decide) ?_
      refine ag_iret dd_M_letterOf_51 rfl ?_
      refine ⟨congrArg (fun z => some (av_i z)) ?_, rfl⟩
      unfold pr_ix
      repeat (first | rw [if_pos (by omega)] | rw [if_neg (by omega)])
  · refine ag_iconst dd_M_letterOf_6 ?_
    refine ag_goto (tgt := 51) dd_M_letterOf_7 (by decide) ?_
    refine ag_iret dd_M_letterOf_51 rfl ?_
    refine ⟨congrArg (fun z => some (av_i z)) ?_, rfl⟩
    unfold pr_ix
    repeat (first | rw [if_pos (by omega)] | rw [if_neg (by omega)])
set_option maxHeartbeats 1000000 in
theorem ml_M_nt72 {w : aw_T} {h0 : ah_T} {d : Nat} (hd : 2 ≤ d) {T : Nat → Int} (hT : ∀ i, 0 ≤ T i ∧ T i ≤ 255) {n : Nat} (hn : n ≤ 100) {P : ap_T} : ∀ (m : Nat) (S : ms_T) (r : Nat) (a : Int) (h : ah_T), S.1 49 = (r : Int) → r + m = n → S.1 43 = (n : Int) → S.2 68 = T → (0 ≤ S.1 52 ∧ S.1 52 < 2000000) → min (S.1 52) 10000 = a → mo_I h0 h S → (∀ (S3 : ms_T) (h : ah_T), mo_I h0 h S3 → nx_ S S3 → S3.1 50 = S.1 50 → S3.1 51 = S.1 51 → S3.1 49 = (lr_ T 48 m r : Int) → (0 ≤ S3.1 52 ∧ S3.1 52 < 2000000) → min (S3.1 52) 10000 = ln_ T (lr_ T 48 m r - r) r a → P none h) → aw_W w mm_M_nextToken d P 72 [some (av_r 38), none, none, none] [] h 0 0 := by
  intro m
  induction m with
  | zero =>
    intro S r a h h49 hrm h43 ht hb2 ha hM hX
    have t_S := ht
    have n_S := nx_rf S
    have hTr := hT r
    refine ag_aload_n dd_M_nextToken_72 rfl ?_
    refine ag_aload_n dd_M_nextToken_73 rfl ?_
    refine ag_get dd_M_nextToken_74 fg_M_241 (mr_38 hM) rfl ?_
    have z1 := sp_see_c (k := (S.1 49)) (r := r) (n := n) t_S (by omega) (by omega)
    refine ag_rV dd_M_nextToken_77 fi_M_244 (mr_38 hM) rfl (mc_M_see (d := 0) (by omega) hM (by omega) (by omega)) rfl rfl (by omega) (Nat.le_of_ble_eq_true rfl) ?_
    generalize sp_see S (S.1 49) = v2 at z1 ⊢
    refine ag_rS dd_M_nextToken_80 fi_M_253 (mc_M_isDigit (d := 1) (by omega) (by omega)) rfl rfl (by omega) (Nat.le_of_ble_eq_true rfl) ?_
    refine ag_if_eqB (tgt := 333) dd_M_nextToken_83 (by decide) (fun c3 => ?_) (fun c3 => ?_)
    · refine ag_vret dd_M_nextToken_333 rfl ?_
      have e1 : lr_ T 48 0 r = r := by rfl
      refine hX S h hM (nx_rf S) rfl rfl (by rw [e1]; exact h49) hb2 ?_
      rw [e1, Nat.sub_self, ln_]
      exact ha
    · exfalso; omega
  | succ m ih =>
    intro S r a h h49 hrm h43 ht hb2 ha hM hX
    have t_S := ht
    have n_S := nx_rf S
    have hTr := hT r
    refine ag_aload_n dd_M_nextToken_72 rfl ?_
    refine ag_aload_n dd_M_nextToken_73 rfl ?_
    refine ag_get dd_M_nextToken_74 fg_M_241 (mr_38 hM) rfl ?_
    have z1 := sp_see_c (k := (S.1 49)) (r := r) (n := n) t_S (by omega) (by omega)
    refine ag_rV dd_M_nextToken_77 fi_M_244 (mr_38 hM) rfl (mc_M_see (d := 0) (by omega) hM (by omega) (by omega)) rfl rfl (by omega) (Nat.le_of_ble_eq_true rfl) ?_
    generalize sp_see S (S.1 49) = v2 at z1 ⊢
    refine ag_rS dd_M_nextToken_80 fi_M_253 (mc_M_isDigit (d := 1) (by omega) (by omega)) rfl rfl (by omega) (Nat.le_of_ble_eq_true rfl) ?_
    refine ag_if_eqB (tgt := 333) dd_M_nextToken_83 (by decide) (fun c3 => ?_) (fun c3 => ?_)
    · refine ag_vret dd_M_nextToken_333 rfl ?_
      have e1 : lr_ T 48 (m + 1) r = r := by rw [lr_, if_neg (fun q => by have := lk_48.mp q; omega)]
      refine hX S h hM (nx_rf S) rfl rfl (by rw [e1]; exact h49) hb2 ?_
      rw [e1, Nat.sub_self, ln_]
      exact ha
    · refine ag_aload_n dd_M_nextToken_86 rfl ?_
      refine ag_get dd_M_nextToken_87 fg_M_256 (mr_38 hM) rfl ?_
      refine ag_ldcw (a := 100000) dd_M_nextToken_90 fc_M_259 (by decide +kernel) ?_
      refine ag_icmp_ge (tgt := 119) dd_M_nextToken_93 (by decide) (by omega) (by omega) (fun c4 => ?_) (fun c4 => ?_)
      · refine ag_aload_n dd_M_nextToken_119 rfl ?_
        refine ag_dup dd_M_nextToken_120 rfl ?_
        refine ag_get dd_M_nextToken_121 fg_M_241 (mr_38 hM) rfl ?_
        refine ag_iconst dd_M_nextToken_124 ?_
        refine ag_iadd dd_M_nextToken_125 ?_
        refine mp_49 dd_M_nextToken_126 fp_M_241 hM (fun h S5 eS5 hM => ?_)
        have q43_S5 : S5.1 43 = S.1 43 := by rw [eS5]; rfl
        have q49_S5 : S5.1 49 = ((S.1 49) + 1) := by rw [eS5]; rfl
        have q50_S5 : S5.1 50 = S.1 50 := by rw [eS5]; rfl
        have q51_S5 : S5.1 51 = S.1 51 := by rw [eS5]; rfl
        have q52_S5 : S5.1 52 = S.1 52 := by rw [eS5]; rfl
        have t_S5 : S5.2 68 = T := by rw [eS5]; exact t_S
        have n_S5 : nx_ S S5 := nx_up n_S eS5 (by decide)
        clear eS5
        refine ag_goto (tgt := 72) dd_M_nextToken_129 (by decide) ?_
        have e1 : lr_ T 48 (m + 1) r = lr_ T 48 m (r + 1) := by rw [lr_, if_pos (lk_48.mpr (by omega))]
        have hb := lr_b T 48 m (r + 1)
        refine ih S5 (r + 1) (min (a * 10 + T r - 48) 10000) h (by omega) (by omega) (by omega) t_S5 (by omega) (by omega) hM (fun S3 h hM hn3 g1 g2 g3 g4 g5 => ?_)
        refine hX S3 h hM (nx_tr n_S5 hn3) (by omega) (by omega) (by rw [e1]; exact g3) g4 ?_
        rw [e1, show lr_ T 48 m (r + 1) - r = (lr_ T 48 m (r + 1) - (r + 1)) + 1 by omega, ln_]
        exact g5
      · refine ag_aload_n dd_M_nextToken_96 rfl ?_
        refine ag_bipush dd_M_nextToken_97 (by decide +kernel) ?_
        refine ag_aload_n dd_M_nextToken_99 rfl ?_
        refine ag_get dd_M_nextToken_100 fg_M_256 (mr_38 hM) rfl ?_
        refine ag_imul dd_M_nextToken_103 ?_
        refine ag_aload_n dd_M_nextToken_104 rfl ?_
        refine ag_aload_n dd_M_nextToken_105 rfl ?_
        refine ag_get dd_M_nextToken_106 fg_M_241 (mr_38 hM) rfl ?_
        have z6 := sp_see_c (k := (S.1 49)) (r := r) (n := n) t_S (by omega) (by omega)
        refine ag_rV dd_M_nextToken_109 fi_M_244 (mr_38 hM) rfl (mc_M_see (d := 0) (by omega) hM (by omega) (by omega)) rfl rfl (by omega) (Nat.le_of_ble_eq_true rfl) ?_
        generalize sp_see S (S.1 49) = v7 at z6 ⊢
        refine ag_iadd dd_M_nextToken_112 ?_
        refine ag_bipush dd_M_nextToken_113 (by decide +kernel) ?_
        refine ag_isub dd_M_nextToken_115 ?_
        refine mp_52 dd_M_nextToken_116 fp_M_256 hM (fun h S8 eS8 hM => ?_)
        have q43_S8 : S8.1 43 = S.1 43 := by rw [eS8]; rfl
        have q49_S8 : S8.1 49 = S.1 49 := by rw [eS8]; rfl
        have q50_S8 : S8.1 50 = S.1 50 := by rw [eS8]; rfl
        have q51_S8 : S8.1 51 = S.1 51 := by rw [eS8]; rfl
        have q52_S8 : S8.1 52 = (((10 * (S.1 52)) + v7) - 48) := by rw [eS8]; rfl
        have t_S8 : S8.2 68 = T := by rw [eS8]; exact t_S
        have n_S8 : nx_ S S8 := nx_up n_S eS8 (by decide)
        clear eS8
        refine ag_aload_n dd_M_nextToken_119 rfl ?_
        refine ag_dup dd_M_nextToken_120 rfl ?_
        refine ag_get dd_M_nextToken_121 fg_M_241 (mr_38 hM) rfl ?_
        refine ag_iconst dd_M_nextToken_124 ?_
        refine ag_iadd dd_M_nextToken_125 ?_
        refine mp_49 dd_M_nextToken_126 fp_M_241 hM (fun h S9 eS9 hM => ?_)
        have q43_S9 : S9.1 43 = S8.1 43 := by rw [eS9]; rfl
        have q49_S9 : S9.1 49 = ((S8.1 49) + 1) := by rw [eS9]; rfl
        have q50_S9 : S9.1 50 = S8.1 50 := by rw [eS9]; rfl
        have q51_S9 : S9.1 51 = S8.1 51 := by rw [eS9]; rfl
        have q52_S9 : S9.1 52 = S8.1 52 := by rw [eS9]; rfl
        have t_S9 : S9.2 68 = T := by rw [eS9]; exact t_S8
        have n_S9 : nx_ S S9 := nx_up n_S8 eS9 (by decide)
        clear eS9
        refine ag_goto (tgt := 72) dd_M_nextToken_129 (by decide) ?_
        have e1 : lr_ T 48 (m + 1) r = lr_ T 48 m (r + 1) := by rw [lr_, if_pos (lk_48.mpr (by omega))]
        have hb := lr_b T 48 m (r + 1)
        refine ih S9 (r + 1) (min (a * 10 + T r - 48) 10000) h (by omega) (by omega) (by omega) t_S9 (by omega) (by omega) hM (fun S3 h hM hn3 g1 g2 g3 g4 g5 => ?_)
        refine hX S3 h hM (nx_tr n_S9 hn3) (by omega) (by omega) (by rw [e1]; exact g3) g4 ?_
        rw [e1, show lr_ T 48 m (r + 1) - r = (lr_ T 48 m (r + 1) - (r + 1)) + 1 by omega, ln_]
        exact g5
/-- what is gathered of a word's first j letters -/
def wf_ (T : Nat → Int) (r0 j : Nat) (w : Int) : Prop := (0 ≤ w ∧ w < 268435456) ∧ (j = 0 → w = 0) ∧ (j = 1 → w = T r0) ∧ (j = 2 → w = T r0 * 128 + T (r0 + 1)) ∧ (j = 3 → w = (T r0 * 128 + T (r0 + 1)) * 128 + T (r0 + 2))
theorem wf_st {T : Nat → Int} {r0 j : Nat} {w : Int} (h : wf_ T r0 j w) (hL : ∀ i, r0 ≤ i → i ≤ r0 + j → 0 ≤ T i ∧ T i < 128) : (j < 4 → (0 ≤ w ∧ w < 2097152) ∧ wf_ T r0 (j + 1) (w * 128 + T (r0 + j))) ∧ (4 ≤ j → wf_ T r0 (j + 1) w) := by
  obtain ⟨h1, h2, h3, h4, h5⟩ := h
  refine ⟨fun hj => ?_, fun hj => ⟨h1, fun q => by omega, fun q => by omega, fun q => by omega, fun q => by omega⟩⟩
  rcases (show j = 0 ∨ j = 1 ∨ j = 2 ∨ j = 3 by omega) with q | q | q | q
  · subst q
    have a0 := hL r0 (by omega) (by omega)
    have := h2 rfl
    refine ⟨by omega, by rw [Nat.add_zero]; omega, fun q => by omega, fun q => by rw [Nat.add_zero]; omega, fun q => by omega, fun q => by omega⟩
  · subst q
    have a0 := hL r0 (by omega) (by omega)
    have a1 := hL (r0 + 1) (by omega) (by omega)
    have := h3 rfl
    refine ⟨by omega, by omega, fun q => by omega, fun q => by omega, fun q => by omega, fun q => by omega⟩
  · subst q
    have a0 := hL r0 (by omega) (by omega)
    have a1 := hL (r0 + 1) (by omega) (by omega)
    have a2 := hL (r0 + 2) (by omega) (by omega)
    have := h4 rfl
    refine ⟨by omega, by omega, fun q => by omega, fun q => by omega, fun q => by omega, fun q => by omega⟩
  · subst q
    have a0 := hL r0 (by omega) (by omega)
    have a1 := hL (r0 + 1) (by omega) (by omega)
    have a2 := hL (r0 + 2) (by omega) (by omega)
    have a3 := hL (r0 + 3) (by omega) (by omega)
    have := h5 rfl
    refine ⟨by omega, by omega, fun q => by omega, fun q => by omega, fun q => by omega, fun q => by omega⟩
set_option maxHeartbeats 1000000 in
theorem ml_M_nt141 {w : aw_T} {h0 : ah_T} {d : Nat} (hd : 2 ≤ d) {T : Nat → Int} (hT : ∀ i, 0 ≤ T i ∧ T i ≤ 255) {n : Nat} (hn : n ≤ 100) {P : ap_T} {c : Int} {r0 : Nat} : ∀ (m : Nat) (S : ms_T) (r : Nat) (x : Int) (h : ah_T), S.1 49 = (r : Int) → S.1 50 = (r0 : Int) → r0 ≤ r → r + m = n → S.2 68 = T → S.1 43 = (n : Int) → (∀ i, r0 ≤ i → i < r → 0 ≤ T i ∧ T i < 128) → wf_ T r0 (r - r0) x → mo_I h0 h S → (∀ (S3 : ms_T) (h : ah_T) (x3 : Int), mo_I h0 h S3 → nx_ S S3 → S3.1 50 = S.1 50 → S3.1 49 = (lr_ T 97 m r : Int) → wf_ T r0 (lr_ T 97 m r - r0) x3 → aw_W w mm_M_nextToken d P 195 [some (av_r 38), some (av_i (c)), some (av_i (x3)), none] [] h 0 0) → aw_W w mm_M_nextToken d P 141 [some (av_r 38), some (av_i (c)), some (av_i (x)), none] [] h 0 0 := by
  intro m
  induction m with
  | zero =>
    intro S r x h h49 h50 hr0 hrm ht h43 hLt hw hM hX
    have t_S := ht
    have n_S := nx_rf S
    have hTr := hT r
    refine ag_aload_n dd_M_nextToken_141 rfl ?_
    refine ag_aload_n dd_M_nextToken_142 rfl ?_
    refine ag_get dd_M_nextToken_143 fg_M_241 (mr_38 hM) rfl ?_
    have z1 := sp_see_c (k := (S.1 49)) (r := r) (n := n) t_S (by omega) (by omega)
    refine ag_rV dd_M_nextToken_146 fi_M_244 (mr_38 hM) rfl (mc_M_see (d := 0) (by omega) hM (by omega) (by omega)) rfl rfl (by omega) (Nat.le_of_ble_eq_true rfl) ?_
    generalize sp_see S (S.1 49) = v2 at z1 ⊢
    refine ag_rS dd_M_nextToken_149 fi_M_260 (mc_M_isLetter (d := 1) (by omega) (by omega)) rfl rfl (by omega) (Nat.le_of_ble_eq_true rfl) ?_
    refine ag_if_eqB (tgt := 195) dd_M_nextToken_152 (by decide) (fun c3 => ?_) (fun c3 => ?_)
    · have e1 : lr_ T 97 0 r = r := by rfl
      refine hX S h x hM (nx_rf S) rfl (by rw [e1]; exact h49) ?_
      rw [e1]
      exact hw
    · exfalso; omega
  | succ m ih =>
    intro S r x h h49 h50 hr0 hrm ht h43 hLt hw hM hX
    have t_S := ht
    have n_S := nx_rf S
    have hTr := hT r
    refine ag_aload_n dd_M_nextToken_141 rfl ?_
    refine ag_aload_n dd_M_nextToken_142 rfl ?_
    refine ag_get dd_M_nextToken_143 fg_M_241 (mr_38 hM) rfl ?_
    have z1 := sp_see_c (k := (S.1 49)) (r := r) (n := n) t_S (by omega) (by omega)
    refine ag_rV dd_M_nextToken_146 fi_M_244 (mr_38 hM) rfl (mc_M_see (d := 0) (by omega) hM (by omega) (by omega)) rfl rfl (by omega) (Nat.le_of_ble_eq_true rfl) ?_
    generalize sp_see S (S.1 49) = v2 at z1 ⊢
    refine ag_rS dd_M_nextToken_149 fi_M_260 (mc_M_isLetter (d := 1) (by omega) (by omega)) rfl rfl (by omega) (Nat.le_of_ble_eq_true rfl) ?_
    refine ag_if_eqB (tgt := 195) dd_M_nextToken_152 (by decide) (fun c3 => ?_) (fun c3 => ?_)
    · have e1 : lr_ T 97 (m + 1) r = r := by rw [lr_, if_neg (fun q => by have := lk_97.mp q; omega)]
      refine hX S h x hM (nx_rf S) rfl (by rw [e1]; exact h49) ?_
      rw [e1]
      exact hw
    · have hst := wf_st hw (fun i h1 h2 => by
        by_cases q : i = r
        · rw [q]; omega
        · have := hLt i h1 (by omega)
          omega)
      refine ag_aload_n dd_M_nextToken_155 rfl ?_
      refine ag_get dd_M_nextToken_156 fg_M_241 (mr_38 hM) rfl ?_
      refine ag_aload_n dd_M_nextToken_159 rfl ?_
      refine ag_get dd_M_nextToken_160 fg_M_247 (mr_38 hM) rfl ?_
      refine ag_isub dd_M_nextToken_163 ?_
      refine ag_iconst dd_M_nextToken_164 ?_
      refine ag_icmp_ge (tgt := 182) dd_M_nextToken_165 (by decide) (by omega) (by omega) (fun c4 => ?_) (fun c4 => ?_)
      · refine ag_aload_n dd_M_nextToken_182 rfl ?_
        refine ag_dup dd_M_nextToken_183 rfl ?_
        refine ag_get dd_M_nextToken_184 fg_M_241 (mr_38 hM) rfl ?_
        refine ag_iconst dd_M_nextToken_187 ?_
        refine ag_iadd dd_M_nextToken_188 ?_
        refine mp_49 dd_M_nextToken_189 fp_M_241 hM (fun h S5 eS5 hM => ?_)
        have q43_S5 : S5.1 43 = S.1 43 := by rw [eS5]; rfl
        have q49_S5 : S5.1 49 = ((S.1 49) + 1) := by rw [eS5]; rfl
        have q50_S5 : S5.1 50 = S.1 50 := by rw [eS5]; rfl
        have q51_S5 : S5.1 51 = S.1 51 := by rw [eS5]; rfl
        have q52_S5 : S5.1 52 = S.1 52 := by rw [eS5]; rfl
        have t_S5 : S5.2 68 = T := by rw [eS5]; exact t_S
        have n_S5 : nx_ S S5 := nx_up n_S eS5 (by decide)
        clear eS5
        refine ag_goto (tgt := 141) dd_M_nextToken_192 (by decide) ?_
        have e1 : lr_ T 97 (m + 1) r = lr_ T 97 m (r + 1) := by rw [lr_, if_pos (lk_97.mpr (by omega))]
        have hb := lr_b T 97 m (r + 1)
        have hw2 : wf_ T r0 (r + 1 - r0) x := by
          rw [show r + 1 - r0 = (r - r0) + 1 by omega]
          first
          | exact hst.2 (by omega)
          | (have q1 := hst.1 (by omega)
             rw [show r0 + (r - r0) = r by omega] at q1
             obtain rfl : v2 = T r := by omega
             have q2 := c_w7 q1.1 (show 0 ≤ T r ∧ T r < 128 by omega)
             rw [ex, q2]
             exact q1.2)
        refine ih S5 (r + 1) x h (by omega) (by omega) (by omega) (by omega) t_S5 (by omega) (fun i h1 h2 => ?_) hw2 hM (fun S3 h x3 hM hn3 g1 g2 g3 => ?_)
        · by_cases q : i = r
          · rw [q]; omega
          · exact hLt i h1 (by omega)
        refine hX S3 h x3 hM (nx_tr n_S5 hn3) (by omega) (by rw [e1]; exact g2) (by rw [e1]; exact g3)
      · refine ag_iload_n dd_M_nextToken_168 rfl ?_
        refine ag_bipush dd_M_nextToken_169 (by decide +kernel) ?_
        refine ag_ishl dd_M_nextToken_171 ?_
        refine ag_aload_n dd_M_nextToken_172 rfl ?_
        refine ag_aload_n dd_M_nextToken_173 rfl ?_
        refine ag_get dd_M_nextToken_174 fg_M_241 (mr_38 hM) rfl ?_
        have z6 := sp_see_c (k := (S.1 49)) (r := r) (n := n) t_S (by omega) (by omega)
        refine ag_rV dd_M_nextToken_177 fi_M_244 (mr_38 hM) rfl (mc_M_see (d := 0) (by omega) hM (by omega) (by omega)) rfl rfl (by omega) (Nat.le_of_ble_eq_true rfl) ?_
        generalize sp_see S (S.1 49) = v7 at z6 ⊢
        refine ag_ior dd_M_nextToken_180 ?_
        refine ag_istore_nN (Lf := fun y => [some (av_r 38), some (av_i (c)), some (av_i (y)), none]) dd_M_nextToken_181 (fun _ => rfl) rfl (by decide) (fun y8 ey8 => ?_)
        refine ag_aload_n dd_M_nextToken_182 rfl ?_
        refine ag_dup dd_M_nextToken_183 rfl ?_
        refine ag_get dd_M_nextToken_184 fg_M_241 (mr_38 hM) rfl ?_
        refine ag_iconst dd_M_nextToken_187 ?_
        refine ag_iadd dd_M_nextToken_188 ?_
        refine mp_49 dd_M_nextToken_189 fp_M_241 hM (fun h S9 eS9 hM => ?_)
        have q43_S9 : S9.1 43 = S.1 43 := by rw [eS9]; rfl
        have q49_S9 : S9.1 49 = ((S.1 49) + 1) := by rw [eS9]; rfl
        have q50_S9 : S9.1 50 = S.1 50 := by rw [eS9]; rfl
        have q51_S9 : S9.1 51 = S.1 51 := by rw [eS9]; rfl
        have q52_S9 : S9.1 52 = S.1 52 := by rw [eS9]; rfl
        have t_S9 : S9.2 68 = T := by rw [eS9]; exact t_S
        have n_S9 : nx_ S S9 := nx_up n_S eS9 (by decide)
        clear eS9
        refine ag_goto (tgt := 141) dd_M_nextToken_192 (by decide) ?_
        have e1 : lr_ T 97 (m + 1) r = lr_ T 97 m (r + 1) := by rw [lr_, if_pos (lk_97.mpr (by omega))]
        have hb := lr_b T 97 m (r + 1)
        have hw2 : wf_ T r0 (r + 1 - r0) y8 := by
          rw [show r + 1 - r0 = (r - r0) + 1 by omega]
          first
          | exact hst.2 (by omega)
          | (have q1 := hst.1 (by omega)
             rw [show r0 + (r - r0) = r by omega] at q1
             obtain rfl : v7 = T r := by omega
             have q2 := c_w7 q1.1 (show 0 ≤ T r ∧ T r < 128 by omega)
             rw [ey8, q2]
             exact q1.2)
        refine ih S9 (r + 1) y8 h (by omega) (by omega) (by omega) (by omega) t_S9 (by omega) (fun i h1 h2 => ?_) hw2 hM (fun S3 h x3 hM hn3 g1 g2 g3 => ?_)
        · by_cases q : i = r
          · rw [q]; omega
          · exact hLt i h1 (by omega)
        refine hX S3 h x3 hM (nx_tr n_S9 hn3) (by omega) (by rw [e1]; exact g2) (by rw [e1]; exact g3)
theorem lk_sg {c : Int} (h : c = 43 ∨ c = 45 ∨ c = 42 ∨ c = 47 ∨ c = 40 ∨ c = 41 ∨ c = 44 ∨ c = 32) : lk_ c = c := by
  unfold lk_
  rw [if_neg (by omega), if_neg (by omega), if_pos h]
theorem lk_1 {c : Int} (h : ¬ ((97 ≤ c ∧ c ≤ 122) ∨ (65 ≤ c ∧ c ≤ 90) ∨ (48 ≤ c ∧ c ≤ 57) ∨ c = 43 ∨ c = 45 ∨ c = 42 ∨ c = 47 ∨ c = 40 ∨ c = 41 ∨ c = 44 ∨ c = 32)) : lk_ c = 1 := by
  unfold lk_
  rw [if_neg (by omega), if_neg (by omega), if_neg (by omega)]
theorem lr_gt {T : Nat → Int} {k : Int} {n r : Nat} (h : r < n) (hk : lk_ (T r) = k) : r + 1 ≤ lr_ T k (n - r) r ∧ lr_ T k (n - r) r ≤ n := by
  have hb := lr_b T k (n - r) r
  obtain ⟨m, hm⟩ : ∃ m, n - r = m + 1 := ⟨n - r - 1, by omega⟩
  have := lr_b T k m (r + 1)
  rw [hm, lr_, if_pos hk] at hb ⊢
  omega
theorem lx_w {T : Nat → Int} {n f r : Nat} (h : r < n) (hk : lk_ (T r) = 97) : lx_ T n (f + 1) r = (lw_ T r (lr_ T 97 (n - r) r), (r : Int)) :: lx_ T n f (lr_ T 97 (n - r) r) := by
  rw [lx_, if_neg (by omega), if_neg (by omega), if_pos hk]
theorem lx_n {T : Nat → Int} {n f r : Nat} (h : r < n) (hk : lk_ (T r) = 48) : lx_ T n (f + 1) r = (1000 + ln_ T (lr_ T 48 (n - r) r - r) r 0, (r : Int)) :: lx_ T n f (lr_ T 48 (n - r) r) := by
  rw [lx_, if_neg (by omega), if_neg (by omega), if_neg (by omega), if_pos hk]
theorem lx_s {T : Nat → Int} {n f r : Nat} (h : r < n) (h1 : lk_ (T r) ≠ 97) (h2 : lk_ (T r) ≠ 48) (h3 : lk_ (T r) ≠ 32) : lx_ T n (f + 1) r = (lk_ (T r), (r : Int)) :: lx_ T n f (r + 1) := by
  rw [lx_, if_neg (by omega), if_neg h3, if_neg h1, if_neg h2]
theorem lx_b {T : Nat → Int} {n f r : Nat} (h : r < n) (h3 : lk_ (T r) = 32) : lx_ T n (f + 1) r = lx_ T n f (r + 1) := by
  rw [lx_, if_neg (by omega), if_pos h3]
theorem lw_tc {T : Nat → Int} {r e : Nat} {w : Int} (hw : wf_ T r (e - r) w) (hL : ∀ i, r ≤ i → i < e → 0 ≤ T i ∧ T i < 128) (he : r + 1 ≤ e) : tc_ (lw_ T r e) (if e = r + 1 then (if pr_ix (T r) < 0 then 5 else 2) else if e ≠ r + 3 then 5 else if w = 1799406 then 3 else if w = 1798392 then 4 else 5) (pr_ix (T r)) := by
  obtain ⟨h1, h2, h3, h4, h5⟩ := hw
  unfold lw_
  by_cases q1 : e = r + 1
  · rw [if_pos q1, if_pos q1]
    by_cases q2 : pr_ix (T r) < 0
    · rw [if_pos q2, if_neg (by omega)]
      exact Or.inr (Or.inr (Or.inr (Or.inr (Or.inr (Or.inl ⟨rfl, rfl⟩)))))
    · rw [if_neg q2, if_pos (by omega)]
      exact Or.inr (Or.inr (Or.inl ⟨by omega, rfl, rfl⟩))
  rw [if_neg q1, if_neg q1]
  by_cases q3 : e = r + 3
  · rw [if_neg (show ¬ (e ≠ r + 3) from fun q => q q3)]
    have a0 := hL r (by omega) (by omega)
    have a1 := hL (r + 1) (by omega) (by omega)
    have a2 := hL (r + 2) (by omega) (by omega)
    have := h5 (by omega)
    by_cases q4 : w = 1799406
    · rw [if_pos q4, if_pos ⟨q3, by omega⟩, if_pos (by omega)]
      exact Or.inr (Or.inr (Or.inr (Or.inl ⟨rfl, rfl⟩)))
    rw [if_neg q4]
    by_cases q5 : w = 1798392
    · rw [if_pos q5, if_pos ⟨q3, by omega⟩, if_neg (by omega), if_pos (by omega)]
      exact Or.inr (Or.inr (Or.inr (Or.inr (Or.inl ⟨rfl, rfl⟩))))
    rw [if_neg q5]
    by_cases q6 : e = r + 3 ∧ T r = 109
    · rw [if_pos q6, if_neg (by omega), if_neg (by omega)]
      exact Or.inr (Or.inr (Or.inr (Or.inr (Or.inr (Or.inl ⟨rfl, rfl⟩)))))
    · rw [if_neg q6]
      exact Or.inr (Or.inr (Or.inr (Or.inr (Or.inr (Or.inl ⟨rfl, rfl⟩)))))
  · rw [if_pos (show e ≠ r + 3 from q3), if_neg (fun q => q3 q.1)]
    exact Or.inr (Or.inr (Or.inr (Or.inr (Or.inr (Or.inl ⟨rfl, rfl⟩)))))
set_option maxHeartbeats 1000000 in
theorem ml_M_nt26 {w : aw_T} {h0 : ah_T} {d : Nat} (hd : 2 ≤ d) {T : Nat → Int} (hT : ∀ i, 0 ≤ T i ∧ T i ≤ 255) {n : Nat} (hn : n ≤ 100) {P : ap_T} (f : Nat) {S : ms_T} {r : Nat} {h : ah_T} : S.1 49 = (r : Int) → r ≤ n → n - r ≤ f → S.1 43 = (n : Int) → S.2 68 = T → mo_I h0 h S → (r < n → T r ≠ 32) → (∀ (S3 : ms_T) (h : ah_T), mo_I h0 h S3 → nx_ S S3 → tk_R T n S3 (lx_ T n f r) → P none h) → aw_W w mm_M_nextToken d P 26 [some (av_r 38), none, none, none] [] h 0 0 := by
  intro h49 hrn hf h43 ht hM hnb hX
  have t_S := ht
  have n_S := nx_rf S
  have hTr := hT r
  refine ag_aload_n dd_M_nextToken_26 rfl ?_
  refine ag_aload_n dd_M_nextToken_27 rfl ?_
  refine ag_get dd_M_nextToken_28 fg_M_241 (mr_38 hM) rfl ?_
  refine mp_50 dd_M_nextToken_31 fp_M_247 hM (fun h S1 eS1 hM => ?_)
  have q43_S1 : S1.1 43 = S.1 43 := by rw [eS1]; rfl
  have q49_S1 : S1.1 49 = S.1 49 := by rw [eS1]; rfl
  have q50_S1 : S1.1 50 = (S.1 49) := by rw [eS1]; rfl
  have q51_S1 : S1.1 51 = S.1 51 := by rw [eS1]; rfl
  have q52_S1 : S1.1 52 = S.1 52 := by rw [eS1]; rfl
  have t_S1 : S1.2 68 = T := by rw [eS1]; exact t_S
  have n_S1 : nx_ S S1 := nx_up n_S eS1 (by decide)
  clear eS1
  refine ag_aload_n dd_M_nextToken_34 rfl ?_
  refine ag_aload_n dd_M_nextToken_35 rfl ?_
  refine ag_get dd_M_nextToken_36 fg_M_241 (mr_38 hM) rfl ?_
  have z2 := sp_see_c (k := (S1.1 49)) (r := r) (n := n) t_S1 (by omega) (by omega)
  refine ag_rV dd_M_nextToken_39 fi_M_244 (mr_38 hM) rfl (mc_M_see (d := 0) (by omega) hM (by omega) (by omega)) rfl rfl (by omega) (Nat.le_of_ble_eq_true rfl) ?_
  generalize sp_see S1 (S1.1 49) = v3 at z2 ⊢
  refine ag_istore_n (L' := [some (av_r 38), some (av_i (v3)), none, none]) dd_M_nextToken_42 rfl rfl (by decide) ?_
  refine ag_iload_n dd_M_nextToken_43 rfl ?_
  refine ag_if_ge (tgt := 55) dd_M_nextToken_44 (by decide) (by omega) (fun c4 => ?_) (fun c4 => ?_)
  · refine ag_iload_n dd_M_nextToken_55 rfl ?_
    refine ag_rS dd_M_nextToken_56 fi_M_253 (mc_M_isDigit (d := 1) (by omega) (by omega)) rfl rfl (by omega) (Nat.le_of_ble_eq_true rfl) ?_
    refine ag_if_eqB (tgt := 132) dd_M_nextToken_59 (by decide) (fun c5 => ?_) (fun c5 => ?_)
    · refine ag_iload_n dd_M_nextToken_132 rfl ?_
      refine ag_rS dd_M_nextToken_133 fi_M_260 (mc_M_isLetter (d := 1) (by omega) (by omega)) rfl rfl (by omega) (Nat.le_of_ble_eq_true rfl) ?_
      refine ag_if_eqB (tgt := 272) dd_M_nextToken_136 (by decide) (fun c6 => ?_) (fun c6 => ?_)
      · refine ag_aload_n dd_M_nextToken_272 rfl ?_
        refine ag_iload_n dd_M_nextToken_273 rfl ?_
        refine ag_bipush dd_M_nextToken_274 (by decide +kernel) ?_
        refine ag_icmp_eq (tgt := 315) dd_M_nextToken_276 (by decide) (by omega) (by omega) (fun c7 => ?_) (fun c7 => ?_)
        · refine ag_iload_n dd_M_nextToken_315 rfl ?_
          refine ag_goto (tgt := 320) dd_M_nextToken_316 (by decide) ?_
          refine mp_51 dd_M_nextToken_320 fp_M_250 hM (fun h S8 eS8 hM => ?_)
          have q43_S8 : S8.1 43 = S1.1 43 := by rw [eS8]; rfl
          have q49_S8 : S8.1 49 = S1.1 49 := by rw [eS8]; rfl
          have q50_S8 : S8.1 50 = S1.1 50 := by rw [eS8]; rfl
          have q51_S8 : S8.1 51 = v3 := by rw [eS8]; rfl
          have q52_S8 : S8.1 52 = S1.1 52 := by rw [eS8]; rfl
          have t_S8 : S8.2 68 = T := by rw [eS8]; exact t_S1
          have n_S8 : nx_ S S8 := nx_up n_S1 eS8 (by decide)
          clear eS8
          refine ag_aload_n dd_M_nextToken_323 rfl ?_
          refine ag_dup dd_M_nextToken_324 rfl ?_
          refine ag_get dd_M_nextToken_325 fg_M_241 (mr_38 hM) rfl ?_
          refine ag_iconst dd_M_nextToken_328 ?_
          refine ag_iadd dd_M_nextToken_329 ?_
          refine mp_49 dd_M_nextToken_330 fp_M_241 hM (fun h S9 eS9 hM => ?_)
          have q43_S9 : S9.1 43 = S8.1 43 := by rw [eS9]; rfl
          have q49_S9 : S9.1 49 = ((S8.1 49) + 1) := by rw [eS9]; rfl
          have q50_S9 : S9.1 50 = S8.1 50 := by rw [eS9]; rfl
          have q51_S9 : S9.1 51 = S8.1 51 := by rw [eS9]; rfl
          have q52_S9 : S9.1 52 = S8.1 52 := by rw [eS9]; rfl
          have t_S9 : S9.2 68 = T := by rw [eS9]; exact t_S8
          have n_S9 : nx_ S S9 := nx_up n_S8 eS9 (by decide)
          clear eS9
          refine ag_vret dd_M_nextToken_333 rfl ?_
          obtain ⟨f, rfl⟩ : ∃ f2, f = f2 + 1 := ⟨f - 1, by omega⟩
          obtain ⟨hrn, hc⟩ : r < n ∧ v3 = T r := by omega
          have hnb2 := hnb hrn
          refine hX S9 h hM n_S9 ?_
          rw [lx_s hrn (fun q => by have := lk_97.mp q; omega) (fun q => by have := lk_48.mp q; omega) (fun q => by have := lk_32.mp q; omega)]
          refine ⟨by simp, by show S9.1 50 = (r : Int); omega, ?_, fun _ => ⟨r + 1, f, by omega, by omega, by omega, rfl⟩⟩
          show tc_ (lk_ (T r)) (S9.1 51) (S9.1 52)
          first
          | (rw [lk_sg (by omega)]; exact Or.inr (Or.inr (Or.inr (Or.inr (Or.inr (Or.inr ⟨by omega, by omega⟩))))))
          | (rw [lk_1 (by omega)]; exact Or.inr (Or.inr (Or.inr (Or.inr (Or.inr (Or.inl ⟨rfl, by omega⟩))))))
        · refine ag_iload_n dd_M_nextToken_279 rfl ?_
          refine ag_bipush dd_M_nextToken_280 (by decide +kernel) ?_
          refine ag_icmp_eq (tgt := 315) dd_M_nextToken_282 (by decide) (by omega) (by omega) (fun c10 => ?_) (fun c10 => ?_)
          · refine ag_iload_n dd_M_nextToken_315 rfl ?_
            refine ag_goto (tgt := 320) dd_M_nextToken_316 (by decide) ?_
            refine mp_51 dd_M_nextToken_320 fp_M_250 hM (fun h S11 eS11 hM => ?_)
            have q43_S11 : S11.1 43 = S1.1 43 := by rw [eS11]; rfl
            have q49_S11 : S11.1 49 = S1.1 49 := by rw [eS11]; rfl
            have q50_S11 : S11.1 50 = S1.1 50 := by rw [eS11]; rfl
            have q51_S11 : S11.1 51 = v3 := by rw [eS11]; rfl
            have q52_S11 : S11.1 52 = S1.1 52 := by rw [eS11]; rfl
            have t_S11 : S11.2 68 = T := by rw [eS11]; exact t_S1
            have n_S11 : nx_ S S11 := nx_up n_S1 eS11 (by decide)
            clear eS11
            refine ag_aload_n dd_M_nextToken_323 rfl ?_
            refine ag_dup dd_M_nextToken_324 rfl ?_
            refine ag_get dd_M_nextToken_325 fg_M_241 (mr_38 hM) rfl ?_
            refine ag_iconst dd_M_nextToken_328 ?_
            refine ag_iadd dd_M_nextToken_329 ?_
            refine mp_49 dd_M_nextToken_330 fp_M_241 hM (fun h S12 eS12 hM => ?_)
            have q43_S12 : S12.1 43 = S11.1 43 := by rw [eS12]; rfl
            have q49_S12 : S12.1 49 = ((S11.1 49) + 1) := by rw [eS12]; rfl
            have q50_S12 : S12.1 50 = S11.1 50 := by rw [eS12]; rfl
            have q51_S12 : S12.1 51 = S11.1 51 := by rw [eS12]; rfl
            have q52_S12 : S12.1 52 = S11.1 52 := by rw [eS12]; rfl
            have t_S12 : S12.2 68 = T := by rw [eS12]; exact t_S11
            have n_S12 : nx_ S S12 := nx_up n_S11 eS12 (by decide)
            clear eS12
            refine ag_vret dd_M_nextToken_333 rfl ?_
            obtain ⟨f, rfl⟩ : ∃ f2, f = f2 + 1 := ⟨f - 1, by omega⟩
            obtain ⟨hrn, hc⟩ : r < n ∧ v3 = T r := by omega
            have hnb2 := hnb hrn
            refine hX S12 h hM n_S12 ?_
            rw [lx_s hrn (fun q => by have := lk_97.mp q; omega) (fun q => by have := lk_48.mp q; omega) (fun q => by have := lk_32.mp q; omega)]
            refine ⟨by simp, by show S12.1 50 = (r : Int); omega, ?_, fun _ => ⟨r + 1, f, by omega, by omega, by omega, rfl⟩⟩
            show tc_ (lk_ (T r)) (S12.1 51) (S12.1 52)
            first
            | (rw [lk_sg (by omega)]; exact Or.inr (Or.inr (Or.inr (Or.inr (Or.inr (Or.inr ⟨by omega, by omega⟩))))))
            | (rw [lk_1 (by omega)]; exact Or.inr (Or.inr (Or.inr (Or.inr (Or.inr (Or.inl ⟨rfl, by omega⟩))))))
          · refine ag_iload_n dd_M_nextToken_285 rfl ?_
            refine ag_bipush dd_M_nextToken_286 (by decide +kernel) ?_
            refine ag_icmp_eq (tgt := 315) dd_M_nextToken_288 (by decide) (by omega) (by omega) (fun c13 => ?_) (fun c13 => ?_)
            · refine ag_iload_n dd_M_nextToken_315 rfl ?_
              refine ag_goto (tgt := 320) dd_M_nextToken_316 (by decide) ?_
              refine mp_51 dd_M_nextToken_320 fp_M_250 hM (fun h S14 eS14 hM => ?_)
              have q43_S14 : S14.1 43 = S1.1 43 := by rw [eS14]; rfl
              have q49_S14 : S14.1 49 = S1.1 49 := by rw [eS14]; rfl
              have q50_S14 : S14.1 50 = S1.1 50 := by rw [eS14]; rfl
              have q51_S14 : S14.1 51 = v3 := by rw [eS14]; rfl
              have q52_S14 : S14.1 52 = S1.1 52 := by rw [eS14]; rfl
              have t_S14 : S14.2 68 = T := by rw [eS14]; exact t_S1
              have n_S14 : nx_ S S14 := nx_up n_S1 eS14 (by decide)
              clear eS14
              refine ag_aload_n dd_M_nextToken_323 rfl ?_
              refine ag_dup dd_M_nextToken_324 rfl ?_
              refine ag_get dd_M_nextToken_325 fg_M_241 (mr_38 hM) rfl ?_
              refine ag_iconst dd_M_nextToken_328 ?_
              refine ag_iadd dd_M_nextToken_329 ?_
              refine mp_49 dd_M_nextToken_330 fp_M_241 hM (fun h S15 eS15 hM => ?_)
              have q43_S15 : S15.1 43 = S14.1 43 := by rw [eS15]; rfl
              have q49_S15 : S15.1 49 = ((S14.1 49) + 1) := by rw [eS15]; rfl
              have q50_S15 : S15.1 50 = S14.1 50 := by rw [eS15]; rfl
              have q51_S15 : S15.1 51 = S14.1 51 := by rw [eS15]; rfl
              have q52_S15 : S15.1 52 = S14.1 52 := by rw [eS15]; rfl
              have t_S15 : S15.2 68 = T := by rw [eS15]; exact t_S14
              have n_S15 : nx_ S S15 := nx_up n_S14 eS15 (by decide)
              clear eS15
              refine ag_vret dd_M_nextToken_333 rfl ?_
              obtain ⟨f, rfl⟩ : ∃ f2, f = f2 + 1 := ⟨f - 1, by omega⟩
              obtain ⟨hrn, hc⟩ : r < n ∧ v3 = T r := by omega
              have hnb2 := hnb hrn
              refine hX S15 h hM n_S15 ?_
              rw [lx_s hrn (fun q => by have := lk_97.mp q; omega) (fun q => by have := lk_48.mp q; omega) (fun q => by have := lk_32.mp q; omega)]
              refine ⟨by simp, by show S15.1 50 = (r : Int); omega, ?_, fun _ => ⟨r + 1, f, by omega, by omega, by omega, rfl⟩⟩
              show tc_ (lk_ (T r)) (S15.1 51) (S15.1 52)
              first
              | (rw [lk_sg (by omega)]; exact Or.inr (Or.inr (Or.inr (Or.inr (Or.inr (Or.inr ⟨by omega, by omega⟩))))))
              | (rw [lk_1 (by omega)]; exact Or.inr (Or.inr (Or.inr (Or.inr (Or.inr (Or.inl ⟨rfl, by omega⟩))))))
            · refine ag_iload_n dd_M_nextToken_291 rfl ?_
              refine ag_bipush dd_M_nextToken_292 (by decide +kernel) ?_
              refine ag_icmp_eq (tgt := 315) dd_M_nextToken_294 (by decide) (by omega) (by omega) (fun c16 => ?_) (fun c16 => ?_)
              · refine ag_iload_n dd_M_nextToken_315 rfl ?_
                refine ag_goto (tgt := 320) dd_M_nextToken_316 (by decide) ?_
                refine mp_51 dd_M_nextToken_320 fp_M_250 hM (fun h S17 eS17 hM => ?_)
                have q43_S17 : S17.1 43 = S1.1 43 := by rw [eS17]; rfl
                have q49_S17 : S17.1 49 = S1.1 49 := by rw [eS17]; rfl
                have q50_S17 : S17.1 50 = S1.1 50 := by rw [eS17]; rfl
                have q51_S17 : S17.1 51 = v3 := by rw [eS17]; rfl
                have q52_S17 : S17.1 52 = S1.1 52 := by rw [eS17]; rfl
                have t_S17 : S17.2 68 = T := by rw [eS17]; exact t_S1
                have n_S17 : nx_ S S17 := nx_up n_S1 eS17 (by decide)
                clear eS17
                refine ag_aload_n dd_M_nextToken_323 rfl ?_
                refine ag_dup dd_M_nextToken_324 rfl ?_
                refine ag_get dd_M_nextToken_325 fg_M_241 (mr_38 hM) rfl ?_
                refine ag_iconst dd_M_nextToken_328 ?_
                refine ag_iadd dd_M_nextToken_329 ?_
                refine mp_49 dd_M_nextToken_330 fp_M_241 hM (fun h S18 eS18 hM => ?_)
                have q43_S18 : S18.1 43 = S17.1 43 := by rw [eS18]; rfl
                have q49_S18 : S18.1 49 = ((S17.1 49) + 1) := by rw [eS18]; rfl
                have q50_S18 : S18.1 50 = S17.1 50 := by rw [eS18]; rfl
                have q51_S18 : S18.1 51 = S17.1 51 := by rw [eS18]; rfl
                have q52_S18 : S18.1 52 = S17.1 52 := by rw [eS18]; rfl
                have t_S18 : S18.2 68 = T := by rw [eS18]; exact t_S17
                have n_S18 : nx_ S S18 := nx_up n_S17 eS18 (by decide)
                clear eS18
                refine ag_vret dd_M_nextToken_333 rfl ?_
                obtain ⟨f, rfl⟩ : ∃ f2, f = f2 + 1 := ⟨f - 1, by omega⟩
                obtain ⟨hrn, hc⟩ : r < n ∧ v3 = T r := by omega
                have hnb2 := hnb hrn
                refine hX S18 h hM n_S18 ?_
                rw [lx_s hrn (fun q => by have := lk_97.mp q; omega) (fun q => by have := lk_48.mp q; omega) (fun q => by have := lk_32.mp q; omega)]
                refine ⟨by simp, by show S18.1 50 = (r : Int); omega, ?_, fun _ => ⟨r + 1, f, by omega, by omega, by omega, rfl⟩⟩
                show tc_ (lk_ (T r)) (S18.1 51) (S18.1 52)
                first
                | (rw [lk_sg (by omega)]; exact Or.inr (Or.inr (Or.inr (Or.inr (Or.inr (Or.inr ⟨by omega, by omega⟩))))))
                | (rw [lk_1 (by omega)]; exact Or.inr (Or.inr (Or.inr (Or.inr (Or.inr (Or.inl ⟨rfl, by omega⟩))))))
              · refine ag_iload_n dd_M_nextToken_297 rfl ?_
                refine ag_bipush dd_M_nextToken_298 (by decide +kernel) ?_
                refine ag_icmp_eq (tgt := 315) dd_M_nextToken_300 (by decide) (by omega) (by omega) (fun c19 => ?_) (fun c19 => ?_)
                · refine ag_iload_n dd_M_nextToken_315 rfl ?_
                  refine ag_goto (tgt := 320) dd_M_nextToken_316 (by decide) ?_
                  refine mp_51 dd_M_nextToken_320 fp_M_250 hM (fun h S20 eS20 hM => ?_)
                  have q43_S20 : S20.1 43 = S1.1 43 := by rw [eS20]; rfl
                  have q49_S20 : S20.1 49 = S1.1 49 := by rw [eS20]; rfl
                  have q50_S20 : S20.1 50 = S1.1 50 := by rw [eS20]; rfl
                  have q51_S20 : S20.1 51 = v3 := by rw [eS20]; rfl
                  have q52_S20 : S20.1 52 = S1.1 52 := by rw [eS20]; rfl
                  have t_S20 : S20.2 68 = T := by rw [eS20]; exact t_S1
                  have n_S20 : nx_ S S20 := nx_up n_S1 eS20 (by decide)
                  clear eS20
                  refine ag_aload_n dd_M_nextToken_323 rfl ?_
                  refine ag_dup dd_M_nextToken_324 rfl ?_
                  refine ag_get dd_M_nextToken_325 fg_M_241 (mr_38 hM) rfl ?_
                  refine ag_iconst dd_M_nextToken_328 ?_
                  refine ag_iadd dd_M_nextToken_329 ?_
                  refine mp_49 dd_M_nextToken_330 fp_M_241 hM (fun h S21 eS21 hM => ?_)
                  have q43_S21 : S21.1 43 = S20.1 43 := by rw [eS21]; rfl
                  have q49_S21 : S21.1 49 = ((S20.1 49) + 1) := by rw [eS21]; rfl
                  have q50_S21 : S21.1 50 = S20.1 50 := by rw [eS21]; rfl
                  have q51_S21 : S21.1 51 = S20.1 51 := by rw [eS21]; rfl
                  have q52_S21 : S21.1 52 = S20.1 52 := by rw [eS21]; rfl
                  have t_S21 : S21.2 68 = T := by rw [eS21]; exact t_S20
                  have n_S21 : nx_ S S21 := nx_up n_S20 eS21 (by decide)
                  clear eS21
                  refine ag_vret dd_M_nextToken_333 rfl ?_
                  obtain ⟨f, rfl⟩ : ∃ f2, f = f2 + 1 := ⟨f - 1, by omega⟩
                  obtain ⟨hrn, hc⟩ : r < n ∧ v3 = T r := by omega
                  have hnb2 := hnb hrn
                  refine hX S21 h hM n_S21 ?_
                  rw [lx_s hrn (fun q => by have := lk_97.mp q; omega) (fun q => by have := lk_48.mp q; omega) (fun q => by have := lk_32.mp q; omega)]
                  refine ⟨by simp, by show S21.1 50 = (r : Int); omega, ?_, fun _ => ⟨r + 1, f, by omega, by omega, by omega, rfl⟩⟩
                  show tc_ (lk_ (T r)) (S21.1 51) (S21.1 52)
                  first
                  | (rw [lk_sg (by omega)]; exact Or.inr (Or.inr (Or.inr (Or.inr (Or.inr (Or.inr ⟨by omega, by omega⟩))))))
                  | (rw [lk_1 (by omega)]; exact Or.inr (Or.inr (Or.inr (Or.inr (Or.inr (Or.inl ⟨rfl, by omega⟩))))))
                · refine ag_iload_n dd_M_nextToken_303 rfl ?_
                  refine ag_bipush dd_M_nextToken_304 (by decide +kernel) ?_
                  refine ag_icmp_eq (tgt := 315) dd_M_nextToken_306 (by decide) (by omega) (by omega) (fun c22 => ?_) (fun c22 => ?_)
                  · refine ag_iload_n dd_M_nextToken_315 rfl ?_
                    refine ag_goto (tgt := 320) dd_M_nextToken_316 (by decide) ?_
                    refine mp_51 dd_M_nextToken_320 fp_M_250 hM (fun h S23 eS23 hM => ?_)
                    have q43_S23 : S23.1 43 = S1.1 43 := by rw [eS23]; rfl
                    have q49_S23 : S23.1 49 = S1.1 49 := by rw [eS23]; rfl
                    have q50_S23 : S23.1 50 = S1.1 50 := by rw [eS23]; rfl
                    have q51_S23 : S23.1 51 = v3 := by rw [eS23]; rfl
                    have q52_S23 : S23.1 52 = S1.1 52 := by rw [eS23]; rfl
                    have t_S23 : S23.2 68 = T := by rw [eS23]; exact t_S1
                    have n_S23 : nx_ S S23 := nx_up n_S1 eS23 (by decide)
                    clear eS23
                    refine ag_aload_n dd_M_nextToken_323 rfl ?_
                    refine ag_dup dd_M_nextToken_324 rfl ?_
                    refine ag_get dd_M_nextToken_325 fg_M_241 (mr_38 hM) rfl ?_
                    refine ag_iconst dd_M_nextToken_328 ?_
                    refine ag_iadd dd_M_nextToken_329 ?_
                    refine mp_49 dd_M_nextToken_330 fp_M_241 hM (fun h S24 eS24 hM => ?_)
                    have q43_S24 : S24.1 43 = S23.1 43 := by rw [eS24]; rfl
                    have q49_S24 : S24.1 49 = ((S23.1 49) + 1) := by rw [eS24]; rfl
                    have q50_S24 : S24.1 50 = S23.1 50 := by rw [eS24]; rfl
                    have q51_S24 : S24.1 51 = S23.1 51 := by rw [eS24]; rfl
                    have q52_S24 : S24.1 52 = S23.1 52 := by rw [eS24]; rfl
                    have t_S24 : S24.2 68 = T := by rw [eS24]; exact t_S23
                    have n_S24 : nx_ S S24 := nx_up n_S23 eS24 (by decide)
                    clear eS24
                    refine ag_vret dd_M_nextToken_333 rfl ?_
                    obtain ⟨f, rfl⟩ : ∃ f2, f = f2 + 1 := ⟨f - 1, by omega⟩
                    obtain ⟨hrn, hc⟩ : r < n ∧ v3 = T r := by omega
                    have hnb2 := hnb hrn
                    refine hX S24 h hM n_S24 ?_
                    rw [lx_s hrn (fun q => by have := lk_97.mp q; omega) (fun q => by have := lk_48.mp q; omega) (fun q => by have := lk_32.mp q; omega)]
                    refine ⟨by simp, by show S24.1 50 = (r : Int); omega, ?_, fun _ => ⟨r + 1, f, by omega, by omega, by omega, rfl⟩⟩
                    show tc_ (lk_ (T r)) (S24.1 51) (S24.1 52)
                    first
                    | (rw [lk_sg (by omega)]; exact Or.inr (Or.inr (Or.inr (Or.inr (Or.inr (Or.inr ⟨by omega, by omega⟩))))))
                    | (rw [lk_1 (by omega)]; exact Or.inr (Or.inr (Or.inr (Or.inr (Or.inr (Or.inl ⟨rfl, by omega⟩))))))
                  · refine ag_iload_n dd_M_nextToken_309 rfl ?_
                    refine ag_bipush dd_M_nextToken_310 (by decide +kernel) ?_
                    refine ag_icmp_ne (tgt := 319) dd_M_nextToken_312 (by decide) (by omega) (by omega) (fun c25 => ?_) (fun c25 => ?_)
                    · refine ag_iconst dd_M_nextToken_319 ?_
                      refine mp_51 dd_M_nextToken_320 fp_M_250 hM (fun h S26 eS26 hM => ?_)
                      have q43_S26 : S26.1 43 = S1.1 43 := by rw [eS26]; rfl
                      have q49_S26 : S26.1 49 = S1.1 49 := by rw [eS26]; rfl
                      have q50_S26 : S26.1 50 = S1.1 50 := by rw [eS26]; rfl
                      have q51_S26 : S26.1 51 = 5 := by rw [eS26]; rfl
                      have q52_S26 : S26.1 52 = S1.1 52 := by rw [eS26]; rfl
                      have t_S26 : S26.2 68 = T := by rw [eS26]; exact t_S1
                      have n_S26 : nx_ S S26 := nx_up n_S1 eS26 (by decide)
                      clear eS26
                      refine ag_aload_n dd_M_nextToken_323 rfl ?_
                      refine ag_dup dd_M_nextToken_324 rfl ?_
                      refine ag_get dd_M_nextToken_325 fg_M_241 (mr_38 hM) rfl ?_
                      refine ag_iconst dd_M_nextToken_328 ?_
                      refine ag_iadd dd_M_nextToken_329 ?_
                      refine mp_49 dd_M_nextToken_330 fp_M_241 hM (fun h S27 eS27 hM => ?_)
                      have q43_S27 : S27.1 43 = S26.1 43 := by rw [eS27]; rfl
                      have q49_S27 : S27.1 49 = ((S26.1 49) + 1) := by rw [eS27]; rfl
                      have q50_S27 : S27.1 50 = S26.1 50 := by rw [eS27]; rfl
                      have q51_S27 : S27.1 51 = S26.1 51 := by rw [eS27]; rfl
                      have q52_S27 : S27.1 52 = S26.1 52 := by rw [eS27]; rfl
                      have t_S27 : S27.2 68 = T := by rw [eS27]; exact t_S26
                      have n_S27 : nx_ S S27 := nx_up n_S26 eS27 (by decide)
                      clear eS27
                      refine ag_vret dd_M_nextToken_333 rfl ?_
                      obtain ⟨f, rfl⟩ : ∃ f2, f = f2 + 1 := ⟨f - 1, by omega⟩
                      obtain ⟨hrn, hc⟩ : r < n ∧ v3 = T r := by omega
                      have hnb2 := hnb hrn
                      refine hX S27 h hM n_S27 ?_
                      rw [lx_s hrn (fun q => by have := lk_97.mp q; omega) (fun q => by have := lk_48.mp q; omega) (fun q => by have := lk_32.mp q; omega)]
                      refine ⟨by simp, by show S27.1 50 = (r : Int); omega, ?_, fun _ => ⟨r + 1, f, by omega, by omega, by omega, rfl⟩⟩
                      show tc_ (lk_ (T r)) (S27.1 51) (S27.1 52)
                      first
                      | (rw [lk_sg (by omega)]; exact Or.inr (Or.inr (Or.inr (Or.inr (Or.inr (Or.inr ⟨by omega, by omega⟩))))))
                      | (rw [lk_1 (by omega)]; exact Or.inr (Or.inr (Or.inr (Or.inr (Or.inr (Or.inl ⟨rfl, by omega⟩))))))
                    · refine ag_iload_n dd_M_nextToken_315 rfl ?_
                      refine ag_goto (tgt := 320) dd_M_nextToken_316 (by decide) ?_
                      refine mp_51 dd_M_nextToken_320 fp_M_250 hM (fun h S28 eS28 hM => ?_)
                      have q43_S28 : S28.1 43 = S1.1 43 := by rw [eS28]; rfl
                      have q49_S28 : S28.1 49 = S1.1 49 := by rw [eS28]; rfl
                      have q50_S28 : S28.1 50 = S1.1 50 := by rw [eS28]; rfl
                      have q51_S28 : S28.1 51 = v3 := by rw [eS28]; rfl
                      have q52_S28 : S28.1 52 = S1.1 52 := by rw [eS28]; rfl
                      have t_S28 : S28.2 68 = T := by rw [eS28]; exact t_S1
                      have n_S28 : nx_ S S28 := nx_up n_S1 eS28 (by decide)
                      clear eS28
                      refine ag_aload_n dd_M_nextToken_323 rfl ?_
                      refine ag_dup dd_M_nextToken_324 rfl ?_
                      refine ag_get dd_M_nextToken_325 fg_M_241 (mr_38 hM) rfl ?_
                      refine ag_iconst dd_M_nextToken_328 ?_
                      refine ag_iadd dd_M_nextToken_329 ?_
                      refine mp_49 dd_M_nextToken_330 fp_M_241 hM (fun h S29 eS29 hM => ?_)
                      have q43_S29 : S29.1 43 = S28.1 43 := by rw [eS29]; rfl
                      have q49_S29 : S29.1 49 = ((S28.1 49) + 1) := by rw [eS29]; rfl
                      have q50_S29 : S29.1 50 = S28.1 50 := by rw [eS29]; rfl
                      have q51_S29 : S29.1 51 = S28.1 51 := by rw [eS29]; rfl
                      have q52_S29 : S29.1 52 = S28.1 52 := by rw [eS29]; rfl
                      have t_S29 : S29.2 68 = T := by rw [eS29]; exact t_S28
                      have n_S29 : nx_ S S29 := nx_up n_S28 eS29 (by decide)
                      clear eS29
                      refine ag_vret dd_M_nextToken_333 rfl ?_
                      obtain ⟨f, rfl⟩ : ∃ f2, f = f2 + 1 := ⟨f - 1, by omega⟩
                      obtain ⟨hrn, hc⟩ : r < n ∧ v3 = T r := by omega
                      have hnb2 := hnb hrn
                      refine hX S29 h hM n_S29 ?_
                      rw [lx_s hrn (fun q => by have := lk_97.mp q; omega) (fun q => by have := lk_48.mp q; omega) (fun q => by have := lk_32.mp q; omega)]
                      refine ⟨by simp, by show S29.1 50 = (r : Int); omega, ?_, fun _ => ⟨r + 1, f, by omega, by omega, by omega, rfl⟩⟩
                      show tc_ (lk_ (T r)) (S29.1 51) (S29.1 52)
                      first
                      | (rw [lk_sg (by omega)]; exact Or.inr (Or.inr (Or.inr (Or.inr (Or.inr (Or.inr ⟨by omega, by omega⟩))))))
                      | (rw [lk_1 (by omega)]; exact Or.inr (Or.inr (Or.inr (Or.inr (Or.inr (Or.inl ⟨rfl, by omega⟩))))))
      · refine ag_iconst dd_M_nextToken_139 ?_
        refine ag_istore_n (L' := [some (av_r 38), some (av_i (v3)), some (av_i (0)), none]) dd_M_nextToken_140 rfl rfl (by decide) ?_
        obtain ⟨f, rfl⟩ : ∃ f2, f = f2 + 1 := ⟨f - 1, by omega⟩
        obtain ⟨hrn, hc⟩ : r < n ∧ v3 = T r := by omega
        subst hc
        have hk : lk_ (T r) = 97 := lk_97.mpr (by omega)
        have hg := lr_gt hrn hk
        have hLe : ∀ i, r ≤ i → i < lr_ T 97 (n - r) r → 0 ≤ T i ∧ T i < 128 := fun i h1 h2 => by
          have := lk_97.mp (lr_in T 97 (n - r) r i h1 h2)
          omega
        refine ml_M_nt141 hd hT hn (n - r) S1 r 0 h (by omega) (by omega) (Nat.le_refl _) (by omega) t_S1 (by omega) (fun i h1 h2 => by omega) ⟨by omega, fun _ => rfl, fun q => by omega, fun q => by omega, fun q => by omega⟩ hM (fun S3 h x3 hM hn3 g1 g2 g3 => ?_)
        have hg3 := g3.1
        have hix := pr_ix_b (T r)
        have t_S3 : S3.2 68 = T := by rw [hn3.1]; exact t_S1
        have n_S3 := nx_rf S3
        have q43_S3 : S3.1 43 = S1.1 43 := hn3.2 43 (by decide)
        refine ag_aload_n dd_M_nextToken_195 rfl ?_
        refine ag_get dd_M_nextToken_196 fg_M_241 (mr_38 hM) rfl ?_
        refine ag_aload_n dd_M_nextToken_199 rfl ?_
        refine ag_get dd_M_nextToken_200 fg_M_247 (mr_38 hM) rfl ?_
        refine ag_isub dd_M_nextToken_203 ?_
        refine ag_istore_nN (Lf := fun y => [some (av_r 38), some (av_i ((T r))), some (av_i (x3)), some (av_i (y))]) dd_M_nextToken_204 (fun _ => rfl) rfl (by decide) (fun y30 ey30 => ?_)
        refine ag_aload_n dd_M_nextToken_205 rfl ?_
        refine ag_iload_n dd_M_nextToken_206 rfl ?_
        refine ag_rS dd_M_nextToken_207 fi_M_263 (mc_M_letterOf (d := 0) (by omega)) rfl rfl (by omega) (Nat.le_of_ble_eq_true rfl) ?_
        refine mp_52 dd_M_nextToken_210 fp_M_256 hM (fun h S31 eS31 hM => ?_)
        have q43_S31 : S31.1 43 = S3.1 43 := by rw [eS31]; rfl
        have q49_S31 : S31.1 49 = S3.1 49 := by rw [eS31]; rfl
        have q50_S31 : S31.1 50 = S3.1 50 := by rw [eS31]; rfl
        have q51_S31 : S31.1 51 = S3.1 51 := by rw [eS31]; rfl
        have q52_S31 : S31.1 52 = (pr_ix (T r)) := by rw [eS31]; rfl
        have t_S31 : S31.2 68 = T := by rw [eS31]; exact t_S3
        have n_S31 : nx_ S3 S31 := nx_up n_S3 eS31 (by decide)
        clear eS31
        refine ag_aload_n dd_M_nextToken_213 rfl ?_
        refine ag_iload_n dd_M_nextToken_214 rfl ?_
        refine ag_iconst dd_M_nextToken_215 ?_
        refine ag_icmp_ne (tgt := 234) dd_M_nextToken_216 (by decide) (by omega) (by omega) (fun c32 => ?_) (fun c32 => ?_)
        · refine ag_iload_n dd_M_nextToken_234 rfl ?_
          refine ag_iconst dd_M_nextToken_235 ?_
          refine ag_icmp_eq (tgt := 243) dd_M_nextToken_236 (by decide) (by omega) (by omega) (fun c33 => ?_) (fun c33 => ?_)
          · refine ag_iload_n dd_M_nextToken_243 rfl ?_
            refine ag_ldcw (a := 1799406) dd_M_nextToken_244 fc_M_266 (by decide +kernel) ?_
            refine ag_icmp_ne (tgt := 254) dd_M_nextToken_247 (by decide) (by omega) (by omega) (fun c34 => ?_) (fun c34 => ?_)
            · refine ag_iload_n dd_M_nextToken_254 rfl ?_
              refine ag_ldcw (a := 1798392) dd_M_nextToken_255 fc_M_267 (by decide +kernel) ?_
              refine ag_icmp_ne (tgt := 265) dd_M_nextToken_258 (by decide) (by omega) (by omega) (fun c35 => ?_) (fun c35 => ?_)
              · refine ag_iconst dd_M_nextToken_265 ?_
                refine mp_51 dd_M_nextToken_266 fp_M_250 hM (fun h S36 eS36 hM => ?_)
                have q43_S36 : S36.1 43 = S31.1 43 := by rw [eS36]; rfl
                have q49_S36 : S36.1 49 = S31.1 49 := by rw [eS36]; rfl
                have q50_S36 : S36.1 50 = S31.1 50 := by rw [eS36]; rfl
                have q51_S36 : S36.1 51 = 5 := by rw [eS36]; rfl
                have q52_S36 : S36.1 52 = S31.1 52 := by rw [eS36]; rfl
                have t_S36 : S36.2 68 = T := by rw [eS36]; exact t_S31
                have n_S36 : nx_ S3 S36 := nx_up n_S31 eS36 (by decide)
                clear eS36
                refine ag_goto (tgt := 333) dd_M_nextToken_269 (by decide) ?_
                refine ag_vret dd_M_nextToken_333 rfl ?_
                refine hX S36 h hM (nx_tr n_S1 (nx_tr hn3 n_S36)) ?_
                rw [lx_w hrn hk]
                refine ⟨by simp, by show S36.1 50 = (r : Int); omega, ?_, fun _ => ⟨_, f, by omega, hg.2, by omega, rfl⟩⟩
                show tc_ (lw_ T r (lr_ T 97 (n - r) r)) (S36.1 51) (S36.1 52)
                have hu := lw_tc g3 hLe hg.1
                have hv : S36.1 52 = pr_ix (T r) := by omega
                rw [hv]
                have hu2 : (if lr_ T 97 (n - r) r = r + 1 then (if pr_ix (T r) < 0 then (5 : Int) else 2) else if lr_ T 97 (n - r) r ≠ r + 3 then 5 else if x3 = 1799406 then 3 else if x3 = 1798392 then 4 else 5) = S36.1 51 := by
                  repeat (first | rw [if_pos (by omega)] | rw [if_neg (by omega)])
                  omega
                rw [hu2] at hu
                exact hu
              · refine ag_iconst dd_M_nextToken_261 ?_
                refine ag_goto (tgt := 266) dd_M_nextToken_262 (by decide) ?_
                refine mp_51 dd_M_nextToken_266 fp_M_250 hM (fun h S37 eS37 hM => ?_)
                have q43_S37 : S37.1 43 = S31.1 43 := by rw [eS37]; rfl
                have q49_S37 : S37.1 49 = S31.1 49 := by rw [eS37]; rfl
                have q50_S37 : S37.1 50 = S31.1 50 := by rw [eS37]; rfl
                have q51_S37 : S37.1 51 = 4 := by rw [eS37]; rfl
                have q52_S37 : S37.1 52 = S31.1 52 := by rw [eS37]; rfl
                have t_S37 : S37.2 68 = T := by rw [eS37]; exact t_S31
                have n_S37 : nx_ S3 S37 := nx_up n_S31 eS37 (by decide)
                clear eS37
                refine ag_goto (tgt := 333) dd_M_nextToken_269 (by decide) ?_
                refine ag_vret dd_M_nextToken_333 rfl ?_
                refine hX S37 h hM (nx_tr n_S1 (nx_tr hn3 n_S37)) ?_
                rw [lx_w hrn hk]
                refine ⟨by simp, by show S37.1 50 = (r : Int); omega, ?_, fun _ => ⟨_, f, by omega, hg.2, by omega, rfl⟩⟩
                show tc_ (lw_ T r (lr_ T 97 (n - r) r)) (S37.1 51) (S37.1 52)
                have hu := lw_tc g3 hLe hg.1
                have hv : S37.1 52 = pr_ix (T r) := by omega
                rw [hv]
                have hu2 : (if lr_ T 97 (n - r) r = r + 1 then (if pr_ix (T r) < 0 then (5 : Int) else 2) else if lr_ T 97 (n - r) r ≠ r + 3 then 5 else if x3 = 1799406 then 3 else if x3 = 1798392 then 4 else 5) = S37.1 51 := by
                  repeat (first | rw [if_pos (by omega)] | rw [if_neg (by omega)])
                  omega
                rw [hu2] at hu
                exact hu
            · refine ag_iconst dd_M_nextToken_250 ?_
              refine ag_goto (tgt := 266) dd_M_nextToken_251 (by decide) ?_
              refine mp_51 dd_M_nextToken_266 fp_M_250 hM (fun h S38 eS38 hM => ?_)
              have q43_S38 : S38.1 43 = S31.1 43 := by rw [eS38]; rfl
              have q49_S38 : S38.1 49 = S31.1 49 := by rw [eS38]; rfl
              have q50_S38 : S38.1 50 = S31.1 50 := by rw [eS38]; rfl
              have q51_S38 : S38.1 51 = 3 := by rw [eS38]; rfl
              have q52_S38 : S38.1 52 = S31.1 52 := by rw [eS38]; rfl
              have t_S38 : S38.2 68 = T := by rw [eS38]; exact t_S31
              have n_S38 : nx_ S3 S38 := nx_up n_S31 eS38 (by decide)
              clear eS38
              refine ag_goto (tgt := 333) dd_M_nextToken_269 (by decide) ?_
              refine ag_vret dd_M_nextToken_333 rfl ?_
              refine hX S38 h hM (nx_tr n_S1 (nx_tr hn3 n_S38)) ?_
              rw [lx_w hrn hk]
              refine ⟨by simp, by show S38.1 50 = (r : Int); omega, ?_, fun _ => ⟨_, f, by omega, hg.2, by omega, rfl⟩⟩
              show tc_ (lw_ T r (lr_ T 97 (n - r) r)) (S38.1 51) (S38.1 52)
              have hu := lw_tc g3 hLe hg.1
              have hv : S38.1 52 = pr_ix (T r) := by omega
              rw [hv]
              have hu2 : (if lr_ T 97 (n - r) r = r + 1 then (if pr_ix (T r) < 0 then (5 : Int) else 2) else if lr_ T 97 (n - r) r ≠ r + 3 then 5 else if x3 = 1799406 then 3 else if x3 = 1798392 then 4 else 5) = S38.1 51 := by
                repeat (first | rw [if_pos (by omega)] | rw [if_neg (by omega)])
                omega
              rw [hu2] at hu
              exact hu
          · refine ag_iconst dd_M_nextToken_239 ?_
            refine ag_goto (tgt := 266) dd_M_nextToken_240 (by decide) ?_
            refine mp_51 dd_M_nextToken_266 fp_M_250 hM (fun h S39 eS39 hM => ?_)
            have q43_S39 : S39.1 43 = S31.1 43 := by rw [eS39]; rfl
            have q49_S39 : S39.1 49 = S31.1 49 := by rw [eS39]; rfl
            have q50_S39 : S39.1 50 = S31.1 50 := by rw [eS39]; rfl
            have q51_S39 : S39.1 51 = 5 := by rw [eS39]; rfl
            have q52_S39 : S39.1 52 = S31.1 52 := by rw [eS39]; rfl
            have t_S39 : S39.2 68 = T := by rw [eS39]; exact t_S31
            have n_S39 : nx_ S3 S39 := nx_up n_S31 eS39 (by decide)
            clear eS39
            refine ag_goto (tgt := 333) dd_M_nextToken_269 (by decide) ?_
            refine ag_vret dd_M_nextToken_333 rfl ?_
            refine hX S39 h hM (nx_tr n_S1 (nx_tr hn3 n_S39)) ?_
            rw [lx_w hrn hk]
            refine ⟨by simp, by show S39.1 50 = (r : Int); omega, ?_, fun _ => ⟨_, f, by omega, hg.2, by omega, rfl⟩⟩
            show tc_ (lw_ T r (lr_ T 97 (n - r) r)) (S39.1 51) (S39.1 52)
            have hu := lw_tc g3 hLe hg.1
            have hv : S39.1 52 = pr_ix (T r) := by omega
            rw [hv]
            have hu2 : (if lr_ T 97 (n - r) r = r + 1 then (if pr_ix (T r) < 0 then (5 : Int) else 2) else if lr_ T 97 (n - r) r ≠ r + 3 then 5 else if x3 = 1799406 then 3 else if x3 = 1798392 then 4 else 5) = S39.1 51 := by
              repeat (first | rw [if_pos (by omega)] | rw [if_neg (by omega)])
              omega
            rw [hu2] at hu
            exact hu
        · refine ag_aload_n dd_M_nextToken_219 rfl ?_
          refine ag_get dd_M_nextToken_220 fg_M_256 (mr_38 hM) rfl ?_
          refine ag_if_ge (tgt := 230) dd_M_nextToken_223 (by decide) (by omega) (fun c40 => ?_) (fun c40 => ?_)
          · refine ag_iconst dd_M_nextToken_230 ?_
            refine ag_goto (tgt := 266) dd_M_nextToken_231 (by decide) ?_
            refine mp_51 dd_M_nextToken_266 fp_M_250 hM (fun h S41 eS41 hM => ?_)
            have q43_S41 : S41.1 43 = S31.1 43 := by rw [eS41]; rfl
            have q49_S41 : S41.1 49 = S31.1 49 := by rw [eS41]; rfl
            have q50_S41 : S41.1 50 = S31.1 50 := by rw [eS41]; rfl
            have q51_S41 : S41.1 51 = 2 := by rw [eS41]; rfl
            have q52_S41 : S41.1 52 = S31.1 52 := by rw [eS41]; rfl
            have t_S41 : S41.2 68 = T := by rw [eS41]; exact t_S31
            have n_S41 : nx_ S3 S41 := nx_up n_S31 eS41 (by decide)
            clear eS41
            refine ag_goto (tgt := 333) dd_M_nextToken_269 (by decide) ?_
            refine ag_vret dd_M_nextToken_333 rfl ?_
            refine hX S41 h hM (nx_tr n_S1 (nx_tr hn3 n_S41)) ?_
            rw [lx_w hrn hk]
            refine ⟨by simp, by show S41.1 50 = (r : Int); omega, ?_, fun _ => ⟨_, f, by omega, hg.2, by omega, rfl⟩⟩
            show tc_ (lw_ T r (lr_ T 97 (n - r) r)) (S41.1 51) (S41.1 52)
            have hu := lw_tc g3 hLe hg.1
            have hv : S41.1 52 = pr_ix (T r) := by omega
            rw [hv]
            have hu2 : (if lr_ T 97 (n - r) r = r + 1 then (if pr_ix (T r) < 0 then (5 : Int) else 2) else if lr_ T 97 (n - r) r ≠ r + 3 then 5 else if x3 = 1799406 then 3 else if x3 = 1798392 then 4 else 5) = S41.1 51 := by
              repeat (first | rw [if_pos (by omega)] | rw [if_neg (by omega)])
              omega
            rw [hu2] at hu
            exact hu
          · refine ag_iconst dd_M_nextToken_226 ?_
            refine ag_goto (tgt := 266) dd_M_nextToken_227 (by decide) ?_
            refine mp_51 dd_M_nextToken_266 fp_M_250 hM (fun h S42 eS42 hM => ?_)
            have q43_S42 : S42.1 43 = S31.1 43 := by rw [eS42]; rfl
            have q49_S42 : S42.1 49 = S31.1 49 := by rw [eS42]; rfl
            have q50_S42 : S42.1 50 = S31.1 50 := by rw [eS42]; rfl
            have q51_S42 : S42.1 51 = 5 := by rw [eS42]; rfl
            have q52_S42 : S42.1 52 = S31.1 52 := by rw [eS42]; rfl
            have t_S42 : S42.2 68 = T := by rw [eS42]; exact t_S31
            have n_S42 : nx_ S3 S42 := nx_up n_S31 eS42 (by decide)
            clear eS42
            refine ag_goto (tgt := 333) dd_M_nextToken_269 (by decide) ?_
            refine ag_vret dd_M_nextToken_333 rfl ?_
            refine hX S42 h hM (nx_tr n_S1 (nx_tr hn3 n_S42)) ?_
            rw [lx_w hrn hk]
            refine ⟨by simp, by show S42.1 50 = (r : Int); omega, ?_, fun _ => ⟨_, f, by omega, hg.2, by omega, rfl⟩⟩
            show tc_ (lw_ T r (lr_ T 97 (n - r) r)) (S42.1 51) (S42.1 52)
            have hu := lw_tc g3 hLe hg.1
            have hv : S42.1 52 = pr_ix (T r) := by omega
            rw [hv]
            have hu2 : (if lr_ T 97 (n - r) r = r + 1 then (if pr_ix (T r) < 0 then (5 : Int) else 2) else if lr_ T 97 (n - r) r ≠ r + 3 then 5 else if x3 = 1799406 then 3 else if x3 = 1798392 then 4 else 5) = S42.1 51 := by
              repeat (first | rw [if_pos (by omega)] | rw [if_neg (by omega)])
              omega
            rw [hu2] at hu
            exact hu
    · refine ag_aload_n dd_M_nextToken_62 rfl ?_
      refine ag_iconst dd_M_nextToken_63 ?_
      refine mp_51 dd_M_nextToken_64 fp_M_250 hM (fun h S43 eS43 hM => ?_)
      have q43_S43 : S43.1 43 = S1.1 43 := by rw [eS43]; rfl
      have q49_S43 : S43.1 49 = S1.1 49 := by rw [eS43]; rfl
      have q50_S43 : S43.1 50 = S1.1 50 := by rw [eS43]; rfl
      have q51_S43 : S43.1 51 = 1 := by rw [eS43]; rfl
      have q52_S43 : S43.1 52 = S1.1 52 := by rw [eS43]; rfl
      have t_S43 : S43.2 68 = T := by rw [eS43]; exact t_S1
      have n_S43 : nx_ S S43 := nx_up n_S1 eS43 (by decide)
      clear eS43
      refine ag_aload_n dd_M_nextToken_67 rfl ?_
      refine ag_iconst dd_M_nextToken_68 ?_
      refine mp_52 dd_M_nextToken_69 fp_M_256 hM (fun h S44 eS44 hM => ?_)
      have q43_S44 : S44.1 43 = S43.1 43 := by rw [eS44]; rfl
      have q49_S44 : S44.1 49 = S43.1 49 := by rw [eS44]; rfl
      have q50_S44 : S44.1 50 = S43.1 50 := by rw [eS44]; rfl
      have q51_S44 : S44.1 51 = S43.1 51 := by rw [eS44]; rfl
      have q52_S44 : S44.1 52 = 0 := by rw [eS44]; rfl
      have t_S44 : S44.2 68 = T := by rw [eS44]; exact t_S43
      have n_S44 : nx_ S S44 := nx_up n_S43 eS44 (by decide)
      clear eS44
      obtain ⟨f, rfl⟩ : ∃ f2, f = f2 + 1 := ⟨f - 1, by omega⟩
      obtain ⟨hrn, hc⟩ : r < n ∧ v3 = T r := by omega
      have hk : lk_ (T r) = 48 := lk_48.mpr (by omega)
      have hg := lr_gt hrn hk
      refine ag_weak [some (av_r 38), none, none, none] (by simp [al_le]) ?_
      refine ml_M_nt72 hd hT hn (n - r) S44 r 0 h (by omega) (by omega) (by omega) t_S44 (by omega) (by omega) hM (fun S3 h hM hn3 g1 g2 g3 g4 g5 => ?_)
      refine hX S3 h hM (nx_tr n_S44 hn3) ?_
      rw [lx_n hrn hk]
      refine ⟨by simp, by show S3.1 50 = (r : Int); omega, Or.inr (Or.inl ⟨?_, by omega, g4, ?_⟩), fun _ => ⟨_, f, g3, hg.2, by omega, rfl⟩⟩
      · show 1000 ≤ 1000 + ln_ T _ r 0
        omega
      · show 1000 + ln_ T _ r 0 - 1000 = _
        omega
  · refine ag_aload_n dd_M_nextToken_47 rfl ?_
    refine ag_iconst dd_M_nextToken_48 ?_
    refine mp_51 dd_M_nextToken_49 fp_M_250 hM (fun h S45 eS45 hM => ?_)
    have q43_S45 : S45.1 43 = S1.1 43 := by rw [eS45]; rfl
    have q49_S45 : S45.1 49 = S1.1 49 := by rw [eS45]; rfl
    have q50_S45 : S45.1 50 = S1.1 50 := by rw [eS45]; rfl
    have q51_S45 : S45.1 51 = 0 := by rw [eS45]; rfl
    have q52_S45 : S45.1 52 = S1.1 52 := by rw [eS45]; rfl
    have t_S45 : S45.2 68 = T := by rw [eS45]; exact t_S1
    have n_S45 : nx_ S S45 := nx_up n_S1 eS45 (by decide)
    clear eS45
    refine ag_goto (tgt := 333) dd_M_nextToken_52 (by decide) ?_
    refine ag_vret dd_M_nextToken_333 rfl ?_
    refine hX S45 h hM n_S45 ?_
    rw [lx_end (by omega)]
    exact ⟨by simp, by show S45.1 50 = (n : Int); omega, Or.inl ⟨rfl, by omega⟩, fun q => absurd rfl q⟩
set_option maxHeartbeats 1000000 in
theorem ml_M_nt0 {w : aw_T} {h0 : ah_T} {d : Nat} (hd : 2 ≤ d) {T : Nat → Int} (hT : ∀ i, 0 ≤ T i ∧ T i ≤ 255) {n : Nat} (hn : n ≤ 100) {P : ap_T} : ∀ (f : Nat) (S : ms_T) (r : Nat) (h : ah_T), S.1 49 = (r : Int) → r ≤ n → n - r ≤ f → S.1 43 = (n : Int) → S.2 68 = T → mo_I h0 h S → (∀ (S3 : ms_T) (h : ah_T), mo_I h0 h S3 → nx_ S S3 → tk_R T n S3 (lx_ T n f r) → P none h) → aw_W w mm_M_nextToken d P 0 [some (av_r 38), none, none, none] [] h 0 0 := by
  intro f
  induction f with
  | zero =>
    intro S r h h49 hrn hf h43 ht hM hX
    have t_S := ht
    have n_S := nx_rf S
    have hTr := hT r
    refine ag_aload_n dd_M_nextToken_0 rfl ?_
    refine ag_aload_n dd_M_nextToken_1 rfl ?_
    refine ag_get dd_M_nextToken_2 fg_M_241 (mr_38 hM) rfl ?_
    have z1 := sp_see_c (k := (S.1 49)) (r := r) (n := n) t_S (by omega) (by omega)
    refine ag_rV dd_M_nextToken_5 fi_M_244 (mr_38 hM) rfl (mc_M_see (d := 0) (by omega) hM (by omega) (by omega)) rfl rfl (by omega) (Nat.le_of_ble_eq_true rfl) ?_
    generalize sp_see S (S.1 49) = v2 at z1 ⊢
    refine ag_bipush dd_M_nextToken_8 (by decide +kernel) ?_
    refine ag_icmp_ne (tgt := 26) dd_M_nextToken_10 (by decide) (by omega) (by omega) (fun c3 => ?_) (fun c3 => ?_)
    · exact ml_M_nt26 hd hT hn 0 h49 hrn hf h43 ht hM (fun q => by omega) hX
    · exfalso; omega
  | succ f ih =>
    intro S r h h49 hrn hf h43 ht hM hX
    have t_S := ht
    have n_S := nx_rf S
    have hTr := hT r
    refine ag_aload_n dd_M_nextToken_0 rfl ?_
    refine ag_aload_n dd_M_nextToken_1 rfl ?_
    refine ag_get dd_M_nextToken_2 fg_M_241 (mr_38 hM) rfl ?_
    have z1 := sp_see_c (k := (S.1 49)) (r := r) (n := n) t_S (by omega) (by omega)
    refine ag_rV dd_M_nextToken_5 fi_M_244 (mr_38 hM) rfl (mc_M_see (d := 0) (by omega) hM (by omega) (by omega)) rfl rfl (by omega) (Nat.le_of_ble_eq_true rfl) ?_
    generalize sp_see S (S.1 49) = v2 at z1 ⊢
    refine ag_bipush dd_M_nextToken_8 (by decide +kernel) ?_
    refine ag_icmp_ne (tgt := 26) dd_M_nextToken_10 (by decide) (by omega) (by omega) (fun c3 => ?_) (fun c3 => ?_)
    · exact ml_M_nt26 hd hT hn (f + 1) h49 hrn hf h43 ht hM (fun q => by omega) hX
    · refine ag_aload_n dd_M_nextToken_13 rfl ?_
      refine ag_dup dd_M_nextToken_14 rfl ?_
      refine ag_get dd_M_nextToken_15 fg_M_241 (mr_38 hM) rfl ?_
      refine ag_iconst dd_M_nextToken_18 ?_
      refine ag_iadd dd_M_nextToken_19 ?_
      refine mp_49 dd_M_nextToken_20 fp_M_241 hM (fun h S4 eS4 hM => ?_)
      have q43_S4 : S4.1 43 = S.1 43 := by rw [eS4]; rfl
      have q49_S4 : S4.1 49 = ((S.1 49) + 1) := by rw [eS4]; rfl
      have q50_S4 : S4.1 50 = S.1 50 := by rw [eS4]; rfl
      have q51_S4 : S4.1 51 = S.1 51 := by rw [eS4]; rfl
      have q52_S4 : S4.1 52 = S.1 52 := by rw [eS4]; rfl
      have t_S4 : S4.2 68 = T := by rw [eS4]; exact t_S
      have n_S4 : nx_ S S4 := nx_up n_S eS4 (by decide)
      clear eS4
      refine ag_goto (tgt := 0) dd_M_nextToken_23 (by decide) ?_
      obtain ⟨hrn2, hc⟩ : r < n ∧ T r = 32 := by omega
      refine ih S4 (r + 1) h (by omega) (by omega) (by omega) (by omega) t_S4 hM (fun S3 h hM hn3 g => ?_)
      refine hX S3 h hM (nx_tr n_S4 hn3) ?_
      rw [lx_b hrn2 (lk_32.mpr hc)]
      exact g
set_option maxHeartbeats 1000000 in
theorem mc_M_nextToken {w : aw_T} {h0 h : ah_T} {S : ms_T} {d : Nat} (hd : 2 ≤ d) (hM : mo_I h0 h S) {T : Nat → Int} (hT : ∀ i, 0 ≤ T i ∧ T i ≤ 255) {n : Nat} (hn : n ≤ 100) {f r : Nat} (h49 : S.1 49 = (r : Int)) (hr : r ≤ n) (hf : n - r ≤ f) (h43 : S.1 43 = (n : Int)) (ht : S.2 68 = T) : am_M w mm_M_nextToken d [av_r 38] h 0 0 (fun r1 h1 => r1 = none ∧ ∃ S3, nx_ S S3 ∧ tk_R T n S3 (lx_ T n f r) ∧ mo_I h0 h1 S3) := by
  refine am_intro [some (av_r 38), none, none, none] (by decide +kernel) (Nat.le_of_ble_eq_true rfl) rfl ?_
  exact ml_M_nt0 hd hT hn f S r h h49 hr hf h43 ht hM (fun S3 h hM g1 g2 => ⟨rfl, S3, g1, g2, hM⟩)
