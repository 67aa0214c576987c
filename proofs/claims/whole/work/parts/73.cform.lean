-- what is left to read, or the fault and its place
abbrev rs_T : Type := List tk_T ⊕ (Int × Int)
/-- a text's arrays -/
def fa_ (h : ah_T) (F : Nat) (ts : List tk_T) : Prop := ts.length ≤ 101 ∧ (∃ tk : Nat → Int, h[F + 1]? = some (ac_a 0 101 tk) ∧ ∀ j, j < ts.length → tk j = pr_h (ts.drop j)) ∧ (∃ pk : Nat → Int, h[F + 2]? = some (ac_a 0 101 pk) ∧ ∀ j, j < ts.length → pk j = pr_p (ts.drop j)) ∧ ∀ q ∈ ts, (0 ≤ q.1 ∧ q.1 ≤ 11000) ∧ (-1 ≤ q.2 ∧ q.2 ≤ 200)
def fx_ (F n : Nat) (E : Int × (Int × (Int × (Int × Int)))) (a ft pl : Int) : ac_T := ac_o 5 [av_r (F + 1), av_r (F + 2), av_i (n : Int), av_i a, av_i ft, av_i pl, av_i E.1, av_i E.2.1, av_i E.2.2.1, av_i E.2.2.2.1, av_i E.2.2.2.2]
def ss_ (ts : List tk_T) (a : Nat) (ft pl : Int) (s : rs_T) : Prop := match s with
  | .inl r => ft = 0 ∧ pl = -1 ∧ a ≤ ts.length ∧ ts.drop a = r
  | .inr e => ft = e.1 ∧ (1 ≤ e.1 ∧ e.1 ≤ 3) ∧ pl = e.2 ∧ a = ts.length
def FS_ (h : ah_T) (F : Nat) (ts : List tk_T) (E : Int × (Int × (Int × (Int × Int)))) (s : rs_T) : Prop := fa_ h F ts ∧ ∃ (a : Nat) (ft pl : Int), h[F]? = some (fx_ F ts.length E a ft pl) ∧ ss_ ts a ft pl s
/-- only the text's own cell has changed -/
def fe_ (h h' : ah_T) (F : Nat) : Prop := h'.length = h.length ∧ ∀ b, b ≠ F → h'[b]? = h[b]?
theorem fe_rf (h : ah_T) (F : Nat) : fe_ h h F := ⟨rfl, fun _ _ => rfl⟩
theorem fe_tr {a b c : ah_T} {F : Nat} (h1 : fe_ a b F) (h2 : fe_ b c F) : fe_ a c F := ⟨h2.1.trans h1.1, fun x hx => (h2.2 x hx).trans (h1.2 x hx)⟩
theorem fe_hu {h h' : ah_T} {F : Nat} {c : ac_T} (hu : hu_ h h' F c) : fe_ h h' F := ⟨hu.1, hu.2.2⟩
theorem fa_fe {h h' : ah_T} {F : Nat} {ts : List tk_T} (ha : fa_ h F ts) (he : fe_ h h' F) : fa_ h' F ts := by
  obtain ⟨h1, ⟨tk, h2, h3⟩, ⟨pk, h4, h5⟩, h6⟩ := ha
  exact ⟨h1, ⟨tk, (he.2 _ (by omega)).trans h2, h3⟩, ⟨pk, (he.2 _ (by omega)).trans h4, h5⟩, h6⟩
def hs_ (s : rs_T) : Int := match s with
  | .inl r => pr_h r
  | .inr _ => 0
def sx_ (k : Int) (s : rs_T) : rs_T := match s with
  | .inl r => .inr (k, pr_p r)
  | .inr e => .inr e
def sn_ (s : rs_T) : rs_T := match s with
  | .inl r => .inl r.tail
  | .inr e => .inr e
theorem pr_hd {ts : List tk_T} (h6 : ∀ q ∈ ts, (0 ≤ q.1 ∧ q.1 ≤ 11000) ∧ (-1 ≤ q.2 ∧ q.2 ≤ 200)) (a : Nat) : (0 ≤ pr_h (ts.drop a) ∧ pr_h (ts.drop a) ≤ 11000) ∧ (-1 ≤ pr_p (ts.drop a) ∧ pr_p (ts.drop a) ≤ 200) := by
  cases hd : ts.drop a with
  | nil => exact ⟨⟨Int.le_refl _, by decide⟩, ⟨Int.le_refl _, by decide⟩⟩
  | cons q r =>
    have hm : q ∈ ts.drop a := by rw [hd]; exact List.mem_cons_self
    exact h6 q (List.mem_of_mem_drop hm)
theorem hs_b {h : ah_T} {F : Nat} {ts : List tk_T} {E : Int × (Int × (Int × (Int × Int)))} {s : rs_T} (H : FS_ h F ts E s) : 0 ≤ hs_ s ∧ hs_ s ≤ 11000 := by
  obtain ⟨ha, a, ft, pl, hc, hss⟩ := H
  cases s with
  | inr e => exact ⟨Int.le_refl _, show (0 : Int) ≤ 11000 by decide⟩
  | inl r =>
    have := (pr_hd ha.2.2.2 a).1
    rw [hss.2.2.2] at this
    exact this
theorem dr_nil {ts : List tk_T} {a : Nat} (h : ts.length ≤ a) : ts.drop a = [] := List.drop_eq_nil_of_le h
theorem dr_tail (ts : List tk_T) (a : Nat) : (ts.drop a).tail = ts.drop (a + 1) := by rw [List.tail_drop]
theorem dr_len {ts : List tk_T} {a : Nat} (h : pr_h (ts.drop a) ≠ 0) : a < ts.length := by
  by_cases q : ts.length ≤ a
  · rw [dr_nil q] at h
    exact absurd rfl h
  · omega
set_option maxHeartbeats 1000000 in
theorem mc_Formula_token {w : aw_T} {h : ah_T} {d : Nat} (hd : 0 ≤ d) {F : Nat} {ts : List tk_T} {E : Int × (Int × (Int × (Int × Int)))} {s : rs_T} (H : FS_ h F ts E s) : am_M w mm_Formula_token d [av_r F] h 0 0 (fun r h' => r = some (av_i (hs_ s)) ∧ h' = h) := by
  refine am_intro [some (av_r (F))] (by decide +kernel) (Nat.le_of_ble_eq_true rfl) rfl ?_
  have Hb := hs_b H
  obtain ⟨ha, a, ft, pl, hc, hss⟩ := H
  obtain ⟨hn101, ⟨tk, hT, hTv⟩, ⟨pk, hP, hPv⟩, hB⟩ := ha
  have hpb := pr_hd hB a
  have hab : a ≤ ts.length := by
    cases s with
    | inl r => exact hss.2.2.1
    | inr e => exact Nat.le_of_eq hss.2.2.2
  refine ag_aload_n dd_Formula_token_0 rfl ?_
  refine ag_get dd_Formula_token_1 fg_Formula_67 hc rfl ?_
  refine ag_aload_n dd_Formula_token_4 rfl ?_
  refine ag_get dd_Formula_token_5 fg_Formula_20 hc rfl ?_
  refine ag_icmp_ge (tgt := 35) dd_Formula_token_8 (by decide) (by omega) (by omega) (fun c1 => ?_) (fun c1 => ?_)
  · refine ag_iconst dd_Formula_token_35 ?_
    refine ag_iret dd_Formula_token_36 rfl ?_
    refine ⟨congrArg (fun z => some (av_i z)) ?_, rfl⟩
    cases s with
    | inl r =>
      have hr := hss.2.2.2
      show _ = pr_h r
      rw [← hr]
      first
      | (rw [Int.toNat_natCast]; exact hTv a (by omega))
      | (rw [dr_nil (by omega)]; rfl)
    | inr e =>
      have := hss.2.2.2
      first
      | rfl
      | (exfalso; omega)
  · refine ag_aload_n dd_Formula_token_11 rfl ?_
    refine ag_get dd_Formula_token_12 fg_Formula_67 hc rfl ?_
    refine ag_aload_n dd_Formula_token_15 rfl ?_
    refine ag_get dd_Formula_token_16 fg_Formula_13 hc rfl ?_
    refine ag_alen dd_Formula_token_19 hT (by decide) ?_
    refine ag_icmp_ge (tgt := 35) dd_Formula_token_20 (by decide) (by omega) (by omega) (fun c2 => ?_) (fun c2 => ?_)
    · refine ag_iconst dd_Formula_token_35 ?_
      refine ag_iret dd_Formula_token_36 rfl ?_
      refine ⟨congrArg (fun z => some (av_i z)) ?_, rfl⟩
      cases s with
      | inl r =>
        have hr := hss.2.2.2
        show _ = pr_h r
        rw [← hr]
        first
        | (rw [Int.toNat_natCast]; exact hTv a (by omega))
        | (rw [dr_nil (by omega)]; rfl)
      | inr e =>
        have := hss.2.2.2
        first
        | rfl
        | (exfalso; omega)
    · refine ag_aload_n dd_Formula_token_23 rfl ?_
      refine ag_get dd_Formula_token_24 fg_Formula_13 hc rfl ?_
      refine ag_aload_n dd_Formula_token_27 rfl ?_
      refine ag_get dd_Formula_token_28 fg_Formula_67 hc rfl ?_
      refine ag_iald dd_Formula_token_31 hT (by decide) (by omega) ?_
      refine ag_goto (tgt := 36) dd_Formula_token_32 (by decide) ?_
      refine ag_iret dd_Formula_token_36 rfl ?_
      refine ⟨congrArg (fun z => some (av_i z)) ?_, rfl⟩
      cases s with
      | inl r =>
        have hr := hss.2.2.2
        show _ = pr_h r
        rw [← hr]
        first
        | (rw [Int.toNat_natCast]; exact hTv a (by omega))
        | (rw [dr_nil (by omega)]; rfl)
      | inr e =>
        have := hss.2.2.2
        first
        | rfl
        | (exfalso; omega)
set_option maxHeartbeats 1000000 in
theorem mc_Formula_stop {w : aw_T} {h : ah_T} {d : Nat} (hd : 0 ≤ d) {F : Nat} {ts : List tk_T} {E : Int × (Int × (Int × (Int × Int)))} {s : rs_T} (H : FS_ h F ts E s) {k : Int} (hk : 1 ≤ k ∧ k ≤ 3) : am_M w mm_Formula_stop d [av_r F, av_i k] h 0 0 (fun r1 h1 => r1 = none ∧ FS_ h1 F ts E (sx_ k s) ∧ fe_ h h1 F) := by
  refine am_intro [some (av_r (F)), some (av_i (k))] (by decide +kernel) (Nat.le_of_ble_eq_true rfl) rfl ?_
  have Hb := hs_b H
  obtain ⟨ha, a, ft, pl, hc, hss⟩ := H
  obtain ⟨hn101, ⟨tk, hT, hTv⟩, ⟨pk, hP, hPv⟩, hB⟩ := ha
  have hpb := pr_hd hB a
  have hftb : 0 ≤ ft ∧ ft ≤ 3 := by
    cases s with
    | inl r => have := hss.1; omega
    | inr e => have := hss.1; have := hss.2.1; omega
  have hab : a ≤ ts.length := by
    cases s with
    | inl r => exact hss.2.2.1
    | inr e => exact Nat.le_of_eq hss.2.2.2
  refine ag_aload_n dd_Formula_stop_0 rfl ?_
  refine ag_get dd_Formula_stop_1 fg_Formula_70 hc rfl ?_
  refine ag_if_ne (tgt := 52) dd_Formula_stop_4 (by decide) (by omega) (fun c1 => ?_) (fun c1 => ?_)
  · refine ag_aload_n dd_Formula_stop_52 rfl ?_
    refine ag_aload_n dd_Formula_stop_53 rfl ?_
    refine ag_get dd_Formula_stop_54 fg_Formula_20 hc rfl ?_
    refine hp_i dd_Formula_stop_57 fp_Formula_67 hc (Nat.le_of_ble_eq_true rfl) (fun h huN => ?_)
    have hu1 := huN
    clear huN
    refine ag_vret dd_Formula_stop_60 rfl ?_
    cases s with
    | inl r => have := hss.1; exfalso; omega
    | inr e =>
      refine ⟨rfl, ⟨fa_fe ⟨hn101, ⟨tk, hT, hTv⟩, ⟨pk, hP, hPv⟩, hB⟩ (fe_hu hu1), ts.length, ft, pl, ?_, ⟨hss.1, hss.2.1, hss.2.2.1, rfl⟩⟩, fe_hu hu1⟩
      rw [hu1.2.1]
      rfl
  · refine ag_aload_n dd_Formula_stop_7 rfl ?_
    refine ag_iload_n dd_Formula_stop_8 rfl ?_
    refine hp_i dd_Formula_stop_9 fp_Formula_70 hc (Nat.le_of_ble_eq_true rfl) (fun h huN => ?_)
    have hu1 := huN
    clear huN
    refine ag_aload_n dd_Formula_stop_12 rfl ?_
    refine ag_aload_n dd_Formula_stop_13 rfl ?_
    refine ag_get dd_Formula_stop_14 fg_Formula_67 hu1.2.1 rfl ?_
    refine ag_aload_n dd_Formula_stop_17 rfl ?_
    refine ag_get dd_Formula_stop_18 fg_Formula_20 hu1.2.1 rfl ?_
    refine ag_icmp_ge (tgt := 48) dd_Formula_stop_21 (by decide) (by omega) (by omega) (fun c2 => ?_) (fun c2 => ?_)
    · refine ag_iconst dd_Formula_stop_48 ?_
      refine hp_i dd_Formula_stop_49 fp_Formula_73 hu1.2.1 (Nat.le_of_ble_eq_true rfl) (fun h huN => ?_)
      replace hu1 := hu_tr hu1 huN
      clear huN
      refine ag_aload_n dd_Formula_stop_52 rfl ?_
      refine ag_aload_n dd_Formula_stop_53 rfl ?_
      refine ag_get dd_Formula_stop_54 fg_Formula_20 hu1.2.1 rfl ?_
      refine hp_i dd_Formula_stop_57 fp_Formula_67 hu1.2.1 (Nat.le_of_ble_eq_true rfl) (fun h huN => ?_)
      replace hu1 := hu_tr hu1 huN
      clear huN
      refine ag_vret dd_Formula_stop_60 rfl ?_
      cases s with
      | inr e => have := hss.2.1; have := hss.1; exfalso; omega
      | inl r =>
        refine ⟨rfl, ⟨fa_fe ⟨hn101, ⟨tk, hT, hTv⟩, ⟨pk, hP, hPv⟩, hB⟩ (fe_hu hu1), ts.length, k, pr_p r, ?_, ⟨rfl, hk, rfl, rfl⟩⟩, fe_hu hu1⟩
        have hr := hss.2.2.2
        rw [hu1.2.1, ← hr]
        first
        | (rw [← hTP]; rfl)
        | (rw [dr_nil (by omega)]; rfl)
    · refine ag_aload_n dd_Formula_stop_24 rfl ?_
      refine ag_get dd_Formula_stop_25 fg_Formula_67 hu1.2.1 rfl ?_
      refine ag_aload_n dd_Formula_stop_28 rfl ?_
      refine ag_get dd_Formula_stop_29 fg_Formula_17 hu1.2.1 rfl ?_
      refine ag_alen dd_Formula_stop_32 ((hu1.2.2 (F + 2) (by omega)).trans hP) (by decide) ?_
      refine ag_icmp_ge (tgt := 48) dd_Formula_stop_33 (by decide) (by omega) (by omega) (fun c3 => ?_) (fun c3 => ?_)
      · refine ag_iconst dd_Formula_stop_48 ?_
        refine hp_i dd_Formula_stop_49 fp_Formula_73 hu1.2.1 (Nat.le_of_ble_eq_true rfl) (fun h huN => ?_)
        replace hu1 := hu_tr hu1 huN
        clear huN
        refine ag_aload_n dd_Formula_stop_52 rfl ?_
        refine ag_aload_n dd_Formula_stop_53 rfl ?_
        refine ag_get dd_Formula_stop_54 fg_Formula_20 hu1.2.1 rfl ?_
        refine hp_i dd_Formula_stop_57 fp_Formula_67 hu1.2.1 (Nat.le_of_ble_eq_true rfl) (fun h huN => ?_)
        replace hu1 := hu_tr hu1 huN
        clear huN
        refine ag_vret dd_Formula_stop_60 rfl ?_
        cases s with
        | inr e => have := hss.2.1; have := hss.1; exfalso; omega
        | inl r =>
          refine ⟨rfl, ⟨fa_fe ⟨hn101, ⟨tk, hT, hTv⟩, ⟨pk, hP, hPv⟩, hB⟩ (fe_hu hu1), ts.length, k, pr_p r, ?_, ⟨rfl, hk, rfl, rfl⟩⟩, fe_hu hu1⟩
          have hr := hss.2.2.2
          rw [hu1.2.1, ← hr]
          first
          | (rw [← hTP]; rfl)
          | (rw [dr_nil (by omega)]; rfl)
      · have hTP := hPv a (by omega)
        refine ag_aload_n dd_Formula_stop_36 rfl ?_
        refine ag_get dd_Formula_stop_37 fg_Formula_17 hu1.2.1 rfl ?_
        refine ag_aload_n dd_Formula_stop_40 rfl ?_
        refine ag_get dd_Formula_stop_41 fg_Formula_67 hu1.2.1 rfl ?_
        refine ag_iald dd_Formula_stop_44 ((hu1.2.2 (F + 2) (by omega)).trans hP) (by decide) (by omega) ?_
        refine ag_goto (tgt := 49) dd_Formula_stop_45 (by decide) ?_
        refine hp_i dd_Formula_stop_49 fp_Formula_73 hu1.2.1 (Nat.le_of_ble_eq_true rfl) (fun h huN => ?_)
        replace hu1 := hu_tr hu1 huN
        clear huN
        refine ag_aload_n dd_Formula_stop_52 rfl ?_
        refine ag_aload_n dd_Formula_stop_53 rfl ?_
        refine ag_get dd_Formula_stop_54 fg_Formula_20 hu1.2.1 rfl ?_
        refine hp_i dd_Formula_stop_57 fp_Formula_67 hu1.2.1 (Nat.le_of_ble_eq_true rfl) (fun h huN => ?_)
        replace hu1 := hu_tr hu1 huN
        clear huN
        refine ag_vret dd_Formula_stop_60 rfl ?_
        cases s with
        | inr e => have := hss.2.1; have := hss.1; exfalso; omega
        | inl r =>
          refine ⟨rfl, ⟨fa_fe ⟨hn101, ⟨tk, hT, hTv⟩, ⟨pk, hP, hPv⟩, hB⟩ (fe_hu hu1), ts.length, k, pr_p r, ?_, ⟨rfl, hk, rfl, rfl⟩⟩, fe_hu hu1⟩
          have hr := hss.2.2.2
          rw [hu1.2.1, ← hr]
          first
          | (rw [← hTP]; rfl)
          | (rw [dr_nil (by omega)]; rfl)
/-- one token further -/
theorem FS_nx {h h' : ah_T} {F : Nat} {ts : List tk_T} {E : Int × (Int × (Int × (Int × Int)))} {r : List tk_T} {a : Nat} {ft pl : Int} {c : ac_T} (ha : fa_ h F ts) (hss : ss_ ts a ft pl (.inl r)) (hne : pr_h r ≠ 0) (hu : hu_ h h' F c) (hc : c = fx_ F ts.length E ((a : Int) + 1) ft pl) : FS_ h' F ts E (.inl r.tail) := by
  obtain ⟨q1, q2, q3, q4⟩ := hss
  have hlt : a < ts.length := dr_len (by rw [q4]; exact hne)
  refine ⟨fa_fe ha (fe_hu hu), a + 1, ft, pl, ?_, ⟨q1, q2, by omega, ?_⟩⟩
  · rw [hu.2.1, hc]
    rfl
  · rw [← q4, dr_tail]
def sk_ (x : Int) (s : rs_T) : rs_T := match s with
  | .inl r => if pr_h r = x then .inl r.tail else .inr (1, pr_p r)
  | .inr e => .inr e
set_option maxHeartbeats 1000000 in
theorem mc_Formula_take {w : aw_T} {h : ah_T} {d : Nat} (hd : 1 ≤ d) {F : Nat} {ts : List tk_T} {E : Int × (Int × (Int × (Int × Int)))} {s : rs_T} (H : FS_ h F ts E s) {x : Int} (hx : 1 ≤ x ∧ x ≤ 1000) : am_M w mm_Formula_take d [av_r F, av_i x] h 0 0 (fun r1 h1 => r1 = none ∧ FS_ h1 F ts E (sk_ x s) ∧ fe_ h h1 F) := by
  refine am_intro [some (av_r (F)), some (av_i (x))] (by decide +kernel) (Nat.le_of_ble_eq_true rfl) rfl ?_
  have Hb := hs_b H
  have H0 := H
  obtain ⟨ha, a, ft, pl, hc, hss⟩ := H0
  refine ag_aload_n dd_Formula_take_0 rfl ?_
  refine ag_rV dd_Formula_take_1 fi_Formula_86 hc rfl (mc_Formula_token (d := 0) (by omega) H) rfl rfl (by omega) (Nat.le_of_ble_eq_true rfl) ?_
  refine ag_iload_n dd_Formula_take_4 rfl ?_
  refine ag_icmp_ne (tgt := 21) dd_Formula_take_5 (by decide) (by omega) (by omega) (fun c1 => ?_) (fun c1 => ?_)
  · refine ag_aload_n dd_Formula_take_21 rfl ?_
    refine ag_iconst dd_Formula_take_22 ?_
    refine ag_wV dd_Formula_take_23 fi_Formula_117 hc rfl (mc_Formula_stop (d := 0) (by omega) H (k := 1) (by omega)) rfl rfl (by omega) (Nat.le_of_ble_eq_true rfl) (fun r1 h hP => ?_)
    obtain ⟨rfl, H2, hfe⟩ := hP
    refine ag_vret dd_Formula_take_26 rfl ?_
    cases s with
    | inr e => exact ⟨rfl, H2, hfe⟩
    | inl r =>
      have hx2 : pr_h r ≠ x := by assumption
      have e1 : sk_ x (.inl r) = .inr (1, pr_p r) := if_neg hx2
      rw [e1]
      exact ⟨rfl, H2, hfe⟩
  · refine ag_aload_n dd_Formula_take_8 rfl ?_
    refine ag_dup dd_Formula_take_9 rfl ?_
    refine ag_get dd_Formula_take_10 fg_Formula_67 hc rfl ?_
    refine ag_iconst dd_Formula_take_13 ?_
    refine ag_iadd dd_Formula_take_14 ?_
    refine hp_i dd_Formula_take_15 fp_Formula_67 hc (Nat.le_of_ble_eq_true rfl) (fun h huN => ?_)
    have hu1 := huN
    clear huN
    refine ag_goto (tgt := 26) dd_Formula_take_18 (by decide) ?_
    refine ag_vret dd_Formula_take_26 rfl ?_
    cases s with
    | inr e =>
      have : (0 : Int) = x := by assumption
      exfalso; omega
    | inl r =>
      have hx2 : pr_h r = x := by assumption
      have e1 : sk_ x (.inl r) = .inl r.tail := if_pos hx2
      rw [e1]
      exact ⟨rfl, FS_nx ha hss (by omega) hu1 rfl, fe_hu hu1⟩
def so_ (x : Int) (o : Int) (s : rs_T) : Bool × rs_T := match s with
  | .inl r => if pr_h r = x then (if 8 ≤ o then (false, .inr (3, pr_p r)) else (true, .inl r.tail)) else (false, .inr (1, pr_p r))
  | .inr e => (false, .inr e)
set_option maxHeartbeats 1000000 in
theorem mc_Formula_opens {w : aw_T} {h : ah_T} {d : Nat} (hd : 1 ≤ d) {F : Nat} {ts : List tk_T} {E : Int × (Int × (Int × (Int × Int)))} {s : rs_T} (H : FS_ h F ts E s) {x o : Int} (hx : 1 ≤ x ∧ x ≤ 1000) (ho : 0 ≤ o ∧ o ≤ 100) : am_M w mm_Formula_opens d [av_r F, av_i x, av_i o] h 0 0 (fun r1 h1 => r1 = some (av_i (if (so_ x o s).1 = true then 1 else 0)) ∧ FS_ h1 F ts E (so_ x o s).2 ∧ fe_ h h1 F) := by
  refine am_intro [some (av_r (F)), some (av_i (x)), some (av_i (o))] (by decide +kernel) (Nat.le_of_ble_eq_true rfl) rfl ?_
  have Hb := hs_b H
  have H0 := H
  obtain ⟨ha, a, ft, pl, hc, hss⟩ := H0
  refine ag_aload_n dd_Formula_opens_0 rfl ?_
  refine ag_rV dd_Formula_opens_1 fi_Formula_86 hc rfl (mc_Formula_token (d := 0) (by omega) H) rfl rfl (by omega) (Nat.le_of_ble_eq_true rfl) ?_
  refine ag_iload_n dd_Formula_opens_4 rfl ?_
  refine ag_icmp_eq (tgt := 15) dd_Formula_opens_5 (by decide) (by omega) (by omega) (fun c1 => ?_) (fun c1 => ?_)
  · refine ag_iload_n dd_Formula_opens_15 rfl ?_
    refine ag_bipush dd_Formula_opens_16 (by decide +kernel) ?_
    refine ag_icmp_lt (tgt := 28) dd_Formula_opens_18 (by decide) (by omega) (by omega) (fun c2 => ?_) (fun c2 => ?_)
    · refine ag_aload_n dd_Formula_opens_28 rfl ?_
      refine ag_dup dd_Formula_opens_29 rfl ?_
      refine ag_get dd_Formula_opens_30 fg_Formula_67 hc rfl ?_
      refine ag_iconst dd_Formula_opens_33 ?_
      refine ag_iadd dd_Formula_opens_34 ?_
      refine hp_i dd_Formula_opens_35 fp_Formula_67 hc (Nat.le_of_ble_eq_true rfl) (fun h huN => ?_)
      have hu1 := huN
      clear huN
      refine ag_iconst dd_Formula_opens_38 ?_
      refine ag_zret dd_Formula_opens_39 rfl (by first | exact Or.inl rfl | exact Or.inr rfl | omega) ?_
      cases s with
      | inr e =>
        have : (0 : Int) = x := by assumption
        exfalso; omega
      | inl r =>
        have hx2 : pr_h r = x := by assumption
        have e1 : so_ x o (.inl r) = (true, .inl r.tail) := by show (if pr_h r = x then _ else _) = _; rw [if_pos hx2, if_neg (by omega)]
        rw [e1]
        exact ⟨rfl, FS_nx ha hss (by omega) hu1 rfl, fe_hu hu1⟩
    · refine ag_aload_n dd_Formula_opens_21 rfl ?_
      refine ag_iconst dd_Formula_opens_22 ?_
      refine ag_wV dd_Formula_opens_23 fi_Formula_117 hc rfl (mc_Formula_stop (d := 0) (by omega) H (k := 3) (by omega)) rfl rfl (by omega) (Nat.le_of_ble_eq_true rfl) (fun r1 h hP => ?_)
      obtain ⟨rfl, H2, hfe⟩ := hP
      refine ag_iconst dd_Formula_opens_26 ?_
      refine ag_zret dd_Formula_opens_27 rfl (by first | exact Or.inl rfl | exact Or.inr rfl | omega) ?_
      cases s with
      | inr e =>
        have : (0 : Int) = x := by assumption
        exfalso; omega
      | inl r =>
        have hx2 : pr_h r = x := by assumption
        have e1 : so_ x o (.inl r) = (false, .inr (3, pr_p r)) := by show (if pr_h r = x then _ else _) = _; rw [if_pos hx2, if_pos (by omega)]
        rw [e1]
        exact ⟨rfl, H2, hfe⟩
  · refine ag_aload_n dd_Formula_opens_8 rfl ?_
    refine ag_iconst dd_Formula_opens_9 ?_
    refine ag_wV dd_Formula_opens_10 fi_Formula_117 hc rfl (mc_Formula_stop (d := 0) (by omega) H (k := 1) (by omega)) rfl rfl (by omega) (Nat.le_of_ble_eq_true rfl) (fun r1 h hP => ?_)
    obtain ⟨rfl, H2, hfe⟩ := hP
    refine ag_iconst dd_Formula_opens_13 ?_
    refine ag_zret dd_Formula_opens_14 rfl (by first | exact Or.inl rfl | exact Or.inr rfl | omega) ?_
    cases s with
    | inr e => exact ⟨rfl, H2, hfe⟩
    | inl r =>
      have hx2 : pr_h r ≠ x := by assumption
      have e1 : so_ x o (.inl r) = (false, .inr (1, pr_p r)) := if_neg hx2
      rw [e1]
      exact ⟨rfl, H2, hfe⟩
set_option maxHeartbeats 1000000 in
theorem mc_Formula_limit {w : aw_T} {h : ah_T} {d : Nat} (hd : 1 ≤ d) {v : Int} (hv : -9223372036854775808 ≤ v ∧ v < 9223372036854775808) : am_M w mm_Formula_limit d [av_l v] h 0 0 (fun r h' => r = some (av_i (sp_clip v)) ∧ h' = h) := by
  refine am_intro [some (av_l (v)), none] (by decide +kernel) (Nat.le_of_ble_eq_true rfl) rfl ?_
  refine ag_ldc2 (a := -1000000000) dd_Formula_limit_0 fc_Formula_120 (by decide +kernel) ?_
  refine ag_ldc2 (a := 1000000000) dd_Formula_limit_3 fc_Formula_122 (by decide +kernel) ?_
  refine ag_lload_n dd_Formula_limit_6 rfl ?_
  refine ag_minl dd_Formula_limit_7 fi_Formula_124 fo_minls fo_m fo_minlc (by omega) (by omega) (by omega) (Nat.le_of_ble_eq_true rfl) ?_
  refine ag_maxl dd_Formula_limit_10 fi_Formula_127 fo_maxls fo_m fo_maxlc (by omega) (by omega) (by omega) (Nat.le_of_ble_eq_true rfl) ?_
  refine ag_l2i dd_Formula_limit_13 ?_
  refine ag_iret dd_Formula_limit_14 rfl ?_
  refine ⟨congrArg (fun z => some (av_i z)) ?_, rfl⟩
  unfold sp_clip
  split
  · omega
  · split <;> omega
