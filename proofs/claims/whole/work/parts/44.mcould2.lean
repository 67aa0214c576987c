def sp_f1 (a : Nat → Int) (p : Nat) : Nat → Int
  | 0 => 100000
  | k + 1 => if p / 2 ^ k % 2 = 1 ∧ a k < sp_f1 a p k then a k else sp_f1 a p k
def sp_l1 (e : Nat → Int) (p : Nat) : Nat → Int
  | 0 => 0
  | k + 1 => if p / 2 ^ k % 2 = 1 ∧ sp_l1 e p k < e k then e k else sp_l1 e p k
def sp_r0 (u q : Nat → Int) (p : Nat) : Nat → (Nat → Int)
  | 0 => q
  | k + 1 => ai_up (sp_r0 u q p k) k (if p / 2 ^ k % 2 = 1 then u k else 0)
/-- could: the mill crushes all of p in time -/
def sp_can (a e u : Nat → Int) (n : Nat) (c : Int) (p : Nat) : Bool := sp_run a e n c (sp_l1 e p n - sp_f1 a p n).toNat (sp_f1 a p n) (fun f => if p / 2 ^ f % 2 = 1 then u f else 0)
theorem sp_f1_b {a : Nat → Int} {p : Nat} : ∀ {k : Nat}, (∀ f, f < k → 0 ≤ a f ∧ a f ≤ 5000) → 0 ≤ sp_f1 a p k ∧ sp_f1 a p k ≤ 100000
  | 0, _ => by rw [sp_f1]; omega
  | k + 1, h => by
    have := sp_f1_b (p := p) (k := k) (fun f hf => h f (by omega))
    have := h k (by omega)
    rw [sp_f1]
    split <;> omega
theorem sp_l1_b {a : Nat → Int} {p : Nat} : ∀ {k : Nat}, (∀ f, f < k → 0 ≤ a f ∧ a f ≤ 5000) → 0 ≤ sp_l1 a p k ∧ sp_l1 a p k ≤ 5000
  | 0, _ => by rw [sp_l1]; omega
  | k + 1, h => by
    have := sp_l1_b (p := p) (k := k) (fun f hf => h f (by omega))
    have := h k (by omega)
    rw [sp_l1]
    split <;> omega
theorem sp_r0_v {u q : Nat → Int} {p : Nat} : ∀ {k f : Nat}, f < k → sp_r0 u q p k f = if p / 2 ^ f % 2 = 1 then u f else 0
  | 0, f, h => by omega
  | k + 1, f, h => by
    rw [sp_r0]
    by_cases e : f = k
    · subst e; rw [ai_up_s]
    · rw [ai_up_n _ _ e]; exact sp_r0_v (by omega)
-- what is read of the rows: their first n
theorem sp_df_cg {a a' e e' r r' : Nat → Int} {t : Int} : ∀ {n : Nat}, (∀ f, f < n → a f = a' f ∧ e f = e' f ∧ r f = r' f) → sp_df a e r t n = sp_df a' e' r' t n
  | 0, _ => rfl
  | n + 1, h => by
    have ih := sp_df_cg (t := t) (n := n) (fun f hf => h f (by omega))
    have hb := sp_df_b a' e' r' t n
    obtain ⟨h1, h2, h3⟩ := h n (by omega)
    rw [sp_df, sp_df, ih, h1, h2, h3]
    by_cases q : sp_df a' e' r' t n < 0
    · simp [q]
    · obtain ⟨-, h5, -⟩ := h (sp_df a' e' r' t n).toNat (by omega)
      rw [h5]
theorem sp_any_cg {r r' : Nat → Int} : ∀ {n : Nat}, (∀ f, f < n → r f = r' f) → sp_any r n = sp_any r' n
  | 0, _ => rfl
  | n + 1, h => by rw [sp_any, sp_any, sp_any_cg (fun f hf => h f (by omega)), h n (by omega)]
theorem sp_bad_cg {e e' r r' : Nat → Int} {t : Int} : ∀ {n : Nat}, (∀ f, f < n → e f = e' f ∧ r f = r' f) → sp_bad e r t n = sp_bad e' r' t n
  | 0, _ => rfl
  | n + 1, h => by rw [sp_bad, sp_bad, sp_bad_cg (fun f hf => h f (by omega)), (h n (by omega)).1, (h n (by omega)).2]
theorem sp_cr_cg {a a' e e' : Nat → Int} {n : Nat} {t : Int} (hae : ∀ f, f < n → a f = a' f ∧ e f = e' f) : ∀ (k : Nat) (r r' : Nat → Int) (room : Int), (∀ f, f < n → r f = r' f) → ∀ f, f < n → sp_cr a e n t k r room f = sp_cr a' e' n t k r' room f
  | 0, r, r', room, h, f, hf => h f hf
  | k + 1, r, r', room, h, f, hf => by
    have hd := sp_df_cg (t := t) (n := n) (a := a) (a' := a') (e := e) (e' := e') (r := r) (r' := r') (fun f hf => ⟨(hae f hf).1, (hae f hf).2, h f hf⟩)
    have hb := sp_df_b a' e' r' t n
    rw [sp_cr, sp_cr, hd]
    split
    · exact h f hf
    · rename_i q
      have hl := h (sp_df a' e' r' t n).toNat (by omega)
      rw [hl]
      refine sp_cr_cg hae k _ _ _ (fun g hg => ?_) f hf
      by_cases z : g = (sp_df a' e' r' t n).toNat
      · subst z; rw [ai_up_s, ai_up_s]
      · rw [ai_up_n _ _ z, ai_up_n _ _ z]; exact h g hg
theorem sp_run_cg {a a' e e' : Nat → Int} {n : Nat} {c : Int} (hae : ∀ f, f < n → a f = a' f ∧ e f = e' f) : ∀ (m : Nat) (t : Int) (r r' : Nat → Int), (∀ f, f < n → r f = r' f) → sp_run a e n c m t r = sp_run a' e' n c m t r'
  | 0, t, r, r', h => by rw [sp_run, sp_run, sp_any_cg h]
  | m + 1, t, r, r', h => by
    have hc := sp_cr_cg (t := t) hae 16 r r' c h
    rw [sp_run, sp_run, sp_bad_cg (fun f hf => ⟨(hae f hf).2, hc f hf⟩), sp_run_cg hae m (t + 1) _ _ hc]
theorem sp_f1_cg {a a' : Nat → Int} {p : Nat} : ∀ {n : Nat}, (∀ f, f < n → a f = a' f) → sp_f1 a p n = sp_f1 a' p n
  | 0, _ => rfl
  | n + 1, h => by rw [sp_f1, sp_f1, sp_f1_cg (fun f hf => h f (by omega)), h n (by omega)]
theorem sp_l1_cg {a a' : Nat → Int} {p : Nat} : ∀ {n : Nat}, (∀ f, f < n → a f = a' f) → sp_l1 a p n = sp_l1 a' p n
  | 0, _ => rfl
  | n + 1, h => by rw [sp_l1, sp_l1, sp_l1_cg (fun f hf => h f (by omega)), h n (by omega)]
theorem sp_can_cg {a a' e e' u u' : Nat → Int} {n : Nat} {c : Int} {p : Nat} (h : ∀ f, f < n → a f = a' f ∧ e f = e' f ∧ u f = u' f) : sp_can a e u n c p = sp_can a' e' u' n c p := by
  unfold sp_can
  rw [sp_f1_cg (fun f hf => (h f hf).1), sp_l1_cg (fun f hf => (h f hf).2.1)]
  exact sp_run_cg (fun f hf => ⟨(h f hf).1, (h f hf).2.1⟩) _ _ _ _ (fun f hf => by simp only [(h f hf).2.2])
set_option maxHeartbeats 1000000 in
theorem ml_M_could1 {w : aw_T} {h0 : ah_T} {S : ms_T} {d : Nat} (hd : 1 ≤ d) (hw : iv_w S) {p : Nat} (hp : p < 65536) {P : ap_T} (hP : ∀ (h : ah_T) (r : Nat → Int), mo_I h0 h (sp_wr S r) → ∀ b : Bool, b = sp_can (S.2 73) (S.2 74) (S.2 41) (S.1 2).toNat (S.1 7) p → P (some (av_i (if b = true then 1 else 0))) h) : ∀ (r k : Nat) (S1 : ms_T) (h : ah_T), (k : Int) + r = S.1 2 → S1 = sp_wr S (sp_r0 (S.2 41) (S.2 76) p k) → mo_I h0 h S1 → aw_W w mm_M_could d P 9 [some (av_r 38), some (av_i ((p : Int))), some (av_i ((sp_f1 (S.2 73) p k))), some (av_i ((sp_l1 (S.2 74) p k))), some (av_i ((k : Int))), none, none, none] [] h 0 0 := by
  intro r
  induction r with
  | zero =>
    intro k S1 h hk eS hM
    have a2 := hw.1
    have a7 := hw.2.1
    have e2 : S1.1 2 = S.1 2 := by rw [eS]; rfl
    have hfb := sp_f1_b (a := S.2 73) (p := p) (k := k) (fun f hf => (hw.2.2 f (by omega)).2.1)
    have hlb := sp_l1_b (a := S.2 74) (p := p) (k := k) (fun f hf => (hw.2.2 f (by omega)).2.2)
    refine ag_iload dd_M_could_9 rfl ?_
    refine ag_aload_n dd_M_could_11 rfl ?_
    refine ag_get dd_M_could_12 fg_M_152 (mr_38 hM) rfl ?_
    refine ag_icmp_ge (tgt := 103) dd_M_could_15 (by decide) (by omega) (by omega) (fun c1 => ?_) (fun c1 => ?_)
    · refine ag_iload_n dd_M_could_103 rfl ?_
      refine ag_istoreN (Lf := fun y => [some (av_r 38), some (av_i ((p : Int))), some (av_i ((sp_f1 (S.2 73) p k))), some (av_i ((sp_l1 (S.2 74) p k))), some (av_i (y)), none, none, none]) dd_M_could_104 (fun _ => rfl) rfl (by decide) (fun y2 ey2 => ?_)
      obtain rfl : k = (S.1 2).toNat := by omega
      have hr1 : iv_r S1 := fun f hf => by
        have hf2 : (f : Int) < S.1 2 := by omega
        rw [eS, sp_wr_76, sp_r0_v (by omega)]
        have := hw.2.2 f hf2
        split <;> omega
      have hw1 : iv_w S1 := by rw [eS]; exact hw
      rw [ey2]
      refine ag_weak [some (av_r 38), none, none, some (av_i ((sp_l1 (S.2 74) p (S.1 2).toNat))), some (av_i ((sp_f1 (S.2 73) p (S.1 2).toNat))), none, none, none] (by simp [al_le]) ?_
      refine ml_M_could2 hd (by omega) _ S1 _ h (Or.inl hfb) rfl hw1 hr1 hM (fun h r hM b hb => hP h r ?_ b ?_)
      · rw [eS, sp_wr_wr] at hM; exact hM
      · rw [hb]
        unfold sp_can
        have e73 : S1.2 73 = S.2 73 := by rw [eS]; rfl
        have e74 : S1.2 74 = S.2 74 := by rw [eS]; rfl
        have e7 : S1.1 7 = S.1 7 := by rw [eS]; rfl
        have e76 : S1.2 76 = sp_r0 (S.2 41) (S.2 76) p (S.1 2).toNat := by rw [eS, sp_wr_76]
        rw [e73, e74, e7, e2, e76]
        exact sp_run_cg (fun f hf => ⟨rfl, rfl⟩) _ _ _ _ (fun f hf => sp_r0_v hf)
    · exfalso; omega
  | succ r ih =>
    intro k S1 h hk eS hM
    have a2 := hw.1
    have a7 := hw.2.1
    have e2 : S1.1 2 = S.1 2 := by rw [eS]; rfl
    have hfb := sp_f1_b (a := S.2 73) (p := p) (k := k) (fun f hf => (hw.2.2 f (by omega)).2.1)
    have hlb := sp_l1_b (a := S.2 74) (p := p) (k := k) (fun f hf => (hw.2.2 f (by omega)).2.2)
    refine ag_iload dd_M_could_9 rfl ?_
    refine ag_aload_n dd_M_could_11 rfl ?_
    refine ag_get dd_M_could_12 fg_M_152 (mr_38 hM) rfl ?_
    refine ag_icmp_ge (tgt := 103) dd_M_could_15 (by decide) (by omega) (by omega) (fun c1 => ?_) (fun c1 => ?_)
    · exfalso; omega
    · have hwk := hw.2.2 k (by omega)
      have e41 : S1.2 41 k = S.2 41 k := by rw [eS]; rfl
      have hbt := sp_bt_nat (p := p) (f := k) (by omega) (by omega)
      unfold sp_bt at hbt
      refine ag_aload_n dd_M_could_18 rfl ?_
      refine ag_get dd_M_could_19 fg_M_146 (mr_38 hM) rfl ?_
      refine ag_iload dd_M_could_22 rfl ?_
      refine ag_iload_n dd_M_could_24 rfl ?_
      refine ag_iload dd_M_could_25 rfl ?_
      refine ag_ishr dd_M_could_27 ?_
      refine ag_iconst dd_M_could_28 ?_
      refine ag_iand dd_M_could_29 ?_
      refine ag_to hbt ?_
      refine ag_iconst dd_M_could_30 ?_
      refine ag_icmp_ne (tgt := 44) dd_M_could_31 (by decide) (by omega) (by omega) (fun c2 => ?_) (fun c2 => ?_)
      · refine ag_iconst dd_M_could_44 ?_
        refine ms_76N dd_M_could_45 hM (by omega) (fun h S3 eS3 hM => ?_)
        have f76 : S3.2 76 k = (if p / 2 ^ k % 2 = 1 then S.2 41 k else 0) := by
          rw [eS3]
          show ai_up S1.2 76 (ai_up (S1.2 76) k _) 76 k = _
          rw [ai_up_s, ai_up_s]
          first | rw [if_pos (by omega)]; exact e41 | rw [if_neg (by omega)]
        have f73 : S3.2 73 k = S.2 73 k := by rw [eS3, eS]; rfl
        have f74 : S3.2 74 k = S.2 74 k := by rw [eS3, eS]; rfl
        have f2 : S3.2 76 k = 0 ∨ 1 ≤ S3.2 76 k ∧ S3.2 76 k ≤ 200 := by
          rw [f76]
          split <;> omega
        refine ag_aload_n dd_M_could_46 rfl ?_
        refine ag_get dd_M_could_47 fg_M_146 (mr_38 hM) rfl ?_
        refine ag_iload dd_M_could_50 rfl ?_
        refine ag_ialdN dd_M_could_52 (mr_76 hM) (by decide) (by omega) ?_
        refine ag_if_ne (tgt := 59) dd_M_could_53 (by decide) (by omega) (fun c4 => ?_) (fun c4 => ?_)
        · refine ag_aload_n dd_M_could_59 rfl ?_
          refine ag_get dd_M_could_60 fg_M_137 (mr_38 hM) rfl ?_
          refine ag_iload dd_M_could_63 rfl ?_
          refine ag_ialdN dd_M_could_65 (mr_73 hM) (by decide) (by omega) ?_
          refine ag_iload_n dd_M_could_66 rfl ?_
          refine ag_icmp_ge (tgt := 78) dd_M_could_67 (by decide) (by omega) (by omega) (fun c5 => ?_) (fun c5 => ?_)
          · refine ag_aload_n dd_M_could_78 rfl ?_
            refine ag_get dd_M_could_79 fg_M_140 (mr_38 hM) rfl ?_
            refine ag_iload dd_M_could_82 rfl ?_
            refine ag_ialdN dd_M_could_84 (mr_74 hM) (by decide) (by omega) ?_
            refine ag_iload_n dd_M_could_85 rfl ?_
            refine ag_icmp_le (tgt := 97) dd_M_could_86 (by decide) (by omega) (by omega) (fun c6 => ?_) (fun c6 => ?_)
            · refine ag_iincN (Lf := fun y => [some (av_r 38), some (av_i ((p : Int))), some (av_i ((sp_f1 (S.2 73) p k))), some (av_i ((sp_l1 (S.2 74) p k))), some (av_i (y)), none, none, none]) dd_M_could_97 rfl (fun _ => rfl) rfl (by decide) (fun y7 ey7 => ?_)
              refine ag_goto (tgt := 9) dd_M_could_100 (by decide) ?_
              by_cases hbb : p / 2 ^ k % 2 = 1
              · rw [if_pos hbb] at f76
                first
                | (exfalso; omega)
                | (have ef : (sp_f1 (S.2 73) p k) = sp_f1 (S.2 73) p (k + 1) := by
                     rw [sp_f1]
                     split <;> omega
                   have el : (sp_l1 (S.2 74) p k) = sp_l1 (S.2 74) p (k + 1) := by
                     rw [sp_l1]
                     split <;> omega
                   obtain rfl : y7 = ((k + 1 : Nat) : Int) := by omega
                   rw [ef, el]
                   refine ih (k + 1) S3 h (by omega) ?_ hM
                   rw [sp_r0, if_pos hbb, eS3]
                   rw [e41]
                   show (S1.1, ai_up S1.2 76 _) = _
                   rw [eS, sp_wr_76]
                   exact sp_wr_wr S _ _)
              · rw [if_neg hbb] at f76
                first
                | (exfalso; omega)
                | (have ef : (sp_f1 (S.2 73) p k) = sp_f1 (S.2 73) p (k + 1) := by
                     rw [sp_f1]
                     split <;> omega
                   have el : (sp_l1 (S.2 74) p k) = sp_l1 (S.2 74) p (k + 1) := by
                     rw [sp_l1]
                     split <;> omega
                   obtain rfl : y7 = ((k + 1 : Nat) : Int) := by omega
                   rw [ef, el]
                   refine ih (k + 1) S3 h (by omega) ?_ hM
                   rw [sp_r0, if_neg hbb, eS3]
                   show (S1.1, ai_up S1.2 76 _) = _
                   rw [eS, sp_wr_76]
                   exact sp_wr_wr S _ _)
            · refine ag_aload_n dd_M_could_89 rfl ?_
              refine ag_get dd_M_could_90 fg_M_140 (mr_38 hM) rfl ?_
              refine ag_iload dd_M_could_93 rfl ?_
              refine ag_ialdN dd_M_could_95 (mr_74 hM) (by decide) (by omega) ?_
              refine ag_istore_nN (Lf := fun y => [some (av_r 38), some (av_i ((p : Int))), some (av_i ((sp_f1 (S.2 73) p k))), some (av_i (y)), some (av_i ((k : Int))), none, none, none]) dd_M_could_96 (fun _ => rfl) rfl (by decide) (fun y8 ey8 => ?_)
              refine ag_iincN (Lf := fun y => [some (av_r 38), some (av_i ((p : Int))), some (av_i ((sp_f1 (S.2 73) p k))), some (av_i (y8)), some (av_i (y)), none, none, none]) dd_M_could_97 rfl (fun _ => rfl) rfl (by decide) (fun y9 ey9 => ?_)
              refine ag_goto (tgt := 9) dd_M_could_100 (by decide) ?_
              by_cases hbb : p / 2 ^ k % 2 = 1
              · rw [if_pos hbb] at f76
                first
                | (exfalso; omega)
                | (have ef : (sp_f1 (S.2 73) p k) = sp_f1 (S.2 73) p (k + 1) := by
                     rw [sp_f1]
                     split <;> omega
                   have el : y8 = sp_l1 (S.2 74) p (k + 1) := by
                     rw [sp_l1]
                     split <;> omega
                   obtain rfl : y9 = ((k + 1 : Nat) : Int) := by omega
                   rw [ef, el]
                   refine ih (k + 1) S3 h (by omega) ?_ hM
                   rw [sp_r0, if_pos hbb, eS3]
                   rw [e41]
                   show (S1.1, ai_up S1.2 76 _) = _
                   rw [eS, sp_wr_76]
                   exact sp_wr_wr S _ _)
              · rw [if_neg hbb] at f76
                first
                | (exfalso; omega)
                | (have ef : (sp_f1 (S.2 73) p k) = sp_f1 (S.2 73) p (k + 1) := by
                     rw [sp_f1]
                     split <;> omega
                   have el : y8 = sp_l1 (S.2 74) p (k + 1) := by
                     rw [sp_l1]
                     split <;> omega
                   obtain rfl : y9 = ((k + 1 : Nat) : Int) := by omega
                   rw [ef, el]
                   refine ih (k + 1) S3 h (by omega) ?_ hM
                   rw [sp_r0, if_neg hbb, eS3]
                   show (S1.1, ai_up S1.2 76 _) = _
                   rw [eS, sp_wr_76]
                   exact sp_wr_wr S _ _)
          · refine ag_aload_n dd_M_could_70 rfl ?_
            refine ag_get dd_M_could_71 fg_M_137 (mr_38 hM) rfl ?_
            refine ag_iload dd_M_could_74 rfl ?_
            refine ag_ialdN dd_M_could_76 (mr_73 hM) (by decide) (by omega) ?_
            refine ag_istore_nN (Lf := fun y => [some (av_r 38), some (av_i ((p : Int))), some (av_i (y)), some (av_i ((sp_l1 (S.2 74) p k))), some (av_i ((k : Int))), none, none, none]) dd_M_could_77 (fun _ => rfl) rfl (by decide) (fun y10 ey10 => ?_)
            refine ag_aload_n dd_M_could_78 rfl ?_
            refine ag_get dd_M_could_79 fg_M_140 (mr_38 hM) rfl ?_
            refine ag_iload dd_M_could_82 rfl ?_
            refine ag_ialdN dd_M_could_84 (mr_74 hM) (by decide) (by omega) ?_
            refine ag_iload_n dd_M_could_85 rfl ?_
            refine ag_icmp_le (tgt := 97) dd_M_could_86 (by decide) (by omega) (by omega) (fun c11 => ?_) (fun c11 => ?_)
            · refine ag_iincN (Lf := fun y => [some (av_r 38), some (av_i ((p : Int))), some (av_i (y10)), some (av_i ((sp_l1 (S.2 74) p k))), some (av_i (y)), none, none, none]) dd_M_could_97 rfl (fun _ => rfl) rfl (by decide) (fun y12 ey12 => ?_)
              refine ag_goto (tgt := 9) dd_M_could_100 (by decide) ?_
              by_cases hbb : p / 2 ^ k % 2 = 1
              · rw [if_pos hbb] at f76
                first
                | (exfalso; omega)
                | (have ef : y10 = sp_f1 (S.2 73) p (k + 1) := by
                     rw [sp_f1]
                     split <;> omega
                   have el : (sp_l1 (S.2 74) p k) = sp_l1 (S.2 74) p (k + 1) := by
                     rw [sp_l1]
                     split <;> omega
                   obtain rfl : y12 = ((k + 1 : Nat) : Int) := by omega
                   rw [ef, el]
                   refine ih (k + 1) S3 h (by omega) ?_ hM
                   rw [sp_r0, if_pos hbb, eS3]
                   rw [e41]
                   show (S1.1, ai_up S1.2 76 _) = _
                   rw [eS, sp_wr_76]
                   exact sp_wr_wr S _ _)
              · rw [if_neg hbb] at f76
                first
                | (exfalso; omega)
                | (have ef : y10 = sp_f1 (S.2 73) p (k + 1) := by
                     rw [sp_f1]
                     split <;> omega
                   have el : (sp_l1 (S.2 74) p k) = sp_l1 (S.2 74) p (k + 1) := by
                     rw [sp_l1]
                     split <;> omega
                   obtain rfl : y12 = ((k + 1 : Nat) : Int) := by omega
                   rw [ef, el]
                   refine ih (k + 1) S3 h (by omega) ?_ hM
                   rw [sp_r0, if_neg hbb, eS3]
                   show (S1.1, ai_up S1.2 76 _) = _
                   rw [eS, sp_wr_76]
                   exact sp_wr_wr S _ _)
            · refine ag_aload_n dd_M_could_89 rfl ?_
              refine ag_get dd_M_could_90 fg_M_140 (mr_38 hM) rfl ?_
              refine ag_iload dd_M_could_93 rfl ?_
              refine ag_ialdN dd_M_could_95 (mr_74 hM) (by decide) (by omega) ?_
              refine ag_istore_nN (Lf := fun y => [some (av_r 38), some (av_i ((p : Int))), some (av_i (y10)), some (av_i (y)), some (av_i ((k : Int))), none, none, none]) dd_M_could_96 (fun _ => rfl) rfl (by decide) (fun y13 ey13 => ?_)
              refine ag_iincN (Lf := fun y => [some (av_r 38), some (av_i ((p : Int))), some (av_i (y10)), some (av_i (y13)), some (av_i (y)), none, none, none]) dd_M_could_97 rfl (fun _ => rfl) rfl (by decide) (fun y14 ey14 => ?_)
              refine ag_goto (tgt := 9) dd_M_could_100 (by decide) ?_
              by_cases hbb : p / 2 ^ k % 2 = 1
              · rw [if_pos hbb] at f76
                first
                | (exfalso; omega)
                | (have ef : y10 = sp_f1 (S.2 73) p (k + 1) := by
                     rw [sp_f1]
                     split <;> omega
                   have el : y13 = sp_l1 (S.2 74) p (k + 1) := by
                     rw [sp_l1]
                     split <;> omega
                   obtain rfl : y14 = ((k + 1 : Nat) : Int) := by omega
                   rw [ef, el]
                   refine ih (k + 1) S3 h (by omega) ?_ hM
                   rw [sp_r0, if_pos hbb, eS3]
                   rw [e41]
                   show (S1.1, ai_up S1.2 76 _) = _
                   rw [eS, sp_wr_76]
                   exact sp_wr_wr S _ _)
              · rw [if_neg hbb] at f76
                first
                | (exfalso; omega)
                | (have ef : y10 = sp_f1 (S.2 73) p (k + 1) := by
                     rw [sp_f1]
                     split <;> omega
                   have el : y13 = sp_l1 (S.2 74) p (k + 1) := by
                     rw [sp_l1]
                     split <;> omega
                   obtain rfl : y14 = ((k + 1 : Nat) : Int) := by omega
                   rw [ef, el]
                   refine ih (k + 1) S3 h (by omega) ?_ hM
                   rw [sp_r0, if_neg hbb, eS3]
                   show (S1.1, ai_up S1.2 76 _) = _
                   rw [eS, sp_wr_76]
                   exact sp_wr_wr S _ _)
        · refine ag_goto (tgt := 97) dd_M_could_56 (by decide) ?_
          refine ag_iincN (Lf := fun y => [some (av_r 38), some (av_i ((p : Int))), some (av_i ((sp_f1 (S.2 73) p k))), some (av_i ((sp_l1 (S.2 74) p k))), some (av_i (y)), none, none, none]) dd_M_could_97 rfl (fun _ => rfl) rfl (by decide) (fun y15 ey15 => ?_)
          refine ag_goto (tgt := 9) dd_M_could_100 (by decide) ?_
          by_cases hbb : p / 2 ^ k % 2 = 1
          · rw [if_pos hbb] at f76
            first
            | (exfalso; omega)
            | (have ef : (sp_f1 (S.2 73) p k) = sp_f1 (S.2 73) p (k + 1) := by
                 rw [sp_f1]
                 split <;> omega
               have el : (sp_l1 (S.2 74) p k) = sp_l1 (S.2 74) p (k + 1) := by
                 rw [sp_l1]
                 split <;> omega
               obtain rfl : y15 = ((k + 1 : Nat) : Int) := by omega
               rw [ef, el]
               refine ih (k + 1) S3 h (by omega) ?_ hM
               rw [sp_r0, if_pos hbb, eS3]
               rw [e41]
               show (S1.1, ai_up S1.2 76 _) = _
               rw [eS, sp_wr_76]
               exact sp_wr_wr S _ _)
          · rw [if_neg hbb] at f76
            first
            | (exfalso; omega)
            | (have ef : (sp_f1 (S.2 73) p k) = sp_f1 (S.2 73) p (k + 1) := by
                 rw [sp_f1]
                 split <;> omega
               have el : (sp_l1 (S.2 74) p k) = sp_l1 (S.2 74) p (k + 1) := by
                 rw [sp_l1]
                 split <;> omega
               obtain rfl : y15 = ((k + 1 : Nat) : Int) := by omega
               rw [ef, el]
               refine ih (k + 1) S3 h (by omega) ?_ hM
               rw [sp_r0, if_neg hbb, eS3]
               show (S1.1, ai_up S1.2 76 _) = _
               rw [eS, sp_wr_76]
               exact sp_wr_wr S _ _)
      · refine ag_aload_n dd_M_could_34 rfl ?_
        refine ag_get dd_M_could_35 fg_M_30 (mr_38 hM) rfl ?_
        refine ag_iload dd_M_could_38 rfl ?_
        refine ag_ialdN dd_M_could_40 (mr_41 hM) (by decide) (by omega) ?_
        refine ag_goto (tgt := 45) dd_M_could_41 (by decide) ?_
        refine ms_76N dd_M_could_45 hM (by omega) (fun h S16 eS16 hM => ?_)
        have f76 : S16.2 76 k = (if p / 2 ^ k % 2 = 1 then S.2 41 k else 0) := by
          rw [eS16]
          show ai_up S1.2 76 (ai_up (S1.2 76) k _) 76 k = _
          rw [ai_up_s, ai_up_s]
          first | rw [if_pos (by omega)]; exact e41 | rw [if_neg (by omega)]
        have f73 : S16.2 73 k = S.2 73 k := by rw [eS16, eS]; rfl
        have f74 : S16.2 74 k = S.2 74 k := by rw [eS16, eS]; rfl
        have f2 : S16.2 76 k = 0 ∨ 1 ≤ S16.2 76 k ∧ S16.2 76 k ≤ 200 := by
          rw [f76]
          split <;> omega
        refine ag_aload_n dd_M_could_46 rfl ?_
        refine ag_get dd_M_could_47 fg_M_146 (mr_38 hM) rfl ?_
        refine ag_iload dd_M_could_50 rfl ?_
        refine ag_ialdN dd_M_could_52 (mr_76 hM) (by decide) (by omega) ?_
        refine ag_if_ne (tgt := 59) dd_M_could_53 (by decide) (by omega) (fun c17 => ?_) (fun c17 => ?_)
        · refine ag_aload_n dd_M_could_59 rfl ?_
          refine ag_get dd_M_could_60 fg_M_137 (mr_38 hM) rfl ?_
          refine ag_iload dd_M_could_63 rfl ?_
          refine ag_ialdN dd_M_could_65 (mr_73 hM) (by decide) (by omega) ?_
          refine ag_iload_n dd_M_could_66 rfl ?_
          refine ag_icmp_ge (tgt := 78) dd_M_could_67 (by decide) (by omega) (by omega) (fun c18 => ?_) (fun c18 => ?_)
          · refine ag_aload_n dd_M_could_78 rfl ?_
            refine ag_get dd_M_could_79 fg_M_140 (mr_38 hM) rfl ?_
            refine ag_iload dd_M_could_82 rfl ?_
            refine ag_ialdN dd_M_could_84 (mr_74 hM) (by decide) (by omega) ?_
            refine ag_iload_n dd_M_could_85 rfl ?_
            refine ag_icmp_le (tgt := 97) dd_M_could_86 (by decide) (by omega) (by omega) (fun c19 => ?_) (fun c19 => ?_)
            · refine ag_iincN (Lf := fun y => [some (av_r 38), some (av_i ((p : Int))), some (av_i ((sp_f1 (S.2 73) p k))), some (av_i ((sp_l1 (S.2 74) p k))), some (av_i (y)), none, none, none]) dd_M_could_97 rfl (fun _ => rfl) rfl (by decide) (fun y20 ey20 => ?_)
              refine ag_goto (tgt := 9) dd_M_could_100 (by decide) ?_
              by_cases hbb : p / 2 ^ k % 2 = 1
              · rw [if_pos hbb] at f76
                first
                | (exfalso; omega)
                | (have ef : (sp_f1 (S.2 73) p k) = sp_f1 (S.2 73) p (k + 1) := by
                     rw [sp_f1]
                     split <;> omega
                   have el : (sp_l1 (S.2 74) p k) = sp_l1 (S.2 74) p (k + 1) := by
                     rw [sp_l1]
                     split <;> omega
                   obtain rfl : y20 = ((k + 1 : Nat) : Int) := by omega
                   rw [ef, el]
                   refine ih (k + 1) S16 h (by omega) ?_ hM
                   rw [sp_r0, if_pos hbb, eS16]
                   rw [e41]
                   show (S1.1, ai_up S1.2 76 _) = _
                   rw [eS, sp_wr_76]
                   exact sp_wr_wr S _ _)
              · rw [if_neg hbb] at f76
                first
                | (exfalso; omega)
                | (have ef : (sp_f1 (S.2 73) p k) = sp_f1 (S.2 73) p (k + 1) := by
                     rw [sp_f1]
                     split <;> omega
                   have el : (sp_l1 (S.2 74) p k) = sp_l1 (S.2 74) p (k + 1) := by
                     rw [sp_l1]
                     split <;> omega
                   obtain rfl : y20 = ((k + 1 : Nat) : Int) := by omega
                   rw [ef, el]
                   refine ih (k + 1) S16 h (by omega) ?_ hM
                   rw [sp_r0, if_neg hbb, eS16]
                   show (S1.1, ai_up S1.2 76 _) = _
                   rw [eS, sp_wr_76]
                   exact sp_wr_wr S _ _)
            · refine ag_aload_n dd_M_could_89 rfl ?_
              refine ag_get dd_M_could_90 fg_M_140 (mr_38 hM) rfl ?_
              refine ag_iload dd_M_could_93 rfl ?_
              refine ag_ialdN dd_M_could_95 (mr_74 hM) (by decide) (by omega) ?_
              refine ag_istore_nN (Lf := fun y => [some (av_r 38), some (av_i ((p : Int))), some (av_i ((sp_f1 (S.2 73) p k))), some (av_i (y)), some (av_i ((k : Int))), none, none, none]) dd_M_could_96 (fun _ => rfl) rfl (by decide) (fun y21 ey21 => ?_)
              refine ag_iincN (Lf := fun y => [some (av_r 38), some (av_i ((p : Int))), some (av_i ((sp_f1 (S.2 73) p k))), some (av_i (y21)), some (av_i (y)), none, none, none]) dd_M_could_97 rfl (fun _ => rfl) rfl (by decide) (fun y22 ey22 => ?_)
              refine ag_goto (tgt := 9) dd_M_could_100 (by decide) ?_
              by_cases hbb : p / 2 ^ k % 2 = 1
              · rw [if_pos hbb] at f76
                first
                | (exfalso; omega)
                | (have ef : (sp_f1 (S.2 73) p k) = sp_f1 (S.2 73) p (k + 1) := by
                     rw [sp_f1]
                     split <;> omega
                   have el : y21 = sp_l1 (S.2 74) p (k + 1) := by
                     rw [sp_l1]
                     split <;> omega
                   obtain rfl : y22 = ((k + 1 : Nat) : Int) := by omega
                   rw [ef, el]
                   refine ih (k + 1) S16 h (by omega) ?_ hM
                   rw [sp_r0, if_pos hbb, eS16]
                   rw [e41]
                   show (S1.1, ai_up S1.2 76 _) = _
                   rw [eS, sp_wr_76]
                   exact sp_wr_wr S _ _)
              · rw [if_neg hbb] at f76
                first
                | (exfalso; omega)
                | (have ef : (sp_f1 (S.2 73) p k) = sp_f1 (S.2 73) p (k + 1) := by
                     rw [sp_f1]
                     split <;> omega
                   have el : y21 = sp_l1 (S.2 74) p (k + 1) := by
                     rw [sp_l1]
                     split <;> omega
                   obtain rfl : y22 = ((k + 1 : Nat) : Int) := by omega
                   rw [ef, el]
                   refine ih (k + 1) S16 h (by omega) ?_ hM
                   rw [sp_r0, if_neg hbb, eS16]
                   show (S1.1, ai_up S1.2 76 _) = _
                   rw [eS, sp_wr_76]
                   exact sp_wr_wr S _ _)
          · refine ag_aload_n dd_M_could_70 rfl ?_
            refine ag_get dd_M_could_71 fg_M_137 (mr_38 hM) rfl ?_
            refine ag_iload dd_M_could_74 rfl ?_
            refine ag_ialdN dd_M_could_76 (mr_73 hM) (by decide) (by omega) ?_
            refine ag_istore_nN (Lf := fun y => [some (av_r 38), some (av_i ((p : Int))), some (av_i (y)), some (av_i ((sp_l1 (S.2 74) p k))), some (av_i ((k : Int))), none, none, none]) dd_M_could_77 (fun _ => rfl) rfl (by decide) (fun y23 ey23 => ?_)
            refine ag_aload_n dd_M_could_78 rfl ?_
            refine ag_get dd_M_could_79 fg_M_140 (mr_38 hM) rfl ?_
            refine ag_iload dd_M_could_82 rfl ?_
            refine ag_ialdN dd_M_could_84 (mr_74 hM) (by decide) (by omega) ?_
            refine ag_iload_n dd_M_could_85 rfl ?_
            refine ag_icmp_le (tgt := 97) dd_M_could_86 (by decide) (by omega) (by omega) (fun c24 => ?_) (fun c24 => ?_)
            · refine ag_iincN (Lf := fun y => [some (av_r 38), some (av_i ((p : Int))), some (av_i (y23)), some (av_i ((sp_l1 (S.2 74) p k))), some (av_i (y)), none, none, none]) dd_M_could_97 rfl (fun _ => rfl) rfl (by decide) (fun y25 ey25 => ?_)
              refine ag_goto (tgt := 9) dd_M_could_100 (by decide) ?_
              by_cases hbb : p / 2 ^ k % 2 = 1
              · rw [if_pos hbb] at f76
                first
                | (exfalso; omega)
                | (have ef : y23 = sp_f1 (S.2 73) p (k + 1) := by
                     rw [sp_f1]
                     split <;> omega
                   have el : (sp_l1 (S.2 74) p k) = sp_l1 (S.2 74) p (k + 1) := by
                     rw [sp_l1]
                     split <;> omega
                   obtain rfl : y25 = ((k + 1 : Nat) : Int) := by omega
                   rw [ef, el]
                   refine ih (k + 1) S16 h (by omega) ?_ hM
                   rw [sp_r0, if_pos hbb, eS16]
                   rw [e41]
                   show (S1.1, ai_up S1.2 76 _) = _
                   rw [eS, sp_wr_76]
                   exact sp_wr_wr S _ _)
              · rw [if_neg hbb] at f76
                first
                | (exfalso; omega)
                | (have ef : y23 = sp_f1 (S.2 73) p (k + 1) := by
                     rw [sp_f1]
                     split <;> omega
                   have el : (sp_l1 (S.2 74) p k) = sp_l1 (S.2 74) p (k + 1) := by
                     rw [sp_l1]
                     split <;> omega
                   obtain rfl : y25 = ((k + 1 : Nat) : Int) := by omega
                   rw [ef, el]
                   refine ih (k + 1) S16 h (by omega) ?_ hM
                   rw [sp_r0, if_neg hbb, eS16]
                   show (S1.1, ai_up S1.2 76 _) = _
                   rw [eS, sp_wr_76]
                   exact sp_wr_wr S _ _)
            · refine ag_aload_n dd_M_could_89 rfl ?_
              refine ag_get dd_M_could_90 fg_M_140 (mr_38 hM) rfl ?_
              refine ag_iload dd_M_could_93 rfl ?_
              refine ag_ialdN dd_M_could_95 (mr_74 hM) (by decide) (by omega) ?_
              refine ag_istore_nN (Lf := fun y => [some (av_r 38), some (av_i ((p : Int))), some (av_i (y23)), some (av_i (y)), some (av_i ((k : Int))), none, none, none]) dd_M_could_96 (fun _ => rfl) rfl (by decide) (fun y26 ey26 => ?_)
              refine ag_iincN (Lf := fun y => [some (av_r 38), some (av_i ((p : Int))), some (av_i (y23)), some (av_i (y26)), some (av_i (y)), none, none, none]) dd_M_could_97 rfl (fun _ => rfl) rfl (by decide) (fun y27 ey27 => ?_)
              refine ag_goto (tgt := 9) dd_M_could_100 (by decide) ?_
              by_cases hbb : p / 2 ^ k % 2 = 1
              · rw [if_pos hbb] at f76
                first
                | (exfalso; omega)
                | (have ef : y23 = sp_f1 (S.2 73) p (k + 1) := by
                     rw [sp_f1]
                     split <;> omega
                   have el : y26 = sp_l1 (S.2 74) p (k + 1) := by
                     rw [sp_l1]
                     split <;> omega
                   obtain rfl : y27 = ((k + 1 : Nat) : Int) := by omega
                   rw [ef, el]
                   refine ih (k + 1) S16 h (by omega) ?_ hM
                   rw [sp_r0, if_pos hbb, eS16]
                   rw [e41]
                   show (S1.1, ai_up S1.2 76 _) = _
                   rw [eS, sp_wr_76]
                   exact sp_wr_wr S _ _)
              · rw [if_neg hbb] at f76
                first
                | (exfalso; omega)
                | (have ef : y23 = sp_f1 (S.2 73) p (k + 1) := by
                     rw [sp_f1]
                     split <;> omega
                   have el : y26 = sp_l1 (S.2 74) p (k + 1) := by
                     rw [sp_l1]
                     split <;> omega
                   obtain rfl : y27 = ((k + 1 : Nat) : Int) := by omega
                   rw [ef, el]
                   refine ih (k + 1) S16 h (by omega) ?_ hM
                   rw [sp_r0, if_neg hbb, eS16]
                   show (S1.1, ai_up S1.2 76 _) = _
                   rw [eS, sp_wr_76]
                   exact sp_wr_wr S _ _)
        · refine ag_goto (tgt := 97) dd_M_could_56 (by decide) ?_
          refine ag_iincN (Lf := fun y => [some (av_r 38), some (av_i ((p : Int))), some (av_i ((sp_f1 (S.2 73) p k))), some (av_i ((sp_l1 (S.2 74) p k))), some (av_i (y)), none, none, none]) dd_M_could_97 rfl (fun _ => rfl) rfl (by decide) (fun y28 ey28 => ?_)
          refine ag_goto (tgt := 9) dd_M_could_100 (by decide) ?_
          by_cases hbb : p / 2 ^ k % 2 = 1
          · rw [if_pos hbb] at f76
            first
            | (exfalso; omega)
            | (have ef : (sp_f1 (S.2 73) p k) = sp_f1 (S.2 73) p (k + 1) := by
                 rw [sp_f1]
                 split <;> omega
               have el : (sp_l1 (S.2 74) p k) = sp_l1 (S.2 74) p (k + 1) := by
                 rw [sp_l1]
                 split <;> omega
               obtain rfl : y28 = ((k + 1 : Nat) : Int) := by omega
               rw [ef, el]
               refine ih (k + 1) S16 h (by omega) ?_ hM
               rw [sp_r0, if_pos hbb, eS16]
               rw [e41]
               show (S1.1, ai_up S1.2 76 _) = _
               rw [eS, sp_wr_76]
               exact sp_wr_wr S _ _)
          · rw [if_neg hbb] at f76
            first
            | (exfalso; omega)
            | (have ef : (sp_f1 (S.2 73) p k) = sp_f1 (S.2 73) p (k + 1) := by
                 rw [sp_f1]
                 split <;> omega
               have el : (sp_l1 (S.2 74) p k) = sp_l1 (S.2 74) p (k + 1) := by
                 rw [sp_l1]
                 split <;> omega
               obtain rfl : y28 = ((k + 1 : Nat) : Int) := by omega
               rw [ef, el]
               refine ih (k + 1) S16 h (by omega) ?_ hM
               rw [sp_r0, if_neg hbb, eS16]
               show (S1.1, ai_up S1.2 76 _) = _
               rw [eS, sp_wr_76]
               exact sp_wr_wr S _ _)
set_option maxHeartbeats 1000000 in
theorem mc_M_could {w : aw_T} {h0 h : ah_T} {S : ms_T} {d : Nat} (hd : 1 ≤ d) (hM : mo_I h0 h S) (hw : iv_w S) {p : Nat} (hp : p < 65536) : am_M w mm_M_could d [av_r 38, av_i (p : Int)] h 0 0 (fun q h' => q = some (av_i (if sp_can (S.2 73) (S.2 74) (S.2 41) (S.1 2).toNat (S.1 7) p = true then 1 else 0)) ∧ ∃ r, mo_I h0 h' (sp_wr S r)) := by
  refine am_intro [some (av_r 38), some (av_i ((p : Int))), none, none, none, none, none, none] (by decide +kernel) (Nat.le_of_ble_eq_true rfl) rfl ?_
  refine ag_ldcw (a := 100000) dd_M_could_0 fc_M_259 (by decide +kernel) ?_
  refine ag_istore_n (L' := [some (av_r 38), some (av_i ((p : Int))), some (av_i (100000)), none, none, none, none, none]) dd_M_could_3 rfl rfl (by decide) ?_
  refine ag_iconst dd_M_could_4 ?_
  refine ag_istore_n (L' := [some (av_r 38), some (av_i ((p : Int))), some (av_i (100000)), some (av_i (0)), none, none, none, none]) dd_M_could_5 rfl rfl (by decide) ?_
  refine ag_iconst dd_M_could_6 ?_
  refine ag_istore (L' := [some (av_r 38), some (av_i ((p : Int))), some (av_i (100000)), some (av_i (0)), some (av_i (0)), none, none, none]) dd_M_could_7 rfl rfl (by decide) ?_
  exact ml_M_could1 hd hw hp (fun h r hM b hb => ⟨by rw [hb], r, hM⟩) (S.1 2).toNat 0 S h (by have := hw.1; omega) (by rw [sp_r0, sp_wr_self]) hM
