def sp_wr (S : ms_T) (r : Nat → Int) : ms_T := (S.1, ai_up S.2 76 r)
theorem sp_wr_wr (S : ms_T) (r q : Nat → Int) : sp_wr (sp_wr S r) q = sp_wr S q := by
  unfold sp_wr
  rw [ai_uu]
theorem sp_wr_76 (S : ms_T) (r : Nat → Int) : (sp_wr S r).2 76 = r := ai_up_s S.2 76 r
theorem sp_wr_self (S : ms_T) : sp_wr S (S.2 76) = S := by
  unfold sp_wr
  rw [ai_upsame]
/-- some ton is left -/
def sp_any (r : Nat → Int) : Nat → Bool
  | 0 => false
  | n + 1 => sp_any r n || decide (0 < r n)
/-- some ton is left of a load that dies -/
def sp_bad (e r : Nat → Int) (t : Int) : Nat → Bool
  | 0 => false
  | n + 1 => sp_bad e r t n || decide (0 < r n ∧ e n ≤ t + 1)
theorem sp_any_t {r : Nat → Int} {k : Nat} (h : 0 < r k) : ∀ {n : Nat}, k < n → sp_any r n = true
  | 0, hk => by omega
  | n + 1, hk => by
    by_cases e : k = n
    · subst e; simp [sp_any, h]
    · simp [sp_any, sp_any_t h (n := n) (by omega)]
theorem sp_bad_t {e r : Nat → Int} {t : Int} {k : Nat} (h : 0 < r k ∧ e k ≤ t + 1) : ∀ {n : Nat}, k < n → sp_bad e r t n = true
  | 0, hk => by omega
  | n + 1, hk => by
    by_cases q : k = n
    · subst q; simp [sp_bad, h]
    · simp [sp_bad, sp_bad_t h (n := n) (by omega)]
/-- the crushing of hour t -/
def sp_cr (a e : Nat → Int) (n : Nat) (t : Int) : Nat → (Nat → Int) → Int → (Nat → Int)
  | 0, r, _ => r
  | k + 1, r, room => if room ≤ 0 ∨ sp_df a e r t n < 0 then r else
      sp_cr a e n t k (ai_up r (sp_df a e r t n).toNat (r (sp_df a e r t n).toNat - min (r (sp_df a e r t n).toNat) room)) (room - min (r (sp_df a e r t n).toNat) room)
/-- the crushing of m hours from t on -/
def sp_run (a e : Nat → Int) (n : Nat) (c : Int) : Nat → Int → (Nat → Int) → Bool
  | 0, _, r => !sp_any r n
  | m + 1, t, r => !sp_bad e (sp_cr a e n t 16 r c) t n && sp_run a e n c m (t + 1) (sp_cr a e n t 16 r c)
def sp_rc (r : Nat → Int) (n : Nat) : Nat := fb_ct (fun f => decide (0 < r f)) n
theorem sp_rc_less {r : Nat → Int} {n l : Nat} {v : Int} (hl : l < n) (h0 : 0 < r l) (hv : ¬ 0 < v) : sp_rc (ai_up r l v) n + 1 = sp_rc r n := by
  unfold sp_rc
  have e : fb_ct (fun f => decide (0 < ai_up r l v f)) n = fb_ct (fun k => if k = l then false else decide (0 < r k)) n := by
    refine fb_ct_cong (fun k _ => ?_)
    by_cases q : k = l
    · subst q
      simp only [if_true]
      rw [ai_up_s]
      simp; omega
    · simp only [q, if_false]
      rw [ai_up_n _ _ q]
  rw [e]
  have u := fb_ct_upd (fun k => decide (0 < r k)) false (i := l) (n := n) hl
  simp [h0] at u
  simp only [Bool.if_false_left] at *
  omega
theorem sp_rc_pos {r : Nat → Int} {n l : Nat} (hl : l < n) (h0 : 0 < r l) : 0 < sp_rc r n := fb_ct_pos.mpr ⟨l, hl, by simp [h0]⟩
theorem iv_r_up {S : ms_T} (hr : iv_r S) {l : Nat} {v : Int} (hv : (l : Int) < S.1 2 → 0 ≤ v ∧ v ≤ 200) : iv_r (sp_wr S (ai_up (S.2 76) l v)) := by
  intro f hf
  rw [sp_wr_76]
  by_cases q : f = l
  · subst q
    rw [ai_up_s]
    exact hv hf
  · rw [ai_up_n _ _ q]
    exact hr f hf
set_option maxHeartbeats 1000000 in
theorem ml_M_could5 {w : aw_T} {h0 h : ah_T} {S : ms_T} {d : Nat} (hd : 1 ≤ d) (hM : mo_I h0 h S) (hw : iv_w S) (hr : iv_r S) {P : ap_T} (hP : P (some (av_i (if (!sp_any (S.2 76) (S.1 2).toNat) = true then 1 else 0))) h) : ∀ (r k : Nat), (k : Int) + r = S.1 2 → sp_any (S.2 76) k = false → aw_W w mm_M_could d P 245 [some (av_r 38), none, none, none, some (av_i ((k : Int))), none, none, none] [] h 0 0 := by
  intro r
  induction r with
  | zero =>
    intro k hk hk2
    have a2 := hw.1
    have a7 := hw.2.1
    refine ag_iload dd_M_could_245 rfl ?_
    refine ag_aload_n dd_M_could_247 rfl ?_
    refine ag_get dd_M_could_248 fg_M_152 (mr_38 hM) rfl ?_
    refine ag_icmp_ge (tgt := 272) dd_M_could_251 (by decide) (by omega) (by omega) (fun c1 => ?_) (fun c1 => ?_)
    · refine ag_iconst dd_M_could_272 ?_
      refine ag_zret dd_M_could_273 rfl (by first | exact Or.inl rfl | exact Or.inr rfl | omega) ?_
      obtain rfl : k = (S.1 2).toNat := by omega
      rw [hk2] at hP
      exact hP
    · exfalso; omega
  | succ r ih =>
    intro k hk hk2
    have a2 := hw.1
    have a7 := hw.2.1
    refine ag_iload dd_M_could_245 rfl ?_
    refine ag_aload_n dd_M_could_247 rfl ?_
    refine ag_get dd_M_could_248 fg_M_152 (mr_38 hM) rfl ?_
    refine ag_icmp_ge (tgt := 272) dd_M_could_251 (by decide) (by omega) (by omega) (fun c1 => ?_) (fun c1 => ?_)
    · exfalso; omega
    · have hrk := hr k (by omega)
      refine ag_aload_n dd_M_could_254 rfl ?_
      refine ag_get dd_M_could_255 fg_M_146 (mr_38 hM) rfl ?_
      refine ag_iload dd_M_could_258 rfl ?_
      refine ag_ialdN dd_M_could_260 (mr_76 hM) (by decide) (by omega) ?_
      refine ag_if_le (tgt := 266) dd_M_could_261 (by decide) (by omega) (fun c2 => ?_) (fun c2 => ?_)
      · refine ag_iincN (Lf := fun y => [some (av_r 38), none, none, none, some (av_i (y)), none, none, none]) dd_M_could_266 rfl (fun _ => rfl) rfl (by decide) (fun y3 ey3 => ?_)
        refine ag_goto (tgt := 245) dd_M_could_269 (by decide) ?_
        obtain rfl : y3 = ((k + 1 : Nat) : Int) := by omega
        exact ih (k + 1) (by omega) (by simp [sp_any, hk2]; omega)
      · refine ag_iconst dd_M_could_264 ?_
        refine ag_zret dd_M_could_265 rfl (by first | exact Or.inl rfl | exact Or.inr rfl | omega) ?_
        have hf : sp_any (S.2 76) (S.1 2).toNat = true := sp_any_t (k := k) (by omega) (by omega)
        rw [hf] at hP
        exact hP
set_option maxHeartbeats 1000000 in
theorem ml_M_could4 {w : aw_T} {h0 h : ah_T} {S : ms_T} {d : Nat} (hd : 1 ≤ d) (hM : mo_I h0 h S) (hw : iv_w S) (hr : iv_r S) {last t : Int} (ht : 0 ≤ t ∧ t ≤ 200000) {P : ap_T} (hP : sp_bad (S.2 74) (S.2 76) t (S.1 2).toNat = true → P (some (av_i 0)) h) (hX : sp_bad (S.2 74) (S.2 76) t (S.1 2).toNat = false → aw_W w mm_M_could d P 236 [some (av_r 38), none, none, some (av_i (last)), some (av_i (t)), none, none, none] [] h 0 0) : ∀ (r k : Nat), (k : Int) + r = S.1 2 → sp_bad (S.2 74) (S.2 76) t k = false → aw_W w mm_M_could d P 195 [some (av_r 38), none, none, some (av_i (last)), some (av_i (t)), none, none, some (av_i ((k : Int)))] [] h 0 0 := by
  intro r
  induction r with
  | zero =>
    intro k hk hk2
    have a2 := hw.1
    have a7 := hw.2.1
    refine ag_iload dd_M_could_195 rfl ?_
    refine ag_aload_n dd_M_could_197 rfl ?_
    refine ag_get dd_M_could_198 fg_M_152 (mr_38 hM) rfl ?_
    refine ag_icmp_ge (tgt := 236) dd_M_could_201 (by decide) (by omega) (by omega) (fun c1 => ?_) (fun c1 => ?_)
    · obtain rfl : k = (S.1 2).toNat := by omega
      exact ag_weak [some (av_r 38), none, none, some (av_i (last)), some (av_i (t)), none, none, none] (by simp [al_le]) (hX hk2)
    · exfalso; omega
  | succ r ih =>
    intro k hk hk2
    have a2 := hw.1
    have a7 := hw.2.1
    refine ag_iload dd_M_could_195 rfl ?_
    refine ag_aload_n dd_M_could_197 rfl ?_
    refine ag_get dd_M_could_198 fg_M_152 (mr_38 hM) rfl ?_
    refine ag_icmp_ge (tgt := 236) dd_M_could_201 (by decide) (by omega) (by omega) (fun c1 => ?_) (fun c1 => ?_)
    · exfalso; omega
    · have hrk := hr k (by omega)
      have hwk := hw.2.2 k (by omega)
      refine ag_aload_n dd_M_could_204 rfl ?_
      refine ag_get dd_M_could_205 fg_M_146 (mr_38 hM) rfl ?_
      refine ag_iload dd_M_could_208 rfl ?_
      refine ag_ialdN dd_M_could_210 (mr_76 hM) (by decide) (by omega) ?_
      refine ag_if_le (tgt := 230) dd_M_could_211 (by decide) (by omega) (fun c2 => ?_) (fun c2 => ?_)
      · refine ag_iincN (Lf := fun y => [some (av_r 38), none, none, some (av_i (last)), some (av_i (t)), none, none, some (av_i (y))]) dd_M_could_230 rfl (fun _ => rfl) rfl (by decide) (fun y3 ey3 => ?_)
        refine ag_goto (tgt := 195) dd_M_could_233 (by decide) ?_
        obtain rfl : y3 = ((k + 1 : Nat) : Int) := by omega
        exact ih (k + 1) (by omega) (by simp [sp_bad, hk2]; omega)
      · refine ag_aload_n dd_M_could_214 rfl ?_
        refine ag_get dd_M_could_215 fg_M_140 (mr_38 hM) rfl ?_
        refine ag_iload dd_M_could_218 rfl ?_
        refine ag_ialdN dd_M_could_220 (mr_74 hM) (by decide) (by omega) ?_
        refine ag_iload dd_M_could_221 rfl ?_
        refine ag_iconst dd_M_could_223 ?_
        refine ag_iadd dd_M_could_224 ?_
        refine ag_icmp_gt (tgt := 230) dd_M_could_225 (by decide) (by omega) (by omega) (fun c4 => ?_) (fun c4 => ?_)
        · refine ag_iincN (Lf := fun y => [some (av_r 38), none, none, some (av_i (last)), some (av_i (t)), none, none, some (av_i (y))]) dd_M_could_230 rfl (fun _ => rfl) rfl (by decide) (fun y5 ey5 => ?_)
          refine ag_goto (tgt := 195) dd_M_could_233 (by decide) ?_
          obtain rfl : y5 = ((k + 1 : Nat) : Int) := by omega
          exact ih (k + 1) (by omega) (by simp [sp_bad, hk2]; omega)
        · refine ag_iconst dd_M_could_228 ?_
          refine ag_zret dd_M_could_229 rfl (by first | exact Or.inl rfl | exact Or.inr rfl | omega) ?_
          exact hP (sp_bad_t (k := k) (by omega) (by omega))
set_option maxHeartbeats 1000000 in
theorem ml_M_could3 {w : aw_T} {h0 : ah_T} {d : Nat} (hd : 1 ≤ d) {last t : Int} (ht : 0 ≤ t ∧ t ≤ 200000) {P : ap_T} : ∀ (r : Nat) (S : ms_T) (room : Int) (h : ah_T), -1000 ≤ room ∧ room ≤ 100 → iv_w S → iv_r S → mo_I h0 h S → (room ≤ 0 ∨ sp_rc (S.2 76) (S.1 2).toNat ≤ r) → (∀ h, mo_I h0 h (sp_wr S (sp_cr (S.2 73) (S.2 74) (S.1 2).toNat t r (S.2 76) room)) → aw_W w mm_M_could d P 192 [some (av_r 38), none, none, some (av_i (last)), some (av_i (t)), none, none, none] [] h 0 0) → aw_W w mm_M_could d P 126 [some (av_r 38), none, none, some (av_i (last)), some (av_i (t)), some (av_i (room)), some (av_i ((sp_df (S.2 73) (S.2 74) (S.2 76) t (S.1 2).toNat))), none] [] h 0 0 := by
  intro r
  induction r using Nat.strongRecOn with
  | _ r ih =>
    intro S room h hrm hw hr hM hμ hX
    have a2 := hw.1
    have a7 := hw.2.1
    have hfb := sp_df_b (S.2 73) (S.2 74) (S.2 76) t (S.1 2).toNat
    refine ag_iload dd_M_could_126 rfl ?_
    refine ag_if_le (tgt := 192) dd_M_could_128 (by decide) (by omega) (fun c1 => ?_) (fun c1 => ?_)
    · have eN : sp_cr (S.2 73) (S.2 74) (S.1 2).toNat t r (S.2 76) room = S.2 76 := by
        cases r with
        | zero => rfl
        | succ r => rw [sp_cr, if_pos (by omega)]
      refine ag_weak [some (av_r 38), none, none, some (av_i (last)), some (av_i (t)), none, none, none] (by simp [al_le]) (hX h ?_)
      rw [eN, sp_wr_self]
      exact hM
    · refine ag_iload dd_M_could_131 rfl ?_
      refine ag_if_lt (tgt := 192) dd_M_could_133 (by decide) (by omega) (fun c2 => ?_) (fun c2 => ?_)
      · have eN : sp_cr (S.2 73) (S.2 74) (S.1 2).toNat t r (S.2 76) room = S.2 76 := by
          cases r with
          | zero => rfl
          | succ r => rw [sp_cr, if_pos (by omega)]
        refine ag_weak [some (av_r 38), none, none, some (av_i (last)), some (av_i (t)), none, none, none] (by simp [al_le]) (hX h ?_)
        rw [eN, sp_wr_self]
        exact hM
      · obtain ⟨l, el⟩ : ∃ l : Nat, (sp_df (S.2 73) (S.2 74) (S.2 76) t (S.1 2).toNat) = (l : Int) := ⟨(sp_df (S.2 73) (S.2 74) (S.2 76) t (S.1 2).toNat).toNat, by omega⟩
        have hwl := sp_df_w (S.2 73) (S.2 74) (S.2 76) t (S.1 2).toNat (by omega)
        rw [show (sp_df (S.2 73) (S.2 74) (S.2 76) t (S.1 2).toNat).toNat = l by omega] at hwl
        have hrl := hr l (by omega)
        have hlc := sp_rc_pos (r := S.2 76) (n := (S.1 2).toNat) (l := l) (by omega) hwl.1
        rw [el]
        refine ag_aload_n dd_M_could_136 rfl ?_
        refine ag_get dd_M_could_137 fg_M_146 (mr_38 hM) rfl ?_
        refine ag_iload dd_M_could_140 rfl ?_
        refine ag_ialdN dd_M_could_142 (mr_76 hM) (by decide) (by omega) ?_
        refine ag_iload dd_M_could_143 rfl ?_
        refine ag_icmp_ge (tgt := 158) dd_M_could_145 (by decide) (by omega) (by omega) (fun c3 => ?_) (fun c3 => ?_)
        · refine ag_iload dd_M_could_158 rfl ?_
          refine ag_istore (L' := [some (av_r 38), none, none, some (av_i (last)), some (av_i (t)), some (av_i (room)), some (av_i ((l : Int))), some (av_i (room))]) dd_M_could_160 rfl rfl (by decide) ?_
          refine ag_aload_n dd_M_could_162 rfl ?_
          refine ag_get dd_M_could_163 fg_M_146 (mr_38 hM) rfl ?_
          refine ag_iload dd_M_could_166 rfl ?_
          refine ag_dup2 dd_M_could_168 rfl rfl ?_
          refine ag_ialdN dd_M_could_169 (mr_76 hM) (by decide) (by omega) ?_
          refine ag_iload dd_M_could_170 rfl ?_
          refine ag_isub dd_M_could_172 ?_
          refine ms_76N dd_M_could_173 hM (by omega) (fun h S4 eS4 hM => ?_)
          refine ag_iload dd_M_could_174 rfl ?_
          refine ag_iload dd_M_could_176 rfl ?_
          refine ag_isub dd_M_could_178 ?_
          refine ag_istoreN (Lf := fun y => [some (av_r 38), none, none, some (av_i (last)), some (av_i (t)), some (av_i (y)), some (av_i ((l : Int))), some (av_i (room))]) dd_M_could_179 (fun _ => rfl) rfl (by decide) (fun y5 ey5 => ?_)
          refine ag_aload_n dd_M_could_181 rfl ?_
          refine ag_iload dd_M_could_182 rfl ?_
          obtain rfl : S4 = sp_wr S (ai_up (S.2 76) l (S.2 76 l - room)) := eS4
          have hr2 : iv_r (sp_wr S (ai_up (S.2 76) l (S.2 76 l - room))) := iv_r_up hr (fun _ => by omega)
          have hw2 : iv_w (sp_wr S (ai_up (S.2 76) l (S.2 76 l - room))) := hw
          refine ag_rV dd_M_could_184 fi_M_323 (mr_38 hM) rfl (mc_M_dyingFirst (d := 0) (by omega) hM hw2 hr2 ht) rfl rfl (by omega) (Nat.le_of_ble_eq_true rfl) ?_
          refine ag_istoreN (Lf := fun y => [some (av_r 38), none, none, some (av_i (last)), some (av_i (t)), some (av_i (y5)), some (av_i (y)), some (av_i (room))]) dd_M_could_187 (fun _ => rfl) rfl (by decide) (fun y6 ey6 => ?_)
          refine ag_goto (tgt := 126) dd_M_could_189 (by decide) ?_
          obtain ⟨r, rfl⟩ : ∃ r', r = r' + 1 := ⟨r - 1, by omega⟩
          have hmn : min (S.2 76 l) room = room := by omega
          have eN : sp_cr (S.2 73) (S.2 74) (S.1 2).toNat t (r + 1) (S.2 76) room = sp_cr (S.2 73) (S.2 74) (S.1 2).toNat t r (ai_up (S.2 76) l (S.2 76 l - room)) (room - room) := by
            rw [sp_cr, if_neg (by omega), el, Int.toNat_natCast, hmn]
          have h5 : room - room = y5 := by omega
          rw [h5] at eN
          refine ag_weak [some (av_r 38), none, none, some (av_i (last)), some (av_i (t)), some (av_i (y5)), some (av_i (y6)), none] (by simp [al_le]) ?_
          rw [ey6]
          refine ih r (by omega) (sp_wr S (ai_up (S.2 76) l (S.2 76 l - room))) y5 h (by omega) hw2 hr2 hM ?_ (fun h hM => hX h ?_)
          · rw [sp_wr_76]
            by_cases q : room ≤ S.2 76 l
            · left; omega
            · right
              have e1 : S.2 76 l - room = 0 := by omega
              have := sp_rc_less (r := S.2 76) (n := (S.1 2).toNat) (l := l) (v := S.2 76 l - room) (by omega) hwl.1 (by omega)
              show sp_rc (ai_up (S.2 76) l (S.2 76 l - room)) (S.1 2).toNat ≤ r
              omega
          · rw [eN]
            rw [sp_wr_wr, sp_wr_76] at hM
            exact hM
        · refine ag_aload_n dd_M_could_148 rfl ?_
          refine ag_get dd_M_could_149 fg_M_146 (mr_38 hM) rfl ?_
          refine ag_iload dd_M_could_152 rfl ?_
          refine ag_ialdN dd_M_could_154 (mr_76 hM) (by decide) (by omega) ?_
          refine ag_goto (tgt := 160) dd_M_could_155 (by decide) ?_
          refine ag_istoreN (Lf := fun y => [some (av_r 38), none, none, some (av_i (last)), some (av_i (t)), some (av_i (room)), some (av_i ((l : Int))), some (av_i (y))]) dd_M_could_160 (fun _ => rfl) rfl (by decide) (fun y7 ey7 => ?_)
          refine ag_aload_n dd_M_could_162 rfl ?_
          refine ag_get dd_M_could_163 fg_M_146 (mr_38 hM) rfl ?_
          refine ag_iload dd_M_could_166 rfl ?_
          refine ag_dup2 dd_M_could_168 rfl rfl ?_
          refine ag_ialdN dd_M_could_169 (mr_76 hM) (by decide) (by omega) ?_
          refine ag_iload dd_M_could_170 rfl ?_
          refine ag_isub dd_M_could_172 ?_
          refine ms_76N dd_M_could_173 hM (by omega) (fun h S8 eS8 hM => ?_)
          refine ag_iload dd_M_could_174 rfl ?_
          refine ag_iload dd_M_could_176 rfl ?_
          refine ag_isub dd_M_could_178 ?_
          refine ag_istoreN (Lf := fun y => [some (av_r 38), none, none, some (av_i (last)), some (av_i (t)), some (av_i (y)), some (av_i ((l : Int))), some (av_i (y7))]) dd_M_could_179 (fun _ => rfl) rfl (by decide) (fun y9 ey9 => ?_)
          refine ag_aload_n dd_M_could_181 rfl ?_
          refine ag_iload dd_M_could_182 rfl ?_
          obtain rfl : S8 = sp_wr S (ai_up (S.2 76) l (S.2 76 l - y7)) := eS8
          have hr2 : iv_r (sp_wr S (ai_up (S.2 76) l (S.2 76 l - y7))) := iv_r_up hr (fun _ => by omega)
          have hw2 : iv_w (sp_wr S (ai_up (S.2 76) l (S.2 76 l - y7))) := hw
          refine ag_rV dd_M_could_184 fi_M_323 (mr_38 hM) rfl (mc_M_dyingFirst (d := 0) (by omega) hM hw2 hr2 ht) rfl rfl (by omega) (Nat.le_of_ble_eq_true rfl) ?_
          refine ag_istoreN (Lf := fun y => [some (av_r 38), none, none, some (av_i (last)), some (av_i (t)), some (av_i (y9)), some (av_i (y)), some (av_i (y7))]) dd_M_could_187 (fun _ => rfl) rfl (by decide) (fun y10 ey10 => ?_)
          refine ag_goto (tgt := 126) dd_M_could_189 (by decide) ?_
          obtain ⟨r, rfl⟩ : ∃ r', r = r' + 1 := ⟨r - 1, by omega⟩
          have hmn : min (S.2 76 l) room = y7 := by omega
          have eN : sp_cr (S.2 73) (S.2 74) (S.1 2).toNat t (r + 1) (S.2 76) room = sp_cr (S.2 73) (S.2 74) (S.1 2).toNat t r (ai_up (S.2 76) l (S.2 76 l - y7)) (room - y7) := by
            rw [sp_cr, if_neg (by omega), el, Int.toNat_natCast, hmn]
          have h5 : room - y7 = y9 := by omega
          rw [h5] at eN
          refine ag_weak [some (av_r 38), none, none, some (av_i (last)), some (av_i (t)), some (av_i (y9)), some (av_i (y10)), none] (by simp [al_le]) ?_
          rw [ey10]
          refine ih r (by omega) (sp_wr S (ai_up (S.2 76) l (S.2 76 l - y7))) y9 h (by omega) hw2 hr2 hM ?_ (fun h hM => hX h ?_)
          · rw [sp_wr_76]
            by_cases q : room ≤ S.2 76 l
            · left; omega
            · right
              have e1 : S.2 76 l - y7 = 0 := by omega
              have := sp_rc_less (r := S.2 76) (n := (S.1 2).toNat) (l := l) (v := S.2 76 l - y7) (by omega) hwl.1 (by omega)
              show sp_rc (ai_up (S.2 76) l (S.2 76 l - y7)) (S.1 2).toNat ≤ r
              omega
          · rw [eN]
            rw [sp_wr_wr, sp_wr_76] at hM
            exact hM
theorem iv_r_cr {n : Nat} {a e : Nat → Int} {t : Int} : ∀ (k : Nat) (r : Nat → Int) (room : Int), (∀ f : Nat, f < n → 0 ≤ r f ∧ r f ≤ 200) → ∀ f : Nat, f < n → 0 ≤ sp_cr a e n t k r room f ∧ sp_cr a e n t k r room f ≤ 200
  | 0, r, room, h, f, hf => h f hf
  | k + 1, r, room, h, f, hf => by
    rw [sp_cr]
    split
    · exact h f hf
    · rename_i q
      refine iv_r_cr k _ _ (fun g hg => ?_) f hf
      have hb := sp_df_b a e r t n
      have := h (sp_df a e r t n).toNat (by omega)
      by_cases z : g = (sp_df a e r t n).toNat
      · subst z
        rw [ai_up_s]
        omega
      · rw [ai_up_n _ _ z]
        exact h g hg
set_option maxHeartbeats 1000000 in
theorem ml_M_could2 {w : aw_T} {h0 : ah_T} {d : Nat} (hd : 1 ≤ d) {last : Int} (hl : 0 ≤ last ∧ last ≤ 200000) {P : ap_T} : ∀ (m : Nat) (S : ms_T) (t : Int) (h : ah_T), 0 ≤ t ∧ t ≤ 100000 ∨ 0 ≤ t ∧ t ≤ last → m = (last - t).toNat → iv_w S → iv_r S → mo_I h0 h S → (∀ (h : ah_T) (r : Nat → Int), mo_I h0 h (sp_wr S r) → ∀ b : Bool, b = sp_run (S.2 73) (S.2 74) (S.1 2).toNat (S.1 7) m t (S.2 76) → P (some (av_i (if b = true then 1 else 0))) h) → aw_W w mm_M_could d P 106 [some (av_r 38), none, none, some (av_i (last)), some (av_i (t)), none, none, none] [] h 0 0 := by
  intro m
  induction m with
  | zero =>
    intro S t h htt hm hw hr hM hP
    have ht : 0 ≤ t ∧ t ≤ 200000 := by omega
    have a2 := hw.1
    have a7 := hw.2.1
    refine ag_iload dd_M_could_106 rfl ?_
    refine ag_iload_n dd_M_could_108 rfl ?_
    refine ag_icmp_ge (tgt := 242) dd_M_could_109 (by decide) (by omega) (by omega) (fun c1 => ?_) (fun c1 => ?_)
    · refine ag_iconst dd_M_could_242 ?_
      refine ag_istore (L' := [some (av_r 38), none, none, some (av_i (last)), some (av_i (0)), none, none, none]) dd_M_could_243 rfl rfl (by decide) ?_
      refine ag_weak [some (av_r 38), none, none, none, some (av_i (((0 : Nat) : Int))), none, none, none] (by simp [al_le]) ?_
      exact ml_M_could5 hd hM hw hr (hP h (S.2 76) (by rw [sp_wr_self]; exact hM) _ (by rw [sp_run])) (S.1 2).toNat 0 (by omega) rfl
    · exfalso; omega
  | succ m ih =>
    intro S t h htt hm hw hr hM hP
    have ht : 0 ≤ t ∧ t ≤ 200000 := by omega
    have a2 := hw.1
    have a7 := hw.2.1
    refine ag_iload dd_M_could_106 rfl ?_
    refine ag_iload_n dd_M_could_108 rfl ?_
    refine ag_icmp_ge (tgt := 242) dd_M_could_109 (by decide) (by omega) (by omega) (fun c1 => ?_) (fun c1 => ?_)
    · exfalso; omega
    · refine ag_aload_n dd_M_could_112 rfl ?_
      refine ag_get dd_M_could_113 fg_M_19 (mr_38 hM) rfl ?_
      refine ag_istoreN (Lf := fun y => [some (av_r 38), none, none, some (av_i (last)), some (av_i (t)), some (av_i (y)), none, none]) dd_M_could_116 (fun _ => rfl) rfl (by decide) (fun y2 ey2 => ?_)
      refine ag_aload_n dd_M_could_118 rfl ?_
      refine ag_iload dd_M_could_119 rfl ?_
      refine ag_rV dd_M_could_121 fi_M_323 (mr_38 hM) rfl (mc_M_dyingFirst (d := 0) (by omega) hM hw hr ht) rfl rfl (by omega) (Nat.le_of_ble_eq_true rfl) ?_
      refine ag_istoreN (Lf := fun y => [some (av_r 38), none, none, some (av_i (last)), some (av_i (t)), some (av_i (y2)), some (av_i (y)), none]) dd_M_could_124 (fun _ => rfl) rfl (by decide) (fun y3 ey3 => ?_)
      subst ey2
      rw [ey3]
      refine ag_weak [some (av_r 38), none, none, some (av_i (last)), some (av_i (t)), some (av_i ((S.1 7))), some (av_i ((sp_df (S.2 73) (S.2 74) (S.2 76) t (S.1 2).toNat))), none] (by simp [al_le]) ?_
      refine ml_M_could3 (by omega) ht 16 S (S.1 7) h (by omega) hw hr hM (Or.inr (by have := fb_ct_le (fun f => decide (0 < S.2 76 f)) (S.1 2).toNat; unfold sp_rc; omega)) (fun h hM => ?_)
      have hr2 : iv_r (sp_wr S (sp_cr (S.2 73) (S.2 74) (S.1 2).toNat t 16 (S.2 76) (S.1 7))) := fun f hf => by
        have hf2 : (f : Int) < S.1 2 := hf
        rw [sp_wr_76]
        exact iv_r_cr 16 (S.2 76) (S.1 7) (fun g hg => hr g (by omega)) f (by omega)
      have hw2 : iv_w (sp_wr S (sp_cr (S.2 73) (S.2 74) (S.1 2).toNat t 16 (S.2 76) (S.1 7))) := hw
      have e2 : (sp_wr S (sp_cr (S.2 73) (S.2 74) (S.1 2).toNat t 16 (S.2 76) (S.1 7))).1 2 = S.1 2 := rfl
      have e7 : (sp_wr S (sp_cr (S.2 73) (S.2 74) (S.1 2).toNat t 16 (S.2 76) (S.1 7))).1 7 = S.1 7 := rfl
      have e73 : (sp_wr S (sp_cr (S.2 73) (S.2 74) (S.1 2).toNat t 16 (S.2 76) (S.1 7))).2 73 = S.2 73 := rfl
      have e74 : (sp_wr S (sp_cr (S.2 73) (S.2 74) (S.1 2).toNat t 16 (S.2 76) (S.1 7))).2 74 = S.2 74 := rfl
      have e76 := sp_wr_76 S (sp_cr (S.2 73) (S.2 74) (S.1 2).toNat t 16 (S.2 76) (S.1 7))
      have eW : ∀ q, sp_wr (sp_wr S (sp_cr (S.2 73) (S.2 74) (S.1 2).toNat t 16 (S.2 76) (S.1 7))) q = sp_wr S q := fun q => sp_wr_wr _ _ q
      generalize sp_wr S (sp_cr (S.2 73) (S.2 74) (S.1 2).toNat t 16 (S.2 76) (S.1 7)) = S2 at hM hr2 hw2 e2 e7 e73 e74 e76 eW
      have hself : sp_wr S (S2.2 76) = S2 := by rw [← eW, sp_wr_self]
      refine ag_iconst dd_M_could_192 ?_
      refine ag_istore (L' := [some (av_r 38), none, none, some (av_i (last)), some (av_i (t)), none, none, some (av_i (0))]) dd_M_could_193 rfl rfl (by decide) ?_
      refine ag_weak [some (av_r 38), none, none, some (av_i (last)), some (av_i (t)), none, none, some (av_i (((0 : Nat) : Int)))] (by simp [al_le]) ?_
      refine ml_M_could4 (by omega) hM hw2 hr2 ht (fun hb => ?_) (fun hb => ?_) (S2.1 2).toNat 0 (by omega) rfl
      · refine hP h (S2.2 76) (by rw [hself]; exact hM) false ?_
        rw [sp_run, ← e76, ← e74, ← e2, hb]
        rfl
      · refine ag_iincN (Lf := fun y => [some (av_r 38), none, none, some (av_i (last)), some (av_i (y)), none, none, none]) dd_M_could_236 rfl (fun _ => rfl) rfl (by decide) (fun y1 ey1 => ?_)
        refine ag_goto (tgt := 106) dd_M_could_239 (by decide) ?_
        obtain rfl : y1 = t + 1 := by omega
        refine ih S2 (t + 1) h (by omega) (by omega) hw2 hr2 hM (fun h r hM b q => hP h r ?_ b ?_)
        · rw [eW] at hM; exact hM
        · rw [e7, e73] at q
          rw [sp_run, ← e76, ← e74, ← e2, hb, q]
          rfl
