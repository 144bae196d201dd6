/-! lift -/
theorem ax_p67 {X : ax_M} {a0 b0 c0 d0 e0 f0 R a b c d e f : ax_E} : ax_put (ax_put (ax_put (ax_put (ax_put (ax_put (ax_put (ax_put (ax_put (ax_put (ax_put (ax_put (ax_put X 166 a0) 167 b0) 168 c0) 169 d0) 170 e0) 171 f0) 172 R) 166 a) 167 b) 168 c) 169 d) 170 e) 171 f = ax_put (ax_put (ax_put (ax_put (ax_put (ax_put (ax_put X 166 a) 167 b) 168 c) 169 d) 170 e) 171 f) 172 R := by
  refine ax_me rfl (fun k => ?_)
  simp only [ax_put, va_up]
  by_cases h1 : k = 166
  · subst h1; simp
  by_cases h2 : k = 167
  · subst h2; simp
  by_cases h3 : k = 168
  · subst h3; simp
  by_cases h4 : k = 169
  · subst h4; simp
  by_cases h5 : k = 170
  · subst h5; simp
  by_cases h6 : k = 171
  · subst h6; simp
  by_cases h7 : k = 172
  · subst h7; simp
  simp [h1, h2, h3, h4, h5, h6, h7]
theorem ax_srt {M : ax_M} {a b : Nat} {e e2 : ax_E} (h : b < a) : ax_put (ax_put M a e) b e2 = ax_put (ax_put M b e2) a e := ax_px e e2 (by omega)
/-- one place of n taken out at k: those behind it move up -/
def sf_ {α : Type} (f : Nat → α) (k n : Nat) : Nat → α := fun j => if k ≤ j ∧ j < n then f (j + 1) else f j
theorem sf_0 {α : Type} (f : Nat → α) (k : Nat) : sf_ f k k = f := by
  funext j
  unfold sf_
  rw [if_neg (by omega)]
theorem sf_at {α : Type} (f : Nat → α) {k n : Nat} : sf_ f k n (n + 1) = f (n + 1) := by
  unfold sf_
  rw [if_neg (by omega)]
theorem sf_s (f : Nat → Int32) {k n : Nat} (h : k ≤ n) : upd (sf_ f k n) n (f (n + 1)) = sf_ f k (n + 1) := by
  funext j
  unfold upd sf_
  by_cases q : j = n
  · rw [if_pos q, if_pos (by omega), q]
  · rw [if_neg q]
    by_cases q2 : k ≤ j ∧ j < n
    · rw [if_pos q2, if_pos (by omega)]
    · rw [if_neg q2, if_neg (by omega)]
theorem sf_sL (f : Nat → Int64) {k n : Nat} (h : k ≤ n) : vp_updL (sf_ f k n) n (f (n + 1)) = sf_ f k (n + 1) := by
  funext j
  unfold vp_updL sf_
  by_cases q : j = n
  · rw [if_pos q, if_pos (by omega), q]
  · rw [if_neg q]
    by_cases q2 : k ≤ j ∧ j < n
    · rw [if_pos q2, if_pos (by omega)]
    · rw [if_neg q2, if_neg (by omega)]
theorem sf_sO (f : Nat → Option Nat) {k n : Nat} (h : k ≤ n) : va_up (sf_ f k n) n (f (n + 1)) = sf_ f k (n + 1) := by
  funext j
  unfold va_up sf_
  by_cases q : j = n
  · rw [if_pos q, if_pos (by omega), q]
  · rw [if_neg q]
    by_cases q2 : k ≤ j ∧ j < n
    · rw [if_pos q2, if_pos (by omega)]
    · rw [if_neg q2, if_neg (by omega)]
/-- bytes from a up to b move down by 20 -/
def sg_ (f : Nat → Int32) (a b : Nat) : Nat → Int32 := fun j => if a ≤ j ∧ j < b then f (j + 20) else f j
theorem sg_0 (f : Nat → Int32) (k : Nat) : sg_ f k k = f := by
  funext j
  unfold sg_
  rw [if_neg (by omega)]
theorem sg_at (f : Nat → Int32) {k n j : Nat} (h : n ≤ j) : sg_ f k n j = f j := by
  unfold sg_
  rw [if_neg (by omega)]
theorem sg_s (f : Nat → Int32) {k n : Nat} (h : k ≤ n) : upd (sg_ f k n) n (f (n + 20)) = sg_ f k (n + 1) := by
  funext j
  unfold upd sg_
  by_cases q : j = n
  · rw [if_pos q, if_pos (by omega), q]
  · rw [if_neg q]
    by_cases q2 : k ≤ j ∧ j < n
    · rw [if_pos q2, if_pos (by omega)]
    · rw [if_neg q2, if_neg (by omega)]
abbrev oA (M : ax_M) (a t n : Nat) (f : Nat → Option Nat) : Prop := M.2 a = some (.inl (t, n, .inr (.inr (.inr (.inr f)))))
abbrev aP (M : ax_M) (a t n : Nat) (f : Nat → Option Nat) : ax_M := ax_put M a (.inl (t, n, .inr (.inr (.inr (.inr f)))))
section LIFT
variable {g : ax_Y} {M : ax_M} {Q : Option Value → ax_M → Prop} {h : Nat} {dw nw : Nat} {bl pa : Int32} {sl : Nat → Option Nat} {n dr ln al ru pv cm os gm tk pl bh : Int32} {va : Int64} {iw od : Int32}
theorem m_Silences_remove {k si : Nat} (h_this : oC M 22 9 [.ref 23, .int (nI (si + 1)), .ref 24]) (h_slots : oA M 23 5 13 sl) (hs : ∀ j, j < 13 → ∃ y fs, sl j = some y ∧ y ≠ 23 ∧ M.2 y = some (.inr (8, fs))) (hk : k ≤ si) (hsi : si < 12) (hq : Q none (oP (aP M 23 5 13 (va_up (sf_ sl k si) si (sl k))) 22 9 [.ref 23, .int (nI si), .ref 24])) : ax_G g mt_Silences_remove (h + 1) 0 0 0 [.ref 22, .int (nI k), .float 0, .float 0] [] M Q := by
  obtain ⟨y, fy, y_gone, ny, h_gone⟩ := hs k (by omega)
  rw [y_gone] at hq
  refine s_aload_n 1 rfl rfl rfl ?_
  refine s_iload_n 2 rfl rfl rfl ?_
  refine c_callV1 h 5 rfl rfl mv_Silences_50 (by omega) (Nat.le_of_ble_eq_true rfl) (Nat.le_of_ble_eq_true rfl) h_this rfl rfl ?_
  -- Silences_remove 5: call Silences_has
  refine m_Silences_has h_this ?_
  dsimp only [ax_rs]
  rw [bi_t (in_bi (n := si + 1) (k := k) (by omega) (by omega) rfl)]
  refine s_if_ne 9 8 rfl rfl (by decide) (fun c1 => ?_) (fun c1 => ?_)
  -- Silences_remove 8: branch 9 8
  · skip
    refine s_aload_n 10 rfl rfl rfl ?_
    refine s_getfield 9 0 13 rfl rfl fl_Silences_11 h_this rfl ?_
    refine s_iload_n 14 rfl rfl rfl ?_
    refine s_aaload 5 "AlarmGroups$Silence" (k) 15 rfl rfl rfl h_slots rfl (by omega) (by decide) (y_gone) ?_
    refine s_ast2 16 rfl rfl rfl ?_
    refine s_iload_n 17 rfl rfl rfl ?_
    refine s_ist3 18 rfl rfl rfl ?_
    -- Silences_remove 18: end
    have loop : ∀ (d i : Nat), i + d = si → k ≤ i → ax_G g mt_Silences_remove (h + 1) 0 0 18 [.ref 22, .int (nI k), .ref y, .int (nI i)] [] (aP M 23 5 13 (sf_ sl k i)) Q := by
      intro d
      induction d with
      | zero =>
        intro i hi hki
        obtain rfl : i = si := by omega
        refine s_iload_n 19 rfl rfl rfl ?_
        refine s_aload_n 20 rfl rfl rfl ?_
        refine s_getfield 9 1 23 rfl rfl fl_Silences_25 h_this rfl ?_
        refine s_iconst 1 24 rfl rfl (by decide) ?_
        refine s_isub 25 rfl rfl ?_
        -- Silences_remove 25: end
        rw [nI_pred]
        refine s_icmp_ge 48 28 rfl rfl (by decide) (fun c2 => ?_) (fun c2 => ?_)
        -- Silences_remove 28: branch 48 28
        · skip
          refine s_aload_n 49 rfl rfl rfl ?_
          refine s_getfield 9 0 52 rfl rfl fl_Silences_11 h_this rfl ?_
          refine s_aload_n 53 rfl rfl rfl ?_
          refine s_getfield 9 1 56 rfl rfl fl_Silences_25 h_this rfl ?_
          refine s_iconst 1 57 rfl rfl (by decide) ?_
          refine s_isub 58 rfl rfl ?_
          -- Silences_remove 58: end
          rw [nI_pred]
          refine s_aload_n 59 rfl rfl rfl ?_
          -- Silences_remove 59: end
          refine s_aastore 5 8 (i) 60 rfl rfl rfl rfl rfl (ax_ne ny h_gone) rfl (by omega) (by decide) ?_
          refine s_aload_n 61 rfl rfl rfl ?_
          refine s_dup 62 rfl rfl rfl ?_
          refine s_getfield 9 1 65 rfl rfl fl_Silences_25 h_this rfl ?_
          refine s_iconst 1 66 rfl rfl (by decide) ?_
          refine s_isub 67 rfl rfl ?_
          -- Silences_remove 67: end
          rw [nI_pred]
          refine s_putfield 9 1 (.int) 70 rfl rfl fp_Silences_25 h_this (Nat.le_of_ble_eq_true rfl) ⟨rfl, rfl⟩ (fun h => absurd h (by decide)) ?_
          -- Silences_remove 70: return_
          unfold aP at hq ⊢
          rw [ax_pp]
          exact s_return rfl rfl (hq)
        · exact absurd (nn_nle c2) (by omega)
      | succ d ih =>
        intro i hi hki
        have nx := ih (i + 1) (by omega) (by omega)
        refine s_iload_n 19 rfl rfl rfl ?_
        refine s_aload_n 20 rfl rfl rfl ?_
        refine s_getfield 9 1 23 rfl rfl fl_Silences_25 h_this rfl ?_
        refine s_iconst 1 24 rfl rfl (by decide) ?_
        refine s_isub 25 rfl rfl ?_
        -- Silences_remove 25: end
        rw [nI_pred]
        refine s_icmp_ge 48 28 rfl rfl (by decide) (fun c3 => ?_) (fun c3 => ?_)
        -- Silences_remove 28: branch 48 28
        · exact absurd (nn_le c3) (by omega)
        · obtain ⟨z, fz, y_nxt, nz, h_nxt⟩ := hs (i + 1) (by omega)
          refine s_aload_n 29 rfl rfl rfl ?_
          refine s_getfield 9 0 32 rfl rfl fl_Silences_11 h_this rfl ?_
          refine s_iload_n 33 rfl rfl rfl ?_
          refine s_aload_n 34 rfl rfl rfl ?_
          refine s_getfield 9 0 37 rfl rfl fl_Silences_11 h_this rfl ?_
          refine s_iload_n 38 rfl rfl rfl ?_
          refine s_iconst 1 39 rfl rfl (by decide) ?_
          refine s_iadd 40 rfl rfl ?_
          -- Silences_remove 40: end
          rw [nI_1]
          refine s_aaload 5 "AlarmGroups$Silence" (i + 1) 41 rfl rfl rfl rfl rfl (by omega) (by decide) (sf_at sl ▸ y_nxt) ?_
          refine s_aastore 5 8 (i) 42 rfl rfl rfl rfl rfl (ax_ne nz h_nxt) rfl (by omega) (by decide) ?_
          rw [← y_nxt]
          unfold aP at nx ⊢
          rw [ax_pp, sf_sO sl hki]
          refine s_inc3 _ 45 rfl rfl rfl rfl ?_
          refine s_goto 18 rfl (by decide) ?_
          -- Silences_remove 18: end
          rw [inc1]
          exact nx
    have h0 := loop (si - k) k (by omega) (Nat.le_refl k)
    rw [sf_0] at h0
    unfold aP at h0
    rw [ax_id h_slots] at h0
    exact h0
  · exact absurd c1 (by decide)
theorem c_lift {x : Int32} {si : Nat} (h_this : oC M 0 11 (tp_f dw nw bl pa)) (h_silences : oC M 22 9 [.ref 23, .int (nI si), .ref 24]) (h_slots : oA M 23 5 13 sl) (hs : ∀ j, j < 13 → ∃ y fs, sl j = some y ∧ y ≠ 23 ∧ M.2 y = some (.inr (8, fs))) (hsi : si ≤ 12) (h1 : (x < 0 ∨ nI si ≤ x) → Q (some (.int (-2))) M) (h2 : ∀ k m, si = m + 1 → k ≤ m → x = nI k → Q (some (.int (nI m))) (oP (aP M 23 5 13 (va_up (sf_ sl k m) m (sl k))) 22 9 [.ref 23, .int (nI m), .ref 24])) : ax_G g mt_Top_lift (h + 2) 0 0 0 [.ref 0, .int x] [] M Q := by
  refine s_aload_n 1 rfl rfl rfl ?_
  refine s_getfield 11 5 4 rfl rfl fl_Top_45 h_this rfl ?_
  refine s_iload_n 5 rfl rfl rfl ?_
  refine c_callV1 (h+1) 8 rfl rfl mv_Top_230 (by omega) (Nat.le_of_ble_eq_true rfl) (Nat.le_of_ble_eq_true rfl) h_silences rfl rfl ?_
  -- Top_lift 8: call Silences_has
  refine m_Silences_has h_silences ?_
  dsimp only [ax_rs]
  rcases in_or (x := x) (n := si) (by omega) with ⟨k, hk, rfl⟩ | c
  · rw [bi_t (in_bi hk (by omega) rfl)]
    obtain ⟨m, rfl⟩ : ∃ m, si = m + 1 := ⟨si - 1, by omega⟩
    refine s_if_ne 14 11 rfl rfl (by decide) (fun c1 => ?_) (fun c1 => ?_)
    -- Top_lift 11: branch 14 11
    · refine s_aload_n 15 rfl rfl rfl ?_
      refine s_getfield 11 5 18 rfl rfl fl_Top_45 h_this rfl ?_
      refine s_iload_n 19 rfl rfl rfl ?_
      refine c_callV1 (h+1) 22 rfl rfl mv_Top_266 (by omega) (Nat.le_of_ble_eq_true rfl) (Nat.le_of_ble_eq_true rfl) h_silences rfl rfl ?_
      -- Top_lift 22: call Silences_remove
      refine m_Silences_remove h_silences h_slots hs (by omega) (by omega) ?_
      dsimp only [ax_rs]
      refine s_aload_n 23 rfl rfl rfl ?_
      refine s_getfield 11 5 26 rfl rfl fl_Top_45 h_this rfl ?_
      refine s_getfield 9 1 29 rfl rfl fl_Top_269 rfl rfl ?_
      -- Top_lift 29: ireturn
      exact s_ireturn rfl .int rfl rfl (h2 k m rfl (by omega) rfl)
    · exact absurd c1 (by decide)
  · rw [bi_f (in_no c)]
    refine s_if_ne 14 11 rfl rfl (by decide) (fun c2 => ?_) (fun c2 => ?_)
    -- Top_lift 11: branch 14 11
    · exact absurd rfl c2
    · refine s_bipush (-2) 13 rfl rfl (by decide) ?_
      -- Top_lift 13: ireturn
      exact s_ireturn rfl .int rfl rfl (h1 c)
abbrev lf_m (M : ax_M) (n bl ln dr al ru pv si pa cm os gm tk pl bh : Int32) (va : Int64) (iw od : Int32) (un kd wh fi : Nat → Int32) (ls : Nat → Int64) (rz rb : Nat → Int32) : ax_M := iP (iP (lP (iP (iP (iP (iP (md_m M n bl ln dr al ru pv si pa cm os gm tk pl bh va iw od) 166 26 un) 167 26 kd) 168 26 wh) 169 26 fi) 170 26 ls) 171 26 rz) 172 520 rb
theorem m_Mod_isSilence' {x si : Int32} (h_this : oC M 143 12 (md_f n bl ln dr al ru pv si pa cm os gm tk pl bh va iw od)) (hq : Q (some (.int (bi (0 ≤ x ∧ x ≤ si - 1)))) M) : ax_G g mt_Mod_isSilence (h + 1) 0 0 0 [.ref 143, .int x] [] M Q := by
  refine s_iload_n 1 rfl rfl rfl ?_
  refine s_i2l 2 rfl rfl ?_
  refine s_lconst 0 3 rfl rfl (by decide) ?_
  refine s_aload_n 4 rfl rfl rfl ?_
  refine s_getfield 12 30 7 rfl rfl fl_Mod_166 h_this rfl ?_
  refine s_iconst 1 8 rfl rfl (by decide) ?_
  refine s_isub 9 rfl rfl ?_
  refine s_i2l 10 rfl rfl ?_
  refine c_callS3 h 13 rfl rfl mv_Mod_134 (by omega) (Nat.le_of_ble_eq_true rfl) (Nat.le_of_ble_eq_true rfl) ?_
  -- Mod_isSilence 13: call Mod_in
  refine m_Mod_inI (lo := 0) (hi := si - 1) (by decide) rfl ?_
  dsimp only [ax_rs]
  exact s_ireturn rfl .boolean rfl  (bi_n _) (hq )
theorem d_lift {x : Int32} {si : Nat} {un kd wh fi rz rb : Nat → Int32} {ls : Nat → Int64} (h_this : oC M 143 12 (md_f n bl ln dr al ru pv (nI si) pa cm os gm tk pl bh va iw od)) (h_until : iA M 166 26 un) (h_silenceKind : iA M 167 26 kd) (h_where : iA M 168 26 wh) (h_silenceFile : iA M 169 26 fi) (h_silenceLines : lA M 170 26 ls) (h_reasonSize : iA M 171 26 rz) (h_reasons : iA M 172 520 rb) (hsi : si ≤ 12) (h1 : (x < 0 ∨ nI si ≤ x) → Q (some (.int (-2))) M) (h2 : ∀ k m, si = m + 1 → k ≤ m → x = nI k → Q (some (.int (nI m))) (lf_m M n bl ln dr al ru pv (nI m) pa cm os gm tk pl bh va iw od (sf_ un k m) (sf_ kd k m) (sf_ wh k m) (sf_ fi k m) (sf_ ls k m) (sf_ rz k m) (sg_ rb (20 * k) (20 * m)))) : ax_G g mt_Mod_lift (h + 2) 0 0 0 [.ref 143, .int x, .float 0, .float 0] [] M Q := by
  refine s_aload_n 1 rfl rfl rfl ?_
  refine s_iload_n 2 rfl rfl rfl ?_
  refine c_callV1 (h+1) 5 rfl rfl mv_Mod_293 (by omega) (Nat.le_of_ble_eq_true rfl) (Nat.le_of_ble_eq_true rfl) h_this rfl rfl ?_
  -- Mod_lift 5: call Mod_isSilence
  refine m_Mod_isSilence' h_this ?_
  dsimp only [ax_rs]
  rcases in_or (x := x) (n := si) (by omega) with ⟨k, hk, rfl⟩ | c
  · rw [bi_t (in_le hk (by omega) rfl)]
    obtain ⟨m, rfl⟩ : ∃ m, si = m + 1 := ⟨si - 1, by omega⟩
    have h2 := h2 k m rfl (by omega) rfl
    refine s_if_ne 11 8 rfl rfl (by decide) (fun c1 => ?_) (fun c1 => ?_)
    -- Mod_lift 8: branch 11 8
    · refine s_aload_n 12 rfl rfl rfl ?_
      refine s_dup 13 rfl rfl rfl ?_
      refine s_getfield 12 30 16 rfl rfl fl_Mod_166 h_this rfl ?_
      refine s_iconst 1 17 rfl rfl (by decide) ?_
      refine s_isub 18 rfl rfl ?_
      -- Mod_lift 18: end
      rw [nI_pred]
      refine s_putfield 12 30 (.int) 21 rfl rfl fp_Mod_166 h_this (Nat.le_of_ble_eq_true rfl) ⟨rfl, rfl⟩ (fun h => absurd h (by decide)) ?_
      refine s_iload_n 22 rfl rfl rfl ?_
      refine s_ist2 23 rfl rfl rfl ?_
      -- Mod_lift 23: end
      have loop : ∀ (d i : Nat) (z : Value), z.category = 1 → i + d = m → k ≤ i → ax_G g mt_Mod_lift (h + 2) 0 0 23 [.ref 143, .int (nI k), .int (nI i), z] [] (lf_m M n bl ln dr al ru pv (nI m) pa cm os gm tk pl bh va iw od (sf_ un k i) (sf_ kd k i) (sf_ wh k i) (sf_ fi k i) (sf_ ls k i) (sf_ rz k i) (sg_ rb (20 * k) (20 * i))) Q := by
        intro d
        induction d with
        | zero =>
          intro i z _ hi hki
          obtain rfl : i = m := by omega
          refine s_iload_n 24 rfl rfl rfl ?_
          refine s_aload_n 25 rfl rfl rfl ?_
          refine s_getfield 12 30 28 rfl rfl fl_Mod_166 rfl rfl ?_
          refine s_icmp_ge 160 31 rfl rfl (by decide) (fun c2 => ?_) (fun c2 => ?_)
          -- Mod_lift 31: branch 160 31
          · refine s_aload_n 161 rfl rfl rfl ?_
            refine s_getfield 12 30 164 rfl rfl fl_Mod_166 rfl rfl ?_
            -- Mod_lift 164: ireturn
            exact s_ireturn rfl .int rfl rfl (h2)
          · exact absurd (nn_nle c2) (by omega)
        | succ d ih =>
          intro i z hz hi hki
          have nx := fun z hz => ih (i + 1) z hz (by omega) (by omega)
          refine s_iload_n 24 rfl rfl rfl ?_
          refine s_aload_n 25 rfl rfl rfl ?_
          refine s_getfield 12 30 28 rfl rfl fl_Mod_166 rfl rfl ?_
          refine s_icmp_ge 160 31 rfl rfl (by decide) (fun c3 => ?_) (fun c3 => ?_)
          -- Mod_lift 31: branch 160 31
          · exact absurd (nn_le c3) (by omega)
          · refine s_aload_n 32 rfl rfl rfl ?_
            refine s_getfield 12 31 35 rfl rfl fl_Mod_76 rfl rfl ?_
            refine s_iload_n 36 rfl rfl rfl ?_
            refine s_aload_n 37 rfl rfl rfl ?_
            refine s_getfield 12 31 40 rfl rfl fl_Mod_76 rfl rfl ?_
            refine s_iload_n 41 rfl rfl rfl ?_
            refine s_iconst 1 42 rfl rfl (by decide) ?_
            refine s_iadd 43 rfl rfl ?_
            -- Mod_lift 43: end
            rw [nI_1]
            refine s_iaload (i + 1) 44 rfl rfl rfl rfl (by omega) (by decide) ?_
            refine s_iastore (i) 45 rfl rfl rfl rfl (by omega) (by decide) ?_
            refine s_aload_n 46 rfl rfl rfl ?_
            refine s_getfield 12 32 49 rfl rfl fl_Mod_79 rfl rfl ?_
            refine s_iload_n 50 rfl rfl rfl ?_
            refine s_aload_n 51 rfl rfl rfl ?_
            refine s_getfield 12 32 54 rfl rfl fl_Mod_79 rfl rfl ?_
            refine s_iload_n 55 rfl rfl rfl ?_
            refine s_iconst 1 56 rfl rfl (by decide) ?_
            refine s_iadd 57 rfl rfl ?_
            -- Mod_lift 57: end
            rw [nI_1]
            refine s_iaload (i + 1) 58 rfl rfl rfl rfl (by omega) (by decide) ?_
            refine s_iastore (i) 59 rfl rfl rfl rfl (by omega) (by decide) ?_
            refine s_aload_n 60 rfl rfl rfl ?_
            refine s_getfield 12 33 63 rfl rfl fl_Mod_82 rfl rfl ?_
            refine s_iload_n 64 rfl rfl rfl ?_
            refine s_aload_n 65 rfl rfl rfl ?_
            refine s_getfield 12 33 68 rfl rfl fl_Mod_82 rfl rfl ?_
            refine s_iload_n 69 rfl rfl rfl ?_
            refine s_iconst 1 70 rfl rfl (by decide) ?_
            refine s_iadd 71 rfl rfl ?_
            -- Mod_lift 71: end
            rw [nI_1]
            refine s_iaload (i + 1) 72 rfl rfl rfl rfl (by omega) (by decide) ?_
            refine s_iastore (i) 73 rfl rfl rfl rfl (by omega) (by decide) ?_
            refine s_aload_n 74 rfl rfl rfl ?_
            refine s_getfield 12 34 77 rfl rfl fl_Mod_85 rfl rfl ?_
            refine s_iload_n 78 rfl rfl rfl ?_
            refine s_aload_n 79 rfl rfl rfl ?_
            refine s_getfield 12 34 82 rfl rfl fl_Mod_85 rfl rfl ?_
            refine s_iload_n 83 rfl rfl rfl ?_
            refine s_iconst 1 84 rfl rfl (by decide) ?_
            refine s_iadd 85 rfl rfl ?_
            -- Mod_lift 85: end
            rw [nI_1]
            refine s_iaload (i + 1) 86 rfl rfl rfl rfl (by omega) (by decide) ?_
            refine s_iastore (i) 87 rfl rfl rfl rfl (by omega) (by decide) ?_
            refine s_aload_n 88 rfl rfl rfl ?_
            refine s_getfield 12 35 91 rfl rfl fl_Mod_88 rfl rfl ?_
            refine s_iload_n 92 rfl rfl rfl ?_
            refine s_aload_n 93 rfl rfl rfl ?_
            refine s_getfield 12 35 96 rfl rfl fl_Mod_88 rfl rfl ?_
            refine s_iload_n 97 rfl rfl rfl ?_
            refine s_iconst 1 98 rfl rfl (by decide) ?_
            refine s_iadd 99 rfl rfl ?_
            -- Mod_lift 99: end
            rw [nI_1]
            refine s_laload (i + 1) 100 rfl rfl rfl rfl (by omega) (by decide) ?_
            refine s_lastore (i) 101 rfl rfl rfl rfl (by omega) (by decide) ?_
            refine s_aload_n 102 rfl rfl rfl ?_
            refine s_getfield 12 36 105 rfl rfl fl_Mod_92 rfl rfl ?_
            refine s_iload_n 106 rfl rfl rfl ?_
            refine s_aload_n 107 rfl rfl rfl ?_
            refine s_getfield 12 36 110 rfl rfl fl_Mod_92 rfl rfl ?_
            refine s_iload_n 111 rfl rfl rfl ?_
            refine s_iconst 1 112 rfl rfl (by decide) ?_
            refine s_iadd 113 rfl rfl ?_
            -- Mod_lift 113: end
            rw [nI_1]
            refine s_iaload (i + 1) 114 rfl rfl rfl rfl (by omega) (by decide) ?_
            refine s_iastore (i) 115 rfl rfl rfl rfl (by omega) (by decide) ?_
            refine s_iconst 0 116 rfl rfl (by decide) ?_
            refine s_ist3 117 rfl rfl rfl ?_
            -- Mod_lift 117: end
            rw [sf_at, sf_at, sf_at, sf_at, sf_at, sf_at, sf_s un hki, sf_s kd hki, sf_s wh hki, sf_s fi hki, sf_sL ls hki, sf_s rz hki]
            have inner : ∀ (e c : Nat), c + e = 20 → ax_G g mt_Mod_lift (h + 2) 0 0 117 [.ref 143, .int (nI k), .int (nI i), .int (nI c)] [] (lf_m M n bl ln dr al ru pv (nI m) pa cm os gm tk pl bh va iw od (sf_ un k (i + 1)) (sf_ kd k (i + 1)) (sf_ wh k (i + 1)) (sf_ fi k (i + 1)) (sf_ ls k (i + 1)) (sf_ rz k (i + 1)) (sg_ rb (20 * k) (20 * i + c))) Q := by
              intro e
              induction e with
              | zero =>
                intro c hc
                obtain rfl : c = 20 := by omega
                refine s_iload_n 118 rfl rfl rfl ?_
                refine s_bipush 20 120 rfl rfl (by decide) ?_
                refine s_icmp_ge 154 123 rfl rfl (by decide) (fun c4 => ?_) (fun c4 => ?_)
                -- Mod_lift 123: branch 154 123
                · refine s_inc2 _ 157 rfl rfl rfl rfl ?_
                  refine s_goto 23 rfl (by decide) ?_
                  -- Mod_lift 23: end
                  rw [inc1]
                  exact nx _ rfl
                · exact absurd (by decide) c4
              | succ e ih2 =>
                intro c hc
                have nx2 := ih2 (c + 1) (by omega)
                refine s_iload_n 118 rfl rfl rfl ?_
                refine s_bipush 20 120 rfl rfl (by decide) ?_
                refine s_icmp_ge 154 123 rfl rfl (by decide) (fun c5 => ?_) (fun c5 => ?_)
                -- Mod_lift 123: branch 154 123
                · exact absurd (nn_le (a := 20) c5) (by omega)
                · refine s_aload_n 124 rfl rfl rfl ?_
                  refine s_getfield 12 37 127 rfl rfl fl_Mod_95 rfl rfl ?_
                  refine s_bipush 20 129 rfl rfl (by decide) ?_
                  refine s_iload_n 130 rfl rfl rfl ?_
                  refine s_imul 131 rfl rfl ?_
                  -- Mod_lift 131: end
                  rw [show (20 : Int32) * nI i = nI (20 * i) from pk_mul 20 i]
                  refine s_iload_n 132 rfl rfl rfl ?_
                  refine s_iadd 133 rfl rfl ?_
                  -- Mod_lift 133: end
                  rw [nI_add]
                  refine s_aload_n 134 rfl rfl rfl ?_
                  refine s_getfield 12 37 137 rfl rfl fl_Mod_95 rfl rfl ?_
                  refine s_bipush 20 139 rfl rfl (by decide) ?_
                  refine s_iload_n 140 rfl rfl rfl ?_
                  refine s_imul 141 rfl rfl ?_
                  -- Mod_lift 141: end
                  rw [show (20 : Int32) * nI i = nI (20 * i) from pk_mul 20 i]
                  refine s_bipush 20 143 rfl rfl (by decide) ?_
                  refine s_iadd 144 rfl rfl ?_
                  -- Mod_lift 144: end
                  rw [show nI (20 * i) + 20 = nI (20 * i + 20) from nI_add (20 * i) 20]
                  refine s_iload_n 145 rfl rfl rfl ?_
                  refine s_iadd 146 rfl rfl ?_
                  -- Mod_lift 146: end
                  rw [nI_add]
                  refine s_iaload (20 * i + 20 + c) 147 rfl rfl rfl rfl (by omega) (by decide) ?_
                  -- Mod_lift 147: end
                  rw [sg_at rb (by omega), show 20 * i + 20 + c = 20 * i + c + 20 by omega]
                  refine s_iastore (20 * i + c) 148 rfl rfl rfl rfl (by omega) (by decide) ?_
                  -- Mod_lift 148: end
                  rw [sg_s rb (by omega)]
                  refine s_inc3 _ 151 rfl rfl rfl rfl ?_
                  refine s_goto 117 rfl (by decide) ?_
                  -- Mod_lift 117: end
                  rw [inc1]
                  unfold lf_m iP at nx2 ⊢
                  rw [ax_pp]
                  exact nx2
            have h0 := inner 20 0 (by omega)
            unfold lf_m md_m oP iP lP at h0 ⊢
            rw [ax_p67]
            exact h0
      have h0 := loop (m - k) k (.float 0) rfl (by omega) (Nat.le_refl k)
      rw [sf_0, sf_0, sf_0, sf_0, sf_0, sf_0, sg_0] at h0
      unfold lf_m md_m oP iP lP at h0
      have q : ∀ (Y : ax_E) (a : Nat) (e : ax_E), M.2 a = some e → a ≠ 143 → ax_put (ax_put M 143 Y) a e = ax_put M 143 Y := fun Y a e h hn => ax_id (ax_ne hn h)
      rw [q _ 166 _ h_until (by decide), q _ 167 _ h_silenceKind (by decide), q _ 168 _ h_where (by decide), q _ 169 _ h_silenceFile (by decide), q _ 170 _ h_silenceLines (by decide), q _ 171 _ h_reasonSize (by decide), q _ 172 _ h_reasons (by decide)] at h0
      exact h0
    · exact absurd c1 (by decide)
  · rw [bi_f (in_nle (by omega) c)]
    refine s_if_ne 11 8 rfl rfl (by decide) (fun c6 => ?_) (fun c6 => ?_)
    -- Mod_lift 8: branch 11 8
    · exact absurd rfl c6
    · refine s_bipush (-2) 10 rfl rfl (by decide) ?_
      -- Mod_lift 10: ireturn
      exact s_ireturn rfl .int rfl rfl (h1 c)
end LIFT
