/-! Alarms: cell 9, its rows 10 to 15 -/
abbrev iA (M : ax_M) (a N : Nat) (f : Nat → Int32) : Prop := M.2 a = some (.inl (0, N, .inl f))
abbrev lA (M : ax_M) (a N : Nat) (f : Nat → Int64) : Prop := M.2 a = some (.inl (3, N, .inr (.inl f)))
abbrev oC (M : ax_M) (a ci : Nat) (fs : List Value) : Prop := M.2 a = some (.inr (ci, fs))
abbrev iP (M : ax_M) (a N : Nat) (f : Nat → Int32) : ax_M := ax_put M a (.inl (0, N, .inl f))
abbrev lP (M : ax_M) (a N : Nat) (f : Nat → Int64) : ax_M := ax_put M a (.inl (3, N, .inr (.inl f)))
abbrev oP (M : ax_M) (a ci : Nat) (fs : List Value) : ax_M := ax_put M a (.inr (ci, fs))
abbrev al_f (n : Nat) : List Value := [.ref 10, .ref 11, .ref 12, .ref 13, .ref 14, .ref 15, .int (nI n)]
/-- r is the first place below n with p, or -1 -/
def isF (p : Nat → Prop) (n : Nat) (r : Int32) : Prop := (∃ i, i < n ∧ p i ∧ (∀ j, j < i → ¬ p j) ∧ r = nI i) ∨ ((∀ j, j < n → ¬ p j) ∧ r = -1)
theorem lt_sw {i : Nat} {p : Nat → Prop} (hb : ∀ j, j < i → ¬ p j) (c : ¬ p i) : ∀ j, j < i + 1 → ¬ p j := by
  intro j hj
  rcases Nat.lt_or_ge j i with q | q
  · exact hb j q
  · obtain rfl : j = i := by omega
    exact c
/-- all that is wanted is known -/
def cz (w k : Int32) : Bool := decide (w &&& (k ^^^ -1) = 0)
theorem cz_t {w k : Int32} (h : w &&& (k ^^^ -1) = 0) : cz w k = true := decide_eq_true h
theorem cz_f {w k : Int32} (h : ¬ w &&& (k ^^^ -1) = 0) : ¬ cz w k = true := fun q => h (of_decide_eq_true q)
theorem inc1 (i : Nat) : nI i + Int32.ofInt 1 = nI (i + 1) := nI_1 i
section ALARMS
variable {g : ax_Y} {M : ax_M} {Q : Option Value → ax_M → Prop} {h n : Nat} {li ki wa pp qq st : Nat → Int32}
theorem m_Alarms_has {x : Int32} (h_this : oC M 9 0 (al_f n)) (hq : Q (some (.int (bi (¬ x < 0 ∧ ¬ nI n ≤ x)))) M) : ax_G g mt_Alarms_has h 0 0 0 [.ref 9, .int x] [] M Q := by
  refine s_iload_n 1 rfl rfl rfl ?_
  refine s_if_lt 16 4 rfl rfl (by decide) (fun c1 => ?_) (fun c1 => ?_)
  -- Alarms_has 4: branch 16 4
  · rw [bi_f (fun q => q.1 c1)] at hq
    refine s_iconst 0 17 rfl rfl (by decide) ?_
    -- Alarms_has 17: ireturn
    exact s_ireturn rfl .boolean rfl rfl (hq)
  · refine s_iload_n 5 rfl rfl rfl ?_
    refine s_aload_n 6 rfl rfl rfl ?_
    refine s_getfield 0 6 9 rfl rfl fl_Alarms_30 h_this rfl ?_
    refine s_icmp_ge 16 12 rfl rfl (by decide) (fun c2 => ?_) (fun c2 => ?_)
    -- Alarms_has 12: branch 16 12
    · rw [bi_f (fun q => q.2 c2)] at hq
      refine s_iconst 0 17 rfl rfl (by decide) ?_
      -- Alarms_has 17: ireturn
      exact s_ireturn rfl .boolean rfl rfl (hq)
    · rw [bi_t ⟨c1, c2⟩] at hq
      refine s_iconst 1 13 rfl rfl (by decide) ?_
      refine s_goto 17 rfl (by decide) ?_
      -- Alarms_has 17: ireturn
      exact s_ireturn rfl .boolean rfl rfl (hq)
theorem m_Alarms_find {x y : Int32} (h_this : oC M 9 0 (al_f n)) (h_line : iA M 10 50 li) (h_kind : iA M 11 50 ki) (h_state : iA M 15 50 st) (hn : n ≤ 50) (hq : ∀ r, isF (fun a => st a ≠ 2 ∧ li a = x ∧ ki a = y) n r → Q (some (.int r)) M) : ax_G g mt_Alarms_find h 0 0 0 [.ref 9, .int x, .int y, .float 0] [] M Q := by
  refine s_iconst 0 1 rfl rfl (by decide) ?_
  refine s_ist3 2 rfl rfl rfl ?_
  -- Alarms_find 2: end
  have loop : ∀ (d i : Nat), i + d = n → (∀ j, j < i → ¬ (st j ≠ 2 ∧ li j = x ∧ ki j = y)) → ax_G g mt_Alarms_find h 0 0 2 [.ref 9, .int x, .int y, .int (nI i)] [] M Q := by
    intro d
    induction d with
    | zero =>
      intro i hi hb
      obtain rfl : i = n := by omega
      refine s_iload_n 3 rfl rfl rfl ?_
      refine s_aload_n 4 rfl rfl rfl ?_
      refine s_getfield 0 6 7 rfl rfl fl_Alarms_30 h_this rfl ?_
      refine s_icmp_ge 48 10 rfl rfl (by decide) (fun c1 => ?_) (fun c1 => ?_)
      -- Alarms_find 10: branch 48 10
      · refine s_iconst (-1) 49 rfl rfl (by decide) ?_
        -- Alarms_find 49: ireturn
        exact s_ireturn rfl .int rfl rfl (hq _ (Or.inr ⟨hb, rfl⟩))
      · exact absurd (nn_nle c1) (by omega)
    | succ d ih =>
      intro i hi hb
      have nx := fun q => ih (i + 1) (by omega) (lt_sw hb q)
      refine s_iload_n 3 rfl rfl rfl ?_
      refine s_aload_n 4 rfl rfl rfl ?_
      refine s_getfield 0 6 7 rfl rfl fl_Alarms_30 h_this rfl ?_
      refine s_icmp_ge 48 10 rfl rfl (by decide) (fun c2 => ?_) (fun c2 => ?_)
      -- Alarms_find 10: branch 48 10
      · exact absurd (nn_le c2) (by omega)
      · refine s_aload_n 11 rfl rfl rfl ?_
        refine s_getfield 0 5 14 rfl rfl fl_Alarms_27 h_this rfl ?_
        refine s_iload_n 15 rfl rfl rfl ?_
        refine s_iaload (i) 16 rfl rfl h_state rfl (by omega) (by decide) ?_
        refine s_iconst 2 17 rfl rfl (by decide) ?_
        refine s_icmp_eq 42 20 rfl rfl (by decide) (fun c3 => ?_) (fun c3 => ?_)
        -- Alarms_find 20: branch 42 20
        · refine s_inc3 _ 45 rfl rfl rfl rfl ?_
          refine s_goto 2 rfl (by decide) ?_
          -- Alarms_find 2: end
          rw [inc1]
          exact nx (fun q => q.1 c3)
        · refine s_aload_n 21 rfl rfl rfl ?_
          refine s_getfield 0 0 24 rfl rfl fl_Alarms_9 h_this rfl ?_
          refine s_iload_n 25 rfl rfl rfl ?_
          refine s_iaload (i) 26 rfl rfl h_line rfl (by omega) (by decide) ?_
          refine s_iload_n 27 rfl rfl rfl ?_
          refine s_icmp_ne 42 30 rfl rfl (by decide) (fun c4 => ?_) (fun c4 => ?_)
          -- Alarms_find 30: branch 42 30
          · refine s_inc3 _ 45 rfl rfl rfl rfl ?_
            refine s_goto 2 rfl (by decide) ?_
            -- Alarms_find 2: end
            rw [inc1]
            exact nx (fun q => c4 q.2.1)
          · refine s_aload_n 31 rfl rfl rfl ?_
            refine s_getfield 0 1 34 rfl rfl fl_Alarms_15 h_this rfl ?_
            refine s_iload_n 35 rfl rfl rfl ?_
            refine s_iaload (i) 36 rfl rfl h_kind rfl (by omega) (by decide) ?_
            refine s_iload_n 37 rfl rfl rfl ?_
            refine s_icmp_ne 42 40 rfl rfl (by decide) (fun c5 => ?_) (fun c5 => ?_)
            -- Alarms_find 40: branch 42 40
            · refine s_inc3 _ 45 rfl rfl rfl rfl ?_
              refine s_goto 2 rfl (by decide) ?_
              -- Alarms_find 2: end
              rw [inc1]
              exact nx (fun q => c5 q.2.2)
            · refine s_iload_n 41 rfl rfl rfl ?_
              -- Alarms_find 41: ireturn
              exact s_ireturn rfl .int rfl rfl (hq _ (Or.inl ⟨i, by omega, ⟨c3, c4, c5⟩, hb, rfl⟩))
  exact loop n 0 (by omega) (fun j hj => by omega)
theorem m_Alarms_add {x y : Int32} (h_this : oC M 9 0 (al_f n)) (h_line : iA M 10 50 li) (h_kind : iA M 11 50 ki) (hn : n < 50) (hq : Q (some (.int (nI n))) (oP (iP (iP M 10 50 (upd li n x)) 11 50 (upd ki n y)) 9 0 (al_f (n + 1)))) : ax_G g mt_Alarms_add h 0 0 0 [.ref 9, .int x, .int y] [] M Q := by
  refine s_aload_n 1 rfl rfl rfl ?_
  refine s_getfield 0 6 4 rfl rfl fl_Alarms_30 h_this rfl ?_
  refine s_bipush 50 6 rfl rfl (by decide) ?_
  refine s_icmp_lt 11 9 rfl rfl (by decide) (fun c1 => ?_) (fun c1 => ?_)
  -- Alarms_add 9: branch 11 9
  · refine s_aload_n 12 rfl rfl rfl ?_
    refine s_getfield 0 0 15 rfl rfl fl_Alarms_9 h_this rfl ?_
    refine s_aload_n 16 rfl rfl rfl ?_
    refine s_getfield 0 6 19 rfl rfl fl_Alarms_30 h_this rfl ?_
    refine s_iload_n 20 rfl rfl rfl ?_
    refine s_iastore (n) 21 rfl rfl h_line rfl (by omega) (by decide) ?_
    refine s_aload_n 22 rfl rfl rfl ?_
    refine s_getfield 0 1 25 rfl rfl fl_Alarms_15 h_this rfl ?_
    refine s_aload_n 26 rfl rfl rfl ?_
    refine s_getfield 0 6 29 rfl rfl fl_Alarms_30 h_this rfl ?_
    refine s_iload_n 30 rfl rfl rfl ?_
    refine s_iastore (n) 31 rfl rfl h_kind rfl (by omega) (by decide) ?_
    refine s_aload_n 32 rfl rfl rfl ?_
    refine s_dup 33 rfl rfl rfl ?_
    refine s_getfield 0 6 36 rfl rfl fl_Alarms_30 h_this rfl ?_
    refine s_iconst 1 37 rfl rfl (by decide) ?_
    refine s_iadd 38 rfl rfl ?_
    refine s_putfield 0 6 (.int) 41 rfl rfl fp_Alarms_30 h_this (Nat.le_of_ble_eq_true rfl) ⟨rfl, rfl⟩ (fun h => absurd h (by decide)) ?_
    refine s_aload_n 42 rfl rfl rfl ?_
    refine s_getfield 0 6 45 rfl rfl fl_Alarms_30 rfl rfl ?_
    refine s_iconst 1 46 rfl rfl (by decide) ?_
    -- Alarms_add 46: end
    rw [nI_1]
    refine s_isub 47 rfl rfl ?_
    rw [nI_pred]
    exact s_ireturn rfl .int rfl rfl (hq)
  · exact absurd (nn_nlt (b := 50) c1) (by omega)
theorem m_Alarms_tell {i : Nat} {w p q : Int32} (h_this : oC M 9 0 (al_f n)) (h_wants : iA M 12 50 wa) (h_p : iA M 13 50 pp) (h_q : iA M 14 50 qq) (h_state : iA M 15 50 st) (hn : n ≤ 50) (hi : i < n) (hq : Q none (iP (iP (iP (iP M 12 50 (upd wa i w)) 13 50 (upd pp i p)) 14 50 (upd qq i q)) 15 50 (upd st i 0))) : ax_G g mt_Alarms_tell (h + 1) 0 0 0 [.ref 9, .int (nI i), .int w, .int p, .int q] [] M Q := by
  refine s_aload_n 1 rfl rfl rfl ?_
  refine s_iload_n 2 rfl rfl rfl ?_
  refine c_callV1 h 5 rfl rfl mv_Alarms_34 (by omega) (Nat.le_of_ble_eq_true rfl) (Nat.le_of_ble_eq_true rfl) h_this rfl rfl ?_
  -- Alarms_tell 5: call Alarms_has
  refine m_Alarms_has h_this ?_
  dsimp only [ax_rs]
  rw [bi_t ⟨nI_pos (by omega), nI_ge hi (by omega)⟩]
  refine s_if_eq 37 8 rfl rfl (by decide) (fun c1 => ?_) (fun c1 => ?_)
  -- Alarms_tell 8: branch 37 8
  · exact absurd c1 (by decide)
  · refine s_aload_n 9 rfl rfl rfl ?_
    refine s_getfield 0 2 12 rfl rfl fl_Alarms_18 h_this rfl ?_
    refine s_iload_n 13 rfl rfl rfl ?_
    refine s_iload_n 14 rfl rfl rfl ?_
    refine s_iastore (i) 15 rfl rfl h_wants rfl (by omega) (by decide) ?_
    refine s_aload_n 16 rfl rfl rfl ?_
    refine s_getfield 0 3 19 rfl rfl fl_Alarms_21 h_this rfl ?_
    refine s_iload_n 20 rfl rfl rfl ?_
    refine s_iload_n 21 rfl rfl rfl ?_
    refine s_iastore (i) 22 rfl rfl h_p rfl (by omega) (by decide) ?_
    refine s_aload_n 23 rfl rfl rfl ?_
    refine s_getfield 0 4 26 rfl rfl fl_Alarms_24 h_this rfl ?_
    refine s_iload_n 27 rfl rfl rfl ?_
    refine s_iload 29 rfl rfl rfl ?_
    refine s_iastore (i) 30 rfl rfl h_q rfl (by omega) (by decide) ?_
    refine s_aload_n 31 rfl rfl rfl ?_
    refine s_getfield 0 5 34 rfl rfl fl_Alarms_27 h_this rfl ?_
    refine s_iload_n 35 rfl rfl rfl ?_
    refine s_iconst 0 36 rfl rfl (by decide) ?_
    refine s_iastore (i) 37 rfl rfl h_state rfl (by omega) (by decide) ?_
    -- Alarms_tell 37: return_
    exact s_return rfl rfl (hq)
theorem m_Alarms_isClosed {i : Nat} {k : Int32} (h_this : oC M 9 0 (al_f n)) (h_wants : iA M 12 50 wa) (hi : i < 50) (hq : Q (some (.int (bi (cz (wa i) k = true)))) M) : ax_G g mt_Alarms_isClosed h 0 0 0 [.ref 9, .int (nI i), .int k] [] M Q := by
  refine s_aload_n 1 rfl rfl rfl ?_
  refine s_getfield 0 2 4 rfl rfl fl_Alarms_18 h_this rfl ?_
  refine s_iload_n 5 rfl rfl rfl ?_
  refine s_iaload (i) 6 rfl rfl h_wants rfl (by omega) (by decide) ?_
  refine s_iload_n 7 rfl rfl rfl ?_
  refine s_iconst (-1) 8 rfl rfl (by decide) ?_
  refine s_ixor 9 rfl rfl ?_
  refine s_iand 10 rfl rfl ?_
  refine s_if_ne 17 13 rfl rfl (by decide) (fun c1 => ?_) (fun c1 => ?_)
  -- Alarms_isClosed 13: branch 17 13
  · rw [bi_f (cz_f c1)] at hq
    refine s_iconst 0 18 rfl rfl (by decide) ?_
    -- Alarms_isClosed 18: ireturn
    exact s_ireturn rfl .boolean rfl rfl (hq)
  · rw [bi_t (cz_t c1)] at hq
    refine s_iconst 1 14 rfl rfl (by decide) ?_
    refine s_goto 18 rfl (by decide) ?_
    -- Alarms_isClosed 18: ireturn
    exact s_ireturn rfl .boolean rfl rfl (hq)
theorem m_Alarms_closedOf {s : Int64} {k : Int32} (h_this : oC M 9 0 (al_f n)) (h_wants : iA M 12 50 wa) (hn : n ≤ 50) (hq : Q (some (.long (lset (fun a => lb s a && cz (wa a) k) n))) M) : ax_G g mt_Alarms_closedOf (h + 1) 0 0 0 [.ref 9, .long s, .float 0, .int k, .float 0, .float 0, .float 0] [] M Q := by
  refine s_lconst 0 1 rfl rfl (by decide) ?_
  refine s_lst4 3 rfl rfl rfl ?_
  refine s_iconst 0 4 rfl rfl (by decide) ?_
  refine s_ist6 6 rfl rfl rfl ?_
  -- Alarms_closedOf 6: end
  have loop : ∀ (d i : Nat), i + d = n → ax_G g mt_Alarms_closedOf (h + 1) 0 0 6 [.ref 9, .long s, .float 0, .int k, .long (lset (fun a => lb s a && cz (wa a) k) i), .float 0, .int (nI i)] [] M Q := by
    intro d
    induction d with
    | zero =>
      intro i hi
      obtain rfl : i = n := by omega
      refine s_iload 8 rfl rfl rfl ?_
      refine s_aload_n 9 rfl rfl rfl ?_
      refine s_getfield 0 6 12 rfl rfl fl_Alarms_30 h_this rfl ?_
      refine s_icmp_ge 51 15 rfl rfl (by decide) (fun c1 => ?_) (fun c1 => ?_)
      -- Alarms_closedOf 15: branch 51 15
      · refine s_lload 53 rfl rfl rfl ?_
        -- Alarms_closedOf 53: lreturn
        exact s_lreturn rfl rfl (hq)
      · exact absurd (nn_nle c1) (by omega)
    | succ d ih =>
      intro i hi
      have nx := ih (i + 1) (by omega)
      rw [lset] at nx
      refine s_iload 8 rfl rfl rfl ?_
      refine s_aload_n 9 rfl rfl rfl ?_
      refine s_getfield 0 6 12 rfl rfl fl_Alarms_30 h_this rfl ?_
      refine s_icmp_ge 51 15 rfl rfl (by decide) (fun c2 => ?_) (fun c2 => ?_)
      -- Alarms_closedOf 15: branch 51 15
      · exact absurd (nn_le c2) (by omega)
      · refine s_lload_n 16 rfl rfl rfl ?_
        refine s_iload 18 rfl rfl rfl ?_
        refine s_lushr 19 rfl rfl ?_
        refine s_lconst 1 20 rfl rfl (by decide) ?_
        refine s_land 21 rfl rfl ?_
        -- Alarms_closedOf 21: end
        rw [l_tsu s (by omega)]
        refine s_lconst 0 22 rfl rfl (by decide) ?_
        refine s_lcmp 23 rfl rfl ?_
        -- Alarms_closedOf 23: end
        rw [l_c0]
        refine s_if_eq 45 26 rfl rfl (by decide) (fun c3 => ?_) (fun c3 => ?_)
        -- Alarms_closedOf 26: branch 45 26
        · rw [i01] at c3
          rw [if_neg (by simp [c3])] at nx
          refine s_inc6 _ 48 rfl rfl rfl rfl ?_
          refine s_goto 6 rfl (by decide) ?_
          -- Alarms_closedOf 6: end
          rw [inc1]
          exact nx
        · rw [i01] at c3
          have c3 : lb s i = true := by simpa using c3
          refine s_aload_n 27 rfl rfl rfl ?_
          refine s_iload 29 rfl rfl rfl ?_
          refine s_iload_n 30 rfl rfl rfl ?_
          refine c_callV2 h 33 rfl rfl mv_Alarms_44 (by omega) (Nat.le_of_ble_eq_true rfl) (Nat.le_of_ble_eq_true rfl) h_this rfl rfl ?_
          -- Alarms_closedOf 33: call Alarms_isClosed
          refine m_Alarms_isClosed h_this h_wants (by omega) ?_
          dsimp only [ax_rs]
          refine s_if_eq 45 36 rfl rfl (by decide) (fun c4 => ?_) (fun c4 => ?_)
          -- Alarms_closedOf 36: branch 45 36
          · rw [bi_0] at c4
            rw [if_neg (by simp [c4])] at nx
            refine s_inc6 _ 48 rfl rfl rfl rfl ?_
            refine s_goto 6 rfl (by decide) ?_
            -- Alarms_closedOf 6: end
            rw [inc1]
            exact nx
          · rw [bi_0] at c4
            have c4 : cz (wa i) k = true := by simpa using c4
            rw [if_pos (by simp [c3, c4])] at nx
            refine s_lload 38 rfl rfl rfl ?_
            refine s_lconst 1 39 rfl rfl (by decide) ?_
            refine s_iload 41 rfl rfl rfl ?_
            refine s_lshl 42 rfl rfl ?_
            refine s_lor 43 rfl rfl ?_
            refine s_lst4 45 rfl rfl rfl ?_
            refine s_inc6 _ 48 rfl rfl rfl rfl ?_
            refine s_goto 6 rfl (by decide) ?_
            -- Alarms_closedOf 6: end
            rw [inc1]
            exact nx
  exact loop n 0 (by omega)
theorem m_Alarms_isToldSo {x y p q : Int32} (h_this : oC M 9 0 (al_f n)) (h_line : iA M 10 50 li) (h_kind : iA M 11 50 ki) (h_p : iA M 13 50 pp) (h_q : iA M 14 50 qq) (h_state : iA M 15 50 st) (hn : n ≤ 50) (hq : ∀ b : Bool, (b = true ↔ ∃ i, i < n ∧ (st i ≠ 2 ∧ li i = x ∧ ki i = y) ∧ (∀ j, j < i → ¬ (st j ≠ 2 ∧ li j = x ∧ ki j = y)) ∧ st i = 0 ∧ pp i = p ∧ qq i = q) → Q (some (.int (bi (b = true)))) M) : ax_G g mt_Alarms_isToldSo (h + 1) 0 0 0 [.ref 9, .int x, .int y, .int p, .int q, .float 0] [] M Q := by
  refine s_aload_n 1 rfl rfl rfl ?_
  refine s_iload_n 2 rfl rfl rfl ?_
  refine s_iload_n 3 rfl rfl rfl ?_
  refine c_callV2 h 6 rfl rfl mv_Alarms_48 (by omega) (Nat.le_of_ble_eq_true rfl) (Nat.le_of_ble_eq_true rfl) h_this rfl rfl ?_
  -- Alarms_isToldSo 6: call Alarms_find
  refine m_Alarms_find h_this h_line h_kind h_state hn (fun r hr => ?_)
  dsimp only [ax_rs]
  rcases hr with ⟨i, hi, hp, hf, rfl⟩ | ⟨hf, rfl⟩
  · have un : ∀ i2, i2 < n → (st i2 ≠ 2 ∧ li i2 = x ∧ ki i2 = y) → (∀ j, j < i2 → ¬ (st j ≠ 2 ∧ li j = x ∧ ki j = y)) → i2 = i := by
      intro i2 h1 h2 h3
      rcases Nat.lt_trichotomy i2 i with q | q | q
      · exact absurd h2 (hf i2 q)
      · exact q
      · exact absurd hp (h3 i q)
    have no : ∀ P : Prop, (st i = 0 → pp i = p → qq i = q → P) → (¬ P) → Q (some (.int 0)) M := by
      intro P h1 h2
      have := hq false ⟨fun z => (by cases z), fun ⟨i2, a1, a2, a3, a4, a5, a6⟩ => by
        obtain rfl := un i2 a1 a2 a3
        exact absurd (h1 a4 a5 a6) h2⟩
      exact this
    refine s_ist5 8 rfl rfl rfl ?_
    refine s_iload 10 rfl rfl rfl ?_
    refine s_iconst (-1) 11 rfl rfl (by decide) ?_
    refine s_icmp_eq 51 14 rfl rfl (by decide) (fun c1 => ?_) (fun c1 => ?_)
    -- Alarms_isToldSo 14: branch 51 14
    · exact absurd c1 (nn_m1 (by omega))
    · refine s_aload_n 15 rfl rfl rfl ?_
      refine s_getfield 0 5 18 rfl rfl fl_Alarms_27 h_this rfl ?_
      refine s_iload 20 rfl rfl rfl ?_
      refine s_iaload (i) 21 rfl rfl h_state rfl (by omega) (by decide) ?_
      refine s_if_ne 51 24 rfl rfl (by decide) (fun c2 => ?_) (fun c2 => ?_)
      -- Alarms_isToldSo 24: branch 51 24
      · refine s_iconst 0 52 rfl rfl (by decide) ?_
        -- Alarms_isToldSo 52: ireturn
        exact s_ireturn rfl .boolean rfl rfl (no (st i = 0) (fun a _ _ => a) c2)
      · refine s_aload_n 25 rfl rfl rfl ?_
        refine s_getfield 0 3 28 rfl rfl fl_Alarms_21 h_this rfl ?_
        refine s_iload 30 rfl rfl rfl ?_
        refine s_iaload (i) 31 rfl rfl h_p rfl (by omega) (by decide) ?_
        refine s_iload_n 32 rfl rfl rfl ?_
        refine s_icmp_ne 51 35 rfl rfl (by decide) (fun c3 => ?_) (fun c3 => ?_)
        -- Alarms_isToldSo 35: branch 51 35
        · refine s_iconst 0 52 rfl rfl (by decide) ?_
          -- Alarms_isToldSo 52: ireturn
          exact s_ireturn rfl .boolean rfl rfl (no (pp i = p) (fun _ a _ => a) c3)
        · refine s_aload_n 36 rfl rfl rfl ?_
          refine s_getfield 0 4 39 rfl rfl fl_Alarms_24 h_this rfl ?_
          refine s_iload 41 rfl rfl rfl ?_
          refine s_iaload (i) 42 rfl rfl h_q rfl (by omega) (by decide) ?_
          refine s_iload 44 rfl rfl rfl ?_
          refine s_icmp_ne 51 47 rfl rfl (by decide) (fun c4 => ?_) (fun c4 => ?_)
          -- Alarms_isToldSo 47: branch 51 47
          · refine s_iconst 0 52 rfl rfl (by decide) ?_
            -- Alarms_isToldSo 52: ireturn
            exact s_ireturn rfl .boolean rfl rfl (no (qq i = q) (fun _ _ a => a) c4)
          · refine s_iconst 1 48 rfl rfl (by decide) ?_
            refine s_goto 52 rfl (by decide) ?_
            -- Alarms_isToldSo 52: ireturn
            exact s_ireturn rfl .boolean rfl rfl (hq true ⟨fun _ => ⟨i, hi, hp, hf, c2, c3, c4⟩, fun _ => rfl⟩)
  · skip
    refine s_ist5 8 rfl rfl rfl ?_
    refine s_iload 10 rfl rfl rfl ?_
    refine s_iconst (-1) 11 rfl rfl (by decide) ?_
    refine s_icmp_eq 51 14 rfl rfl (by decide) (fun c5 => ?_) (fun c5 => ?_)
    -- Alarms_isToldSo 14: branch 51 14
    · refine s_iconst 0 52 rfl rfl (by decide) ?_
      -- Alarms_isToldSo 52: ireturn
      exact s_ireturn rfl .boolean rfl rfl (hq false ⟨fun z => (by cases z), fun ⟨i2, a1, a2, _⟩ => absurd a2 (hf i2 a1)⟩)
    · exact absurd rfl c5
end ALARMS
