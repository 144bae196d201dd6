/-! Lines, Silence -/
section LINES
variable {g : ax_Y} {M : ax_M} {Q : Option Value → ax_M → Prop} {h a fa ma ba n : Nat} {ff mf bf : Nat → Int32}
theorem m_Lines_has {x : Int32} (h_this : M.2 a = some (.inr (2, [.ref fa, .ref ma, .ref ba, .int (nI n)]))) (hq : Q (some (.int (bi (¬ x < 0 ∧ ¬ nI n ≤ x)))) M) : ax_G g mt_Lines_has h 0 0 0 [.ref a, .int x] [] M Q := by
  refine s_iload_n 1 rfl rfl rfl ?_
  refine s_if_lt 16 4 rfl rfl (by decide) (fun c1 => ?_) (fun c1 => ?_)
  -- Lines_has 4: branch 16 4
  · rw [bi_f (fun q => q.1 c1)] at hq
    refine s_iconst 0 17 rfl rfl (by decide) ?_
    -- Lines_has 17: ireturn
    exact s_ireturn rfl .boolean rfl rfl (hq)
  · refine s_iload_n 5 rfl rfl rfl ?_
    refine s_aload_n 6 rfl rfl rfl ?_
    refine s_getfield 2 3 9 rfl rfl fl_Lines_21 h_this rfl ?_
    refine s_icmp_ge 16 12 rfl rfl (by decide) (fun c2 => ?_) (fun c2 => ?_)
    -- Lines_has 12: branch 16 12
    · rw [bi_f (fun q => q.2 c2)] at hq
      refine s_iconst 0 17 rfl rfl (by decide) ?_
      -- Lines_has 17: ireturn
      exact s_ireturn rfl .boolean rfl rfl (hq)
    · rw [bi_t ⟨c1, c2⟩] at hq
      refine s_iconst 1 13 rfl rfl (by decide) ?_
      refine s_goto 17 rfl (by decide) ?_
      -- Lines_has 17: ireturn
      exact s_ireturn rfl .boolean rfl rfl (hq)
theorem m_Lines_clear (h_this : M.2 a = some (.inr (2, [.ref fa, .ref ma, .ref ba, .int (nI n)]))) (hq : Q none (ax_put M a (.inr (2, [.ref fa, .ref ma, .ref ba, .int (nI 0)])))) : ax_G g mt_Lines_clear h 0 0 0 [.ref a] [] M Q := by
  refine s_aload_n 1 rfl rfl rfl ?_
  refine s_iconst 0 2 rfl rfl (by decide) ?_
  refine s_putfield 2 3 (.int) 5 rfl rfl fp_Lines_21 h_this (Nat.le_of_ble_eq_true rfl) ⟨rfl, rfl⟩ (fun h => absurd h (by decide)) ?_
  -- Lines_clear 5: return_
  exact s_return rfl rfl (hq)
/-- a line more -/
def ln_ad (M : ax_M) (a fa ma ba n : Nat) (ff mf bf : Nat → Int32) (x y : Int32) : ax_M := ax_put (ax_put (ax_put (ax_put M fa (.inl (0, 40, .inl (upd ff n x)))) ma (.inl (0, 40, .inl (upd mf n y)))) ba (.inl (0, 40, .inl (upd bf n (-1))))) a (.inr (2, [.ref fa, .ref ma, .ref ba, .int (nI (n + 1))]))
theorem m_Lines_add {x y : Int32} (h_this : M.2 a = some (.inr (2, [.ref fa, .ref ma, .ref ba, .int (nI n)]))) (h_file : M.2 fa = some (.inl (0, 40, .inl ff))) (h_mark : M.2 ma = some (.inl (0, 40, .inl mf))) (h_before : M.2 ba = some (.inl (0, 40, .inl bf))) (n_mark_file : ma ≠ fa) (n_before_file : ba ≠ fa) (n_before_mark : ba ≠ ma) (hn : n < 40)
    (hq : Q none (ln_ad M a fa ma ba n ff mf bf x y)) : ax_G g mt_Lines_add h 0 0 0 [.ref a, .int x, .int y] [] M Q := by
  have n_this_file : a ≠ fa := ax_apart h_this h_file (by simp)
  have n_this_mark : a ≠ ma := ax_apart h_this h_mark (by simp)
  have n_this_before : a ≠ ba := ax_apart h_this h_before (by simp)
  have n_file_mark := n_mark_file.symm
  have n_file_before := n_before_file.symm
  have n_mark_before := n_before_mark.symm
  refine s_aload_n 1 rfl rfl rfl ?_
  refine s_getfield 2 3 4 rfl rfl fl_Lines_21 h_this rfl ?_
  refine s_bipush 40 6 rfl rfl (by decide) ?_
  refine s_icmp_ge 49 9 rfl rfl (by decide) (fun c1 => ?_) (fun c1 => ?_)
  -- Lines_add 9: branch 49 9
  · exact absurd (nn_le (a := 40) c1) (by omega)
  · refine s_aload_n 10 rfl rfl rfl ?_
    refine s_getfield 2 0 13 rfl rfl fl_Lines_9 h_this rfl ?_
    refine s_aload_n 14 rfl rfl rfl ?_
    refine s_getfield 2 3 17 rfl rfl fl_Lines_21 h_this rfl ?_
    refine s_iload_n 18 rfl rfl rfl ?_
    refine s_iastore (n) 19 rfl rfl h_file rfl (by omega) (by decide) ?_
    refine s_aload_n 20 rfl rfl rfl ?_
    refine s_getfield 2 1 23 rfl rfl fl_Lines_15 (ax_ne n_this_file h_this) rfl ?_
    refine s_aload_n 24 rfl rfl rfl ?_
    refine s_getfield 2 3 27 rfl rfl fl_Lines_21 (ax_ne n_this_file h_this) rfl ?_
    refine s_iload_n 28 rfl rfl rfl ?_
    refine s_iastore (n) 29 rfl rfl (ax_ne n_mark_file h_mark) rfl (by omega) (by decide) ?_
    refine s_aload_n 30 rfl rfl rfl ?_
    refine s_getfield 2 2 33 rfl rfl fl_Lines_18 (ax_ne n_this_mark (ax_ne n_this_file h_this)) rfl ?_
    refine s_aload_n 34 rfl rfl rfl ?_
    refine s_getfield 2 3 37 rfl rfl fl_Lines_21 (ax_ne n_this_mark (ax_ne n_this_file h_this)) rfl ?_
    refine s_iconst (-1) 38 rfl rfl (by decide) ?_
    refine s_iastore (n) 39 rfl rfl (ax_ne n_before_mark (ax_ne n_before_file h_before)) rfl (by omega) (by decide) ?_
    refine s_aload_n 40 rfl rfl rfl ?_
    refine s_dup 41 rfl rfl rfl ?_
    refine s_getfield 2 3 44 rfl rfl fl_Lines_21 (ax_ne n_this_before (ax_ne n_this_mark (ax_ne n_this_file h_this))) rfl ?_
    refine s_iconst 1 45 rfl rfl (by decide) ?_
    refine s_iadd 46 rfl rfl ?_
    refine s_putfield 2 3 (.int) 49 rfl rfl fp_Lines_21 (ax_ne n_this_before (ax_ne n_this_mark (ax_ne n_this_file h_this))) (Nat.le_of_ble_eq_true rfl) ⟨rfl, rfl⟩ (fun h => absurd h (by decide)) ?_
    -- Lines_add 49: return_
    rw [nI_1]
    exact s_return rfl rfl (hq)
theorem m_Lines_fileOf {x : Int32} (h_this : M.2 a = some (.inr (2, [.ref fa, .ref ma, .ref ba, .int (nI n)]))) (h_file : M.2 fa = some (.inl (0, 40, .inl ff))) (hn : n ≤ 40) (hq : Q (some (.int (if ¬ x < 0 ∧ ¬ nI n ≤ x then ff x.toNatClampNeg else -1))) M) : ax_G g mt_Lines_fileOf h 0 0 0 [.ref a, .int x] [] M Q := by
  refine s_iload_n 1 rfl rfl rfl ?_
  refine s_if_lt 21 4 rfl rfl (by decide) (fun c1 => ?_) (fun c1 => ?_)
  -- Lines_fileOf 4: branch 21 4
  · rw [if_neg (fun q => q.1 c1)] at hq
    refine s_iconst (-1) 22 rfl rfl (by decide) ?_
    -- Lines_fileOf 22: ireturn
    exact s_ireturn rfl .int rfl rfl (hq)
  · refine s_iload_n 5 rfl rfl rfl ?_
    refine s_aload_n 6 rfl rfl rfl ?_
    refine s_getfield 2 3 9 rfl rfl fl_Lines_21 h_this rfl ?_
    refine s_icmp_ge 21 12 rfl rfl (by decide) (fun c2 => ?_) (fun c2 => ?_)
    -- Lines_fileOf 12: branch 21 12
    · rw [if_neg (fun q => q.2 c2)] at hq
      refine s_iconst (-1) 22 rfl rfl (by decide) ?_
      -- Lines_fileOf 22: ireturn
      exact s_ireturn rfl .int rfl rfl (hq)
    · rw [if_pos ⟨c1, c2⟩] at hq
      obtain ⟨j, hj, rfl⟩ := nI_of c1
      have hjn := nn_nle c2
      rw [nI_clamp hj] at hq
      refine s_aload_n 13 rfl rfl rfl ?_
      refine s_getfield 2 0 16 rfl rfl fl_Lines_9 h_this rfl ?_
      refine s_iload_n 17 rfl rfl rfl ?_
      refine s_iaload (j) 18 rfl rfl h_file rfl (by omega) (by decide) ?_
      refine s_goto 22 rfl (by decide) ?_
      -- Lines_fileOf 22: ireturn
      exact s_ireturn rfl .int rfl rfl (hq)
/-- the first place below n at which p holds, from i on; n if there is none -/
def fst_ (p : Nat → Bool) (n : Nat) : Nat → Nat → Nat
  | 0, i => i
  | d + 1, i => if p i then i else fst_ p n d (i + 1)
theorem m_Lines_laterOf {x : Nat} (h_this : M.2 a = some (.inr (2, [.ref fa, .ref ma, .ref ba, .int (nI n)]))) (h_before : M.2 ba = some (.inl (0, 40, .inl bf))) (hn : n ≤ 40) (hx : x < 65536) (hq : ∀ r : Int32, ((∃ i, i < n ∧ bf i = nI x ∧ (∀ j, j < i → bf j ≠ nI x) ∧ r = nI i) ∨ ((∀ j, j < n → bf j ≠ nI x) ∧ r = -1)) → Q (some (.int r)) M) : ax_G g mt_Lines_laterOf h 0 0 0 [.ref a, .int (nI x), .float 0] [] M Q := by
  refine s_iload_n 1 rfl rfl rfl ?_
  refine s_if_ge 6 4 rfl rfl (by decide) (fun c1 => ?_) (fun c1 => ?_)
  -- Lines_laterOf 4: branch 6 4
  · refine s_iconst 0 7 rfl rfl (by decide) ?_
    refine s_ist2 8 rfl rfl rfl ?_
    -- Lines_laterOf 8: end
    have loop : ∀ (d i : Nat), i + d = n → (∀ j, j < i → bf j ≠ nI x) → ax_G g mt_Lines_laterOf h 0 0 8 [.ref a, .int (nI x), .int (nI i)] [] M Q := by
      intro d
      induction d with
      | zero =>
        intro i hi hb
        obtain rfl : i = n := by omega
        refine s_iload_n 9 rfl rfl rfl ?_
        refine s_aload_n 10 rfl rfl rfl ?_
        refine s_getfield 2 3 13 rfl rfl fl_Lines_21 h_this rfl ?_
        refine s_icmp_ge 34 16 rfl rfl (by decide) (fun c2 => ?_) (fun c2 => ?_)
        -- Lines_laterOf 16: branch 34 16
        · refine s_iconst (-1) 35 rfl rfl (by decide) ?_
          -- Lines_laterOf 35: ireturn
          exact s_ireturn rfl .int rfl rfl (hq _ (Or.inr ⟨hb, rfl⟩))
        · exact absurd (nn_nle c2) (by omega)
      | succ d ih =>
        intro i hi hb
        refine s_iload_n 9 rfl rfl rfl ?_
        refine s_aload_n 10 rfl rfl rfl ?_
        refine s_getfield 2 3 13 rfl rfl fl_Lines_21 h_this rfl ?_
        refine s_icmp_ge 34 16 rfl rfl (by decide) (fun c3 => ?_) (fun c3 => ?_)
        -- Lines_laterOf 16: branch 34 16
        · exact absurd (nn_le c3) (by omega)
        · refine s_aload_n 17 rfl rfl rfl ?_
          refine s_getfield 2 2 20 rfl rfl fl_Lines_18 h_this rfl ?_
          refine s_iload_n 21 rfl rfl rfl ?_
          refine s_iaload (i) 22 rfl rfl h_before rfl (by omega) (by decide) ?_
          refine s_iload_n 23 rfl rfl rfl ?_
          refine s_icmp_ne 28 26 rfl rfl (by decide) (fun c4 => ?_) (fun c4 => ?_)
          -- Lines_laterOf 26: branch 28 26
          · refine s_inc2 _ 31 rfl rfl rfl rfl ?_
            refine s_goto 8 rfl (by decide) ?_
            -- Lines_laterOf 8: end
            rw [show nI i + Int32.ofInt 1 = nI (i + 1) from nI_1 i]
            refine ih (i + 1) (by omega) (fun j hj => ?_)
            rcases Nat.lt_or_ge j i with q | q
            · exact hb j q
            · obtain rfl : j = i := by omega
              exact c4
          · refine s_iload_n 27 rfl rfl rfl ?_
            -- Lines_laterOf 27: ireturn
            exact s_ireturn rfl .int rfl rfl (hq _ (Or.inl ⟨i, by omega, c4, hb, rfl⟩))
    exact loop n 0 (by omega) (fun j hj => by omega)
  · exact absurd (nI_pos' (by omega)) c1
/-- the bits that f tells, below n -/
def lset (p : Nat → Bool) : Nat → Int64
  | 0 => 0
  | i + 1 => if p i then lset p i ||| ((1 : Int64) <<< ((nI i).toInt64 &&& 63)) else lset p i
theorem lset_b (p : Nat → Bool) : ∀ (n : Nat), n ≤ 64 → ∀ i, i < 64 → lb (lset p n) i = (decide (i < n) && p i) := by
  intro n
  induction n with
  | zero => intro _ i _; simp [lset, l_0]
  | succ n ih =>
    intro hn i hi
    unfold lset
    by_cases hp : p n = true
    · rw [if_pos hp, l_or, l_one n (by omega) hi, ih (by omega) i hi]
      by_cases h1 : i = n
      · subst h1; simp [hp]
      · by_cases h2 : i < n
        · simp [h1, h2, Nat.lt_succ_of_lt h2]
        · simp [h1, h2]; omega
    · rw [if_neg hp, ih (by omega) i hi]
      by_cases h1 : i = n
      · subst h1; simp [hp]
      · by_cases h2 : i < n
        · simp [h2, Nat.lt_succ_of_lt h2]
        · simp [h2]; omega
theorem m_Lines_laterSet {w : Int64} (h_this : M.2 a = some (.inr (2, [.ref fa, .ref ma, .ref ba, .int (nI n)]))) (h_before : M.2 ba = some (.inl (0, 40, .inl bf))) (hn : n ≤ 40) (hb : ∀ i, i < n → bf i = -1 ∨ ∃ k : Nat, k < 40 ∧ bf i = nI k) (hq : Q (some (.long (lset (fun i => decide (¬ bf i < 0) && lb w (bf i).toNatClampNeg) n))) M) : ax_G g mt_Lines_laterSet h 0 0 0 [.ref a, .long w, .float 0, .float 0, .float 0, .float 0] [] M Q := by
  refine s_lconst 0 1 rfl rfl (by decide) ?_
  refine s_lst3 2 rfl rfl rfl ?_
  refine s_iconst 0 3 rfl rfl (by decide) ?_
  refine s_ist5 5 rfl rfl rfl ?_
  -- Lines_laterSet 5: end
  have loop : ∀ (d i : Nat), i + d = n → ax_G g mt_Lines_laterSet h 0 0 5 [.ref a, .long w, .float 0, .long (lset (fun i => decide (¬ bf i < 0) && lb w (bf i).toNatClampNeg) i), .float 0, .int (nI i)] [] M Q := by
    intro d
    induction d with
    | zero =>
      intro i hi
      obtain rfl : i = n := by omega
      refine s_iload 7 rfl rfl rfl ?_
      refine s_aload_n 8 rfl rfl rfl ?_
      refine s_getfield 2 3 11 rfl rfl fl_Lines_21 h_this rfl ?_
      refine s_icmp_ge 53 14 rfl rfl (by decide) (fun c1 => ?_) (fun c1 => ?_)
      -- Lines_laterSet 14: branch 53 14
      · refine s_lload_n 54 rfl rfl rfl ?_
        -- Lines_laterSet 54: lreturn
        exact s_lreturn rfl rfl (hq)
      · exact absurd (nn_nle c1) (by omega)
    | succ d ih =>
      intro i hi
      have nx := ih (i + 1) (by omega)
      rw [lset] at nx
      refine s_iload 7 rfl rfl rfl ?_
      refine s_aload_n 8 rfl rfl rfl ?_
      refine s_getfield 2 3 11 rfl rfl fl_Lines_21 h_this rfl ?_
      refine s_icmp_ge 53 14 rfl rfl (by decide) (fun c2 => ?_) (fun c2 => ?_)
      -- Lines_laterSet 14: branch 53 14
      · exact absurd (nn_le c2) (by omega)
      · refine s_aload_n 15 rfl rfl rfl ?_
        refine s_getfield 2 2 18 rfl rfl fl_Lines_18 h_this rfl ?_
        refine s_iload 20 rfl rfl rfl ?_
        refine s_iaload (i) 21 rfl rfl h_before rfl (by omega) (by decide) ?_
        refine s_if_lt 47 24 rfl rfl (by decide) (fun c3 => ?_) (fun c3 => ?_)
        -- Lines_laterSet 24: branch 47 24
        · rw [if_neg (by simp [c3])] at nx
          refine s_inc5 _ 50 rfl rfl rfl rfl ?_
          refine s_goto 5 rfl (by decide) ?_
          -- Lines_laterSet 5: end
          rw [show nI i + Int32.ofInt 1 = nI (i + 1) from nI_1 i]
          exact nx
        · obtain ⟨k, hk, e⟩ : ∃ k : Nat, k < 40 ∧ bf i = nI k := by
            rcases hb i (by omega) with q | q
            · rw [q] at c3; exact absurd (by decide) c3
            · exact q
          rw [e, nI_clamp (by omega)] at nx
          rw [e] at c3
          refine s_lload_n 25 rfl rfl rfl ?_
          refine s_aload_n 26 rfl rfl rfl ?_
          refine s_getfield 2 2 29 rfl rfl fl_Lines_18 h_this rfl ?_
          refine s_iload 31 rfl rfl rfl ?_
          refine s_iaload (i) 32 rfl rfl h_before rfl (by omega) (by decide) ?_
          -- Lines_laterSet 32: end
          rw [e]
          refine s_lushr 33 rfl rfl ?_
          refine s_lconst 1 34 rfl rfl (by decide) ?_
          refine s_land 35 rfl rfl ?_
          -- Lines_laterSet 35: end
          rw [l_tsu w (by omega)]
          refine s_lconst 0 36 rfl rfl (by decide) ?_
          refine s_lcmp 37 rfl rfl ?_
          -- Lines_laterSet 37: end
          rw [l_c0]
          refine s_if_eq 47 40 rfl rfl (by decide) (fun c4 => ?_) (fun c4 => ?_)
          -- Lines_laterSet 40: branch 47 40
          · rw [i01] at c4
            rw [if_neg (by simp [c4])] at nx
            refine s_inc5 _ 50 rfl rfl rfl rfl ?_
            refine s_goto 5 rfl (by decide) ?_
            -- Lines_laterSet 5: end
            rw [show nI i + Int32.ofInt 1 = nI (i + 1) from nI_1 i]
            exact nx
          · rw [i01] at c4
            rw [if_pos (by simp [c3]; simpa using c4)] at nx
            refine s_lload_n 41 rfl rfl rfl ?_
            refine s_lconst 1 42 rfl rfl (by decide) ?_
            refine s_iload 44 rfl rfl rfl ?_
            refine s_lshl 45 rfl rfl ?_
            refine s_lor 46 rfl rfl ?_
            refine s_lst3 47 rfl rfl rfl ?_
            refine s_inc5 _ 50 rfl rfl rfl rfl ?_
            refine s_goto 5 rfl (by decide) ?_
            -- Lines_laterSet 5: end
            rw [show nI i + Int32.ofInt 1 = nI (i + 1) from nI_1 i]
            exact nx
  exact loop n 0 (by omega)
end LINES
