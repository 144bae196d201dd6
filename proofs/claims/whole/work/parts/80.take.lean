/-! what takes tokens: the class -/
theorem tk_5 (T : Nat → Int32) (p : Nat) : (tk_ T p).1 ≤ 5 := by
  unfold tk_
  repeat' split
  all_goals first
    | (show (1 : Nat) ≤ 5; decide)
    | (show (0 : Nat) ≤ 5; decide)
    | (show (4 : Nat) ≤ 5; decide)
    | (show (5 : Nat) ≤ 5; decide)
    | (show (2 : Nat) ≤ 5; decide)
    | (show (3 : Nat) ≤ 5; decide)
theorem ti_5 (T : Nat → Int32) (k : Nat) : (ti_ T k).1 ≤ 5 := by
  cases k with
  | zero => exact tk_5 T 0
  | succ k => exact tk_5 T _
/-- a token is text i -/
def iw_ (T : Nat → Int32) (t : Nat × Nat × Nat) (i : Nat) : Bool := decide (t.1 = 1 ∧ t.2.2 - t.2.1 = ax_sln.getD i 0 ∧ ∀ j, j < ax_sln.getD i 0 → T (t.2.1 + j) = sb_ i j)
/-- a number's value -/
def nv_ (T : Nat → Int32) (q : Nat) : Nat → Int32
  | 0 => 0
  | l + 1 => nv_ T q l * 10 + T (q + l) - 48
abbrev vt_ (T : Nat → Int32) (t : Nat × Nat × Nat) : Int32 := nv_ T t.2.1 (t.2.2 - t.2.1)
def nu_ (T : Nat → Int32) (t : Nat × Nat × Nat) (lo hi : Int32) : Bool := decide (t.1 = 2 ∧ lo ≤ vt_ T t ∧ vt_ T t ≤ hi)
abbrev tN (N : ax_M) (sz k : Nat) : ax_M := oP N 24 10 (tk_f (nI sz) (nI k))
section TAKE
variable {g : ax_Y} {N : ax_M} {Q : Option Value → ax_M → Prop} {h n sz k : Nat} {f1 f2 so sa se : Nat → Int32}
theorem TK_.b (hT : TK_ N f1 f2 n sz so sa se) (hk : k < sz) : k ≤ (ti_ (tb_ f2 n) k).2.1 ∧ (ti_ (tb_ f2 n) k).2.1 ≤ n ∧ ((ti_ (tb_ f2 n) k).1 ≠ 0 → (ti_ (tb_ f2 n) k).1 ≠ 5 → k + 1 < sz ∧ (ti_ (tb_ f2 n) k).2.1 < (ti_ (tb_ f2 n) k).2.2 ∧ (ti_ (tb_ f2 n) k).2.2 ≤ n) := by
  obtain ⟨a1, a2, a3, a4, a5, a6, a7, a8, a9, a10, a11⟩ := hT
  obtain ⟨b1, b2, b3, b4, b5⟩ := ti_b (f := f2) (n := n) (by_f a3) a4 k (fun j hj => a10 j (by omega))
  refine ⟨b1, b2, fun w1 w2 => ?_⟩
  obtain ⟨c1, c2⟩ := b4 w1 w2
  refine ⟨?_, c1, c2⟩
  by_cases z : k + 1 < sz
  · exact z
  · rw [show sz - 1 = k by omega] at a11
    rcases a11 with a11 | a11
    · exact absurd a11 w1
    · exact absurd a11 w2
theorem m_Tokens_standsAt {c : Nat} (h_this : oC N 24 10 (tk_f (nI sz) (nI k))) (hT : TK_ N f1 f2 n sz so sa se) (hk : k < sz) (hc : c < 65536) (hq : Q (some (.int (bi ((ti_ (tb_ f2 n) k).1 = c)))) N) : ax_G g mt_Tokens_standsAt h 0 0 0 [.ref 24, .int (nI c)] [] N Q := by
  have t5 := ti_5 (tb_ f2 n) k
  obtain ⟨a1, a2, a3, a4, h_sorts, h_starts, h_ends, a8, a9, a10, a11⟩ := hT
  obtain ⟨e1, e2, e3⟩ := a9 k hk
  refine s_aload_n 1 rfl rfl rfl ?_
  refine s_getfield 10 1 4 rfl rfl fl_Tokens_20 h_this rfl ?_
  refine s_aload_n 5 rfl rfl rfl ?_
  refine s_getfield 10 5 8 rfl rfl fl_Tokens_44 h_this rfl ?_
  refine s_iaload (k) 9 rfl rfl h_sorts rfl (by omega) (by decide) ?_
  -- Tokens_standsAt 9: end
  rw [e1]
  refine s_iload_n 10 rfl rfl rfl ?_
  refine s_icmp_ne 17 13 rfl rfl (by decide) (fun c1 => ?_) (fun c1 => ?_)
  -- Tokens_standsAt 13: branch 17 13
  · rw [bi_f (fun q => c1 (by rw [q]))] at hq
    refine s_iconst 0 18 rfl rfl (by decide) ?_
    -- Tokens_standsAt 18: ireturn
    exact s_ireturn rfl .boolean rfl rfl (hq)
  · rw [bi_t (nn_eq c1)] at hq
    refine s_iconst 1 14 rfl rfl (by decide) ?_
    refine s_goto 18 rfl (by decide) ?_
    -- Tokens_standsAt 18: ireturn
    exact s_ireturn rfl .boolean rfl rfl (hq)
theorem m_Tokens_start (h_this : oC N 24 10 (tk_f (nI sz) (nI k))) (hT : TK_ N f1 f2 n sz so sa se) (hk : k < sz) (hq : Q (some (.int (nI (ti_ (tb_ f2 n) k).2.1))) N) : ax_G g mt_Tokens_start h 0 0 0 [.ref 24] [] N Q := by
  obtain ⟨a1, a2, a3, a4, h_sorts, h_starts, h_ends, a8, a9, a10, a11⟩ := hT
  obtain ⟨e1, e2, e3⟩ := a9 k hk
  refine s_aload_n 1 rfl rfl rfl ?_
  refine s_getfield 10 2 4 rfl rfl fl_Tokens_24 h_this rfl ?_
  refine s_aload_n 5 rfl rfl rfl ?_
  refine s_getfield 10 5 8 rfl rfl fl_Tokens_44 h_this rfl ?_
  refine s_iaload (k) 9 rfl rfl h_starts rfl (by omega) (by decide) ?_
  -- Tokens_start 9: end
  rw [e2]
  exact s_ireturn rfl .int rfl rfl (hq)
theorem m_Tokens_advance (h_this : oC N 24 10 (tk_f (nI sz) (nI k))) (hk : k + 1 < sz) (hs : sz ≤ 161) (hq : Q none (tN N sz (k + 1))) : ax_G g mt_Tokens_advance h 0 0 0 [.ref 24] [] N Q := by
  refine s_aload_n 1 rfl rfl rfl ?_
  refine s_getfield 10 5 4 rfl rfl fl_Tokens_44 h_this rfl ?_
  refine s_aload_n 5 rfl rfl rfl ?_
  refine s_getfield 10 4 8 rfl rfl fl_Tokens_41 h_this rfl ?_
  refine s_iconst 1 9 rfl rfl (by decide) ?_
  refine s_isub 10 rfl rfl ?_
  -- Tokens_advance 10: end
  rw [show nI sz = nI (sz - 1 + 1) by rw [show sz - 1 + 1 = sz by omega], nI_pred]
  refine s_icmp_ge 23 13 rfl rfl (by decide) (fun c1 => ?_) (fun c1 => ?_)
  -- Tokens_advance 13: branch 23 13
  · exact absurd (nn_le c1) (by omega)
  · refine s_aload_n 14 rfl rfl rfl ?_
    refine s_dup 15 rfl rfl rfl ?_
    refine s_getfield 10 5 18 rfl rfl fl_Tokens_44 h_this rfl ?_
    refine s_iconst 1 19 rfl rfl (by decide) ?_
    refine s_iadd 20 rfl rfl ?_
    -- Tokens_advance 20: end
    rw [nI_1]
    refine s_putfield 10 5 (.int) 23 rfl rfl fp_Tokens_44 h_this (Nat.le_of_ble_eq_true rfl) ⟨rfl, rfl⟩ (fun h => absurd h (by decide)) ?_
    -- Tokens_advance 23: return_
    exact s_return rfl rfl (hq)
theorem m_Tokens_takeSemicolon (h_this : oC N 24 10 (tk_f (nI sz) (nI k))) (hT : TK_ N f1 f2 n sz so sa se) (hk : k < sz) (hq : Q (some (.int (if (ti_ (tb_ f2 n) k).1 = 4 then 1 else 0))) (tN N sz (if (ti_ (tb_ f2 n) k).1 = 4 then k + 1 else k))) : ax_G g mt_Tokens_takeSemicolon (h + 1) 0 0 0 [.ref 24] [] N Q := by
  obtain ⟨b1, b2, b3⟩ := hT.b hk
  refine s_aload_n 1 rfl rfl rfl ?_
  refine s_iconst 4 2 rfl rfl (by decide) ?_
  refine c_callV1 h 5 rfl rfl mv_Tokens_75 (by omega) (Nat.le_of_ble_eq_true rfl) (Nat.le_of_ble_eq_true rfl) h_this rfl rfl ?_
  -- Tokens_takeSemicolon 5: call Tokens_standsAt
  refine m_Tokens_standsAt (c := 4) h_this hT hk (by omega) ?_
  dsimp only [ax_rs]
  refine s_if_ne 10 8 rfl rfl (by decide) (fun c1 => ?_) (fun c1 => ?_)
  -- Tokens_takeSemicolon 8: branch 10 8
  · rw [bi_0, Classical.not_not] at c1
    rw [if_pos c1, if_pos c1] at hq
    refine s_aload_n 11 rfl rfl rfl ?_
    refine c_callV0 h 14 rfl rfl mv_Tokens_78 (by omega) (Nat.le_of_ble_eq_true rfl) (Nat.le_of_ble_eq_true rfl) h_this rfl rfl ?_
    -- Tokens_takeSemicolon 14: call Tokens_advance
    refine m_Tokens_advance h_this (b3 (by rw [c1]; decide) (by rw [c1]; decide)).1 hT.2.2.2.2.2.2.2.1.2 ?_
    dsimp only [ax_rs]
    refine s_iconst 1 15 rfl rfl (by decide) ?_
    -- Tokens_takeSemicolon 15: ireturn
    exact s_ireturn rfl .boolean rfl rfl (hq)
  · rw [bi_0] at c1
    rw [if_neg c1, if_neg c1] at hq
    unfold tN oP at hq
    rw [ax_id h_this] at hq
    refine s_iconst 0 9 rfl rfl (by decide) ?_
    -- Tokens_takeSemicolon 9: ireturn
    exact s_ireturn rfl .boolean rfl rfl (hq)
theorem m_Tokens_takeWord {i : Nat} (h10 : i < 10) (h_this : oC N 24 10 (tk_f (nI sz) (nI k))) (hT : TK_ N f1 f2 n sz so sa se) (hk : k < sz) (hq : Q (some (.int (if iw_ (tb_ f2 n) (ti_ (tb_ f2 n) k) i then 1 else 0))) (tN N sz (if iw_ (tb_ f2 n) (ti_ (tb_ f2 n) k) i then k + 1 else k))) : ax_G g mt_Tokens_takeWord (h + 4) 0 0 0 [.ref 24, .retAddr i, .float 0, .float 0] [] N Q := by
  obtain ⟨b1, b2, b3⟩ := hT.b hk
  have hT' := hT
  obtain ⟨h_text, h_bytes, hb, hn, h_sorts, h_starts, h_ends, a8, a9, a10, a11⟩ := hT
  have at_ : ∀ p, p ≤ n → rw_at f1 n (nI p) = tb_ f2 n p := fun p hp => tb_at hb (by omega) (by omega)
  obtain ⟨e1, e2, e3⟩ := a9 k hk
  have l8 := (sl_c i h10).1
  generalize ht : ti_ (tb_ f2 n) k = t at hq e1 e2 e3 b1 b2 b3
  have no : ¬ (t.1 = 1 ∧ t.2.2 - t.2.1 = ax_sln.getD i 0 ∧ ∀ j, j < ax_sln.getD i 0 → tb_ f2 n (t.2.1 + j) = sb_ i j) → Q (some (.int 0)) N := by
    intro w
    rw [show iw_ (tb_ f2 n) t i = false from decide_eq_false w] at hq
    unfold tN oP at hq
    rw [if_neg (by decide), if_neg (by decide), ax_id h_this] at hq
    exact hq
  refine s_aload_n 1 rfl rfl rfl ?_
  refine s_getfield 10 2 4 rfl rfl fl_Tokens_24 h_this rfl ?_
  refine s_aload_n 5 rfl rfl rfl ?_
  refine s_getfield 10 5 8 rfl rfl fl_Tokens_44 h_this rfl ?_
  refine s_iaload (k) 9 rfl rfl h_starts rfl (by omega) (by decide) ?_
  -- Tokens_takeWord 9: end
  rw [e2]
  refine s_ist2 10 rfl rfl rfl ?_
  refine s_aload_n 11 rfl rfl rfl ?_
  refine s_iconst 1 12 rfl rfl (by decide) ?_
  refine c_callV1 (h+3) 15 rfl rfl mv_Tokens_75 (by omega) (Nat.le_of_ble_eq_true rfl) (Nat.le_of_ble_eq_true rfl) h_this rfl rfl ?_
  -- Tokens_takeWord 15: call Tokens_standsAt
  refine m_Tokens_standsAt (c := 1) h_this hT' hk (by omega) ?_
  dsimp only [ax_rs]
  rw [ht]
  refine s_if_eq 36 18 rfl rfl (by decide) (fun c1 => ?_) (fun c1 => ?_)
  -- Tokens_takeWord 18: branch 36 18
  · rw [bi_0] at c1
    refine s_iconst 0 37 rfl rfl (by decide) ?_
    -- Tokens_takeWord 37: ireturn
    exact s_ireturn rfl .boolean rfl rfl (no (fun w => c1 w.1))
  · rw [bi_0, Classical.not_not] at c1
    obtain ⟨d1, d2, d3⟩ := b3 (by rw [c1]; decide) (by rw [c1]; decide)
    refine s_aload_n 19 rfl rfl rfl ?_
    refine s_getfield 10 3 22 rfl rfl fl_Tokens_27 h_this rfl ?_
    refine s_aload_n 23 rfl rfl rfl ?_
    refine s_getfield 10 5 26 rfl rfl fl_Tokens_44 h_this rfl ?_
    refine s_iaload (k) 27 rfl rfl h_ends rfl (by omega) (by decide) ?_
    -- Tokens_takeWord 27: end
    rw [e3 (by rw [c1]; decide) (by rw [c1]; decide)]
    refine s_iload_n 28 rfl rfl rfl ?_
    refine s_isub 29 rfl rfl ?_
    -- Tokens_takeWord 29: end
    rw [pk_sub (by omega)]
    refine s_xload_n 30 rfl rfl rfl ?_
    -- Tokens_takeWord 30: end
    refine c_text0 (h + 3) 33 rfl rfl mv_Tokens_81 (by omega) (Nat.le_of_ble_eq_true rfl) (Nat.le_of_ble_eq_true rfl) h10 rfl ?_
    refine m_String_length (h := h + 2) h10 ?_
    dsimp only [ax_rs]
    refine s_icmp_eq 38 36 rfl rfl (by decide) (fun c2 => ?_) (fun c2 => ?_)
    -- Tokens_takeWord 36: branch 38 36
    · have c2 := nn_eq c2
      refine s_iconst 0 39 rfl rfl (by decide) ?_
      refine s_ist3 40 rfl rfl rfl ?_
      -- Tokens_takeWord 40: end
      have loop : ∀ (d j : Nat), j + d = ax_sln.getD i 0 → (∀ m, m < j → tb_ f2 n (t.2.1 + m) = sb_ i m) → ax_G g mt_Tokens_takeWord (h + 4) 0 0 40 [.ref 24, .retAddr i, .int (nI t.2.1), .int (nI j)] [] N Q := by
        intro d
        induction d with
        | zero =>
          intro j hj hm
          have yes : iw_ (tb_ f2 n) t i = true := decide_eq_true ⟨c1, c2, fun m hm2 => hm m (by omega)⟩
          rw [yes, if_pos rfl, if_pos rfl] at hq
          refine s_iload_n 41 rfl rfl rfl ?_
          refine s_xload_n 42 rfl rfl rfl ?_
          -- Tokens_takeWord 42: end
          refine c_text0 (h + 3) 45 rfl rfl mv_Tokens_81 (by omega) (Nat.le_of_ble_eq_true rfl) (Nat.le_of_ble_eq_true rfl) h10 rfl ?_
          refine m_String_length (h := h + 2) h10 ?_
          dsimp only [ax_rs]
          refine s_icmp_ge 74 48 rfl rfl (by decide) (fun c3 => ?_) (fun c3 => ?_)
          -- Tokens_takeWord 48: branch 74 48
          · refine s_aload_n 75 rfl rfl rfl ?_
            refine c_callV0 (h+3) 78 rfl rfl mv_Tokens_78 (by omega) (Nat.le_of_ble_eq_true rfl) (Nat.le_of_ble_eq_true rfl) h_this rfl rfl ?_
            -- Tokens_takeWord 78: call Tokens_advance
            refine m_Tokens_advance h_this d1 a8.2 ?_
            dsimp only [ax_rs]
            refine s_iconst 1 79 rfl rfl (by decide) ?_
            -- Tokens_takeWord 79: ireturn
            exact s_ireturn rfl .boolean rfl rfl (hq)
          · exact absurd (nn_nle c3) (by omega)
        | succ d ih =>
          intro j hj hm
          obtain ⟨s1, s2⟩ := sb_c i h10 j (by omega)
          refine s_iload_n 41 rfl rfl rfl ?_
          refine s_xload_n 42 rfl rfl rfl ?_
          -- Tokens_takeWord 42: end
          refine c_text0 (h + 3) 45 rfl rfl mv_Tokens_81 (by omega) (Nat.le_of_ble_eq_true rfl) (Nat.le_of_ble_eq_true rfl) h10 rfl ?_
          refine m_String_length (h := h + 2) h10 ?_
          dsimp only [ax_rs]
          refine s_icmp_ge 74 48 rfl rfl (by decide) (fun c4 => ?_) (fun c4 => ?_)
          -- Tokens_takeWord 48: branch 74 48
          · exact absurd (nn_le c4) (by omega)
          · refine s_aload_n 49 rfl rfl rfl ?_
            refine s_getfield 10 0 52 rfl rfl fl_Tokens_14 h_this rfl ?_
            refine s_iload_n 53 rfl rfl rfl ?_
            refine s_iload_n 54 rfl rfl rfl ?_
            refine s_iadd 55 rfl rfl ?_
            -- Tokens_takeWord 55: end
            rw [nI_add]
            refine c_callV1 (h+3) 58 rfl rfl mv_Tokens_59 (by omega) (Nat.le_of_ble_eq_true rfl) (Nat.le_of_ble_eq_true rfl) h_text rfl rfl ?_
            -- Tokens_takeWord 58: call Row_at
            refine m_Row_at h_text h_bytes hn (by decide) ?_
            dsimp only [ax_rs]
            rw [at_ _ (by omega)]
            refine s_xload_n 59 rfl rfl rfl ?_
            refine s_iload_n 60 rfl rfl rfl ?_
            -- Tokens_takeWord 60: end
            refine c_text1 (h + 3) 63 rfl rfl mv_Tokens_86 (by omega) (Nat.le_of_ble_eq_true rfl) (Nat.le_of_ble_eq_true rfl) h10 rfl ?_
            refine m_String_charAt (h := h) h10 (by omega) ?_
            dsimp only [ax_rs]
            refine s_icmp_eq 68 66 rfl rfl (by decide) (fun c5 => ?_) (fun c5 => ?_)
            -- Tokens_takeWord 66: branch 68 66
            · refine s_inc3 _ 71 rfl rfl rfl rfl ?_
              refine s_goto 40 rfl (by decide) ?_
              -- Tokens_takeWord 40: end
              rw [inc1]
              refine ih (j + 1) (by omega) (fun m hm2 => ?_)
              by_cases z : m = j
              · subst z; exact c5
              · exact hm m (by omega)
            · refine s_iconst 0 67 rfl rfl (by decide) ?_
              -- Tokens_takeWord 67: ireturn
              exact s_ireturn rfl .boolean rfl rfl (no (fun w => c5 (w.2.2 j (by omega))))
      exact loop (ax_sln.getD i 0) 0 (by omega) (fun m hm => absurd hm (Nat.not_lt_zero m))
    · refine s_iconst 0 37 rfl rfl (by decide) ?_
      -- Tokens_takeWord 37: ireturn
      exact s_ireturn rfl .boolean rfl rfl (no (fun w => c2 (by rw [w.2.1])))
theorem m_Tokens_takeNumber {lo hi : Int32} (h_this : oC N 24 10 (tk_f (nI sz) (nI k))) (hT : TK_ N f1 f2 n sz so sa se) (hk : k < sz) (hq : Q (some (.int (if nu_ (tb_ f2 n) (ti_ (tb_ f2 n) k) lo hi then vt_ (tb_ f2 n) (ti_ (tb_ f2 n) k) else -1))) (tN N sz (if nu_ (tb_ f2 n) (ti_ (tb_ f2 n) k) lo hi then k + 1 else k))) : ax_G g mt_Tokens_takeNumber (h + 1) 0 0 0 [.ref 24, .int lo, .int hi, .float 0, .float 0] [] N Q := by
  obtain ⟨b1, b2, b3⟩ := hT.b hk
  have hT' := hT
  obtain ⟨h_text, h_bytes, hb, hn, h_sorts, h_starts, h_ends, a8, a9, a10, a11⟩ := hT
  have at_ : ∀ p, p ≤ n → rw_at f1 n (nI p) = tb_ f2 n p := fun p hp => tb_at hb (by omega) (by omega)
  obtain ⟨e1, e2, e3⟩ := a9 k hk
  generalize ht : ti_ (tb_ f2 n) k = t at hq e1 e2 e3 b1 b2 b3
  have no : ¬ (t.1 = 2 ∧ lo ≤ vt_ (tb_ f2 n) t ∧ vt_ (tb_ f2 n) t ≤ hi) → Q (some (.int (-1))) N := by
    intro w
    rw [show nu_ (tb_ f2 n) t lo hi = false from decide_eq_false w] at hq
    unfold tN oP at hq
    rw [if_neg (by decide), if_neg (by decide), ax_id h_this] at hq
    exact hq
  refine s_aload_n 1 rfl rfl rfl ?_
  refine s_iconst 2 2 rfl rfl (by decide) ?_
  refine c_callV1 h 5 rfl rfl mv_Tokens_75 (by omega) (Nat.le_of_ble_eq_true rfl) (Nat.le_of_ble_eq_true rfl) h_this rfl rfl ?_
  -- Tokens_takeNumber 5: call Tokens_standsAt
  refine m_Tokens_standsAt (c := 2) h_this hT' hk (by omega) ?_
  dsimp only [ax_rs]
  rw [ht]
  refine s_if_ne 10 8 rfl rfl (by decide) (fun c1 => ?_) (fun c1 => ?_)
  -- Tokens_takeNumber 8: branch 10 8
  · rw [bi_0, Classical.not_not] at c1
    obtain ⟨d1, d2, d3⟩ := b3 (by rw [c1]; decide) (by rw [c1]; decide)
    refine s_iconst 0 11 rfl rfl (by decide) ?_
    refine s_ist3 12 rfl rfl rfl ?_
    refine s_aload_n 13 rfl rfl rfl ?_
    refine s_getfield 10 2 16 rfl rfl fl_Tokens_24 h_this rfl ?_
    refine s_aload_n 17 rfl rfl rfl ?_
    refine s_getfield 10 5 20 rfl rfl fl_Tokens_44 h_this rfl ?_
    refine s_iaload (k) 21 rfl rfl h_starts rfl (by omega) (by decide) ?_
    -- Tokens_takeNumber 21: end
    rw [e2]
    refine s_ist4 23 rfl rfl rfl ?_
    -- Tokens_takeNumber 23: end
    have loop : ∀ (d j : Nat), j + d = t.2.2 - t.2.1 → ax_G g mt_Tokens_takeNumber (h + 1) 0 0 23 [.ref 24, .int lo, .int hi, .int (nv_ (tb_ f2 n) t.2.1 j), .int (nI (t.2.1 + j))] [] N Q := by
      intro d
      induction d with
      | zero =>
        intro j hj
        obtain rfl : j = t.2.2 - t.2.1 := by omega
        refine s_iload 25 rfl rfl rfl ?_
        refine s_aload_n 26 rfl rfl rfl ?_
        refine s_getfield 10 3 29 rfl rfl fl_Tokens_27 h_this rfl ?_
        refine s_aload_n 30 rfl rfl rfl ?_
        refine s_getfield 10 5 33 rfl rfl fl_Tokens_44 h_this rfl ?_
        refine s_iaload (k) 34 rfl rfl h_ends rfl (by omega) (by decide) ?_
        -- Tokens_takeNumber 34: end
        rw [e3 (by rw [c1]; decide) (by rw [c1]; decide)]
        refine s_icmp_ge 61 37 rfl rfl (by decide) (fun c2 => ?_) (fun c2 => ?_)
        -- Tokens_takeNumber 37: branch 61 37
        · refine s_iload_n 62 rfl rfl rfl ?_
          refine s_iload_n 63 rfl rfl rfl ?_
          refine s_icmp_lt 71 66 rfl rfl (by decide) (fun c3 => ?_) (fun c3 => ?_)
          -- Tokens_takeNumber 66: branch 71 66
          · refine s_iconst (-1) 72 rfl rfl (by decide) ?_
            -- Tokens_takeNumber 72: ireturn
            exact s_ireturn rfl .int rfl rfl (no (fun w => absurd c3 (Int32.not_lt.mpr w.2.1)))
          · refine s_iload_n 67 rfl rfl rfl ?_
            refine s_iload_n 68 rfl rfl rfl ?_
            refine s_icmp_le 73 71 rfl rfl (by decide) (fun c4 => ?_) (fun c4 => ?_)
            -- Tokens_takeNumber 71: branch 73 71
            · have yes : nu_ (tb_ f2 n) t lo hi = true := decide_eq_true ⟨c1, Int32.not_lt.mp c3, c4⟩
              rw [yes, if_pos rfl, if_pos rfl] at hq
              refine s_aload_n 74 rfl rfl rfl ?_
              refine c_callV0 h 77 rfl rfl mv_Tokens_78 (by omega) (Nat.le_of_ble_eq_true rfl) (Nat.le_of_ble_eq_true rfl) h_this rfl rfl ?_
              -- Tokens_takeNumber 77: call Tokens_advance
              refine m_Tokens_advance h_this d1 a8.2 ?_
              dsimp only [ax_rs]
              refine s_iload_n 78 rfl rfl rfl ?_
              -- Tokens_takeNumber 78: ireturn
              exact s_ireturn rfl .int rfl rfl (hq)
            · refine s_iconst (-1) 72 rfl rfl (by decide) ?_
              -- Tokens_takeNumber 72: ireturn
              exact s_ireturn rfl .int rfl rfl (no (fun w => c4 w.2.2))
        · exact absurd (nn_nle c2) (by omega)
      | succ d ih =>
        intro j hj
        refine s_iload 25 rfl rfl rfl ?_
        refine s_aload_n 26 rfl rfl rfl ?_
        refine s_getfield 10 3 29 rfl rfl fl_Tokens_27 h_this rfl ?_
        refine s_aload_n 30 rfl rfl rfl ?_
        refine s_getfield 10 5 33 rfl rfl fl_Tokens_44 h_this rfl ?_
        refine s_iaload (k) 34 rfl rfl h_ends rfl (by omega) (by decide) ?_
        -- Tokens_takeNumber 34: end
        rw [e3 (by rw [c1]; decide) (by rw [c1]; decide)]
        refine s_icmp_ge 61 37 rfl rfl (by decide) (fun c5 => ?_) (fun c5 => ?_)
        -- Tokens_takeNumber 37: branch 61 37
        · exact absurd (nn_le c5) (by omega)
        · refine s_iload_n 38 rfl rfl rfl ?_
          refine s_bipush 10 40 rfl rfl (by decide) ?_
          refine s_imul 41 rfl rfl ?_
          refine s_aload_n 42 rfl rfl rfl ?_
          refine s_getfield 10 0 45 rfl rfl fl_Tokens_14 h_this rfl ?_
          refine s_iload 47 rfl rfl rfl ?_
          refine c_callV1 h 50 rfl rfl mv_Tokens_59 (by omega) (Nat.le_of_ble_eq_true rfl) (Nat.le_of_ble_eq_true rfl) h_text rfl rfl ?_
          -- Tokens_takeNumber 50: call Row_at
          refine m_Row_at h_text h_bytes hn (by decide) ?_
          dsimp only [ax_rs]
          rw [at_ _ (by omega)]
          refine s_iadd 51 rfl rfl ?_
          refine s_bipush 48 53 rfl rfl (by decide) ?_
          refine s_isub 54 rfl rfl ?_
          refine s_ist3 55 rfl rfl rfl ?_
          refine s_inc4 _ 58 rfl rfl rfl rfl ?_
          refine s_goto 23 rfl (by decide) ?_
          -- Tokens_takeNumber 23: end
          rw [inc1, show t.2.1 + j + 1 = t.2.1 + (j + 1) by omega]
          exact ih (j + 1) (by omega)
    exact loop (t.2.2 - t.2.1) 0 (by omega)
  · rw [bi_0] at c1
    refine s_iconst (-1) 9 rfl rfl (by decide) ?_
    -- Tokens_takeNumber 9: ireturn
    exact s_ireturn rfl .int rfl rfl (no (fun w => c1 w.1))
theorem m_Tokens_takeQuoted {a r : Nat} {f : Nat → Int32} (ha : 30 ≤ a) (h_row : oC N (a + 1) 7 [.ref (a + 2), .int (nI 0)]) (h_rb : bA N (a + 2) 20 f) (h_this : oC N 24 10 (tk_f (nI sz) (nI k))) (hT : TK_ N f1 f2 n sz so sa se) (hk : k < sz) (h20 : (ti_ (tb_ f2 n) k).1 = 3 → (ti_ (tb_ f2 n) k).2.2 - (ti_ (tb_ f2 n) k).2.1 ≤ 22 ∧ 2 ≤ (ti_ (tb_ f2 n) k).2.2 - (ti_ (tb_ f2 n) k).2.1) (h0 : (ti_ (tb_ f2 n) k).1 ≠ 3 → Q (some (.int 0)) N) (h1 : (ti_ (tb_ f2 n) k).1 = 3 → Q (some (.int 1)) (tN (rw_m N (a + 1) (a + 2) 20 (rw_ap f 0 f1 ((ti_ (tb_ f2 n) k).2.1 + 1) ((ti_ (tb_ f2 n) k).2.2 - (ti_ (tb_ f2 n) k).2.1 - 2)) ((ti_ (tb_ f2 n) k).2.2 - (ti_ (tb_ f2 n) k).2.1 - 2)) sz (k + 1))) : ax_G g mt_Tokens_takeQuoted (h + 2) 0 0 0 [.ref 24, .ref (a + 1)] [] N Q := by
  obtain ⟨b1, b2, b3⟩ := hT.b hk
  have hT' := hT
  obtain ⟨h_text, h_bytes, hb, hn, h_sorts, h_starts, h_ends, a8, a9, a10, a11⟩ := hT
  obtain ⟨e1, e2, e3⟩ := a9 k hk
  refine s_aload_n 1 rfl rfl rfl ?_
  refine s_iconst 3 2 rfl rfl (by decide) ?_
  refine c_callV1 (h+1) 5 rfl rfl mv_Tokens_75 (by omega) (Nat.le_of_ble_eq_true rfl) (Nat.le_of_ble_eq_true rfl) h_this rfl rfl ?_
  -- Tokens_takeQuoted 5: call Tokens_standsAt
  refine m_Tokens_standsAt (c := 3) h_this hT' hk (by omega) ?_
  dsimp only [ax_rs]
  generalize ht : ti_ (tb_ f2 n) k = t at h0 h1 h20 e1 e2 e3 b1 b2 b3 ⊢
  refine s_if_ne 10 8 rfl rfl (by decide) (fun c1 => ?_) (fun c1 => ?_)
  -- Tokens_takeQuoted 8: branch 10 8
  · rw [bi_0, Classical.not_not] at c1
    obtain ⟨d1, d2, d3⟩ := b3 (by rw [c1]; decide) (by rw [c1]; decide)
    have e3 := e3 (by rw [c1]; decide) (by rw [c1]; decide)
    obtain ⟨l1, l2⟩ := h20 c1
    refine s_aload_n 11 rfl rfl rfl ?_
    refine s_aload_n 12 rfl rfl rfl ?_
    refine s_getfield 10 0 15 rfl rfl fl_Tokens_14 h_this rfl ?_
    refine s_aload_n 16 rfl rfl rfl ?_
    refine s_getfield 10 2 19 rfl rfl fl_Tokens_24 h_this rfl ?_
    refine s_aload_n 20 rfl rfl rfl ?_
    refine s_getfield 10 5 23 rfl rfl fl_Tokens_44 h_this rfl ?_
    refine s_iaload (k) 24 rfl rfl h_starts rfl (by omega) (by decide) ?_
    -- Tokens_takeQuoted 24: end
    rw [e2]
    refine s_iconst 1 25 rfl rfl (by decide) ?_
    refine s_iadd 26 rfl rfl ?_
    -- Tokens_takeQuoted 26: end
    rw [nI_1]
    refine s_aload_n 27 rfl rfl rfl ?_
    refine s_getfield 10 3 30 rfl rfl fl_Tokens_27 h_this rfl ?_
    refine s_aload_n 31 rfl rfl rfl ?_
    refine s_getfield 10 5 34 rfl rfl fl_Tokens_44 h_this rfl ?_
    refine s_iaload (k) 35 rfl rfl h_ends rfl (by omega) (by decide) ?_
    refine s_aload_n 36 rfl rfl rfl ?_
    refine s_getfield 10 2 39 rfl rfl fl_Tokens_24 h_this rfl ?_
    refine s_aload_n 40 rfl rfl rfl ?_
    refine s_getfield 10 5 43 rfl rfl fl_Tokens_44 h_this rfl ?_
    refine s_iaload (k) 44 rfl rfl h_starts rfl (by omega) (by decide) ?_
    -- Tokens_takeQuoted 44: end
    rw [e2, e3]
    refine s_isub 45 rfl rfl ?_
    -- Tokens_takeQuoted 45: end
    rw [pk_sub (by omega)]
    refine s_iconst 2 46 rfl rfl (by decide) ?_
    refine s_isub 47 rfl rfl ?_
    -- Tokens_takeQuoted 47: end
    rw [show nI (t.2.2 - t.2.1) - 2 = nI (t.2.2 - t.2.1 - 2) from pk_sub (b := 2) l2]
    refine c_callV3 (h+1) 50 rfl rfl mv_Tokens_37 (by omega) (Nat.le_of_ble_eq_true rfl) (Nat.le_of_ble_eq_true rfl) h_row rfl rfl ?_
    -- Tokens_takeQuoted 50: call Row_addPart
    refine m_Row_addPart (s := t.2.1 + 1) (k := t.2.2 - t.2.1 - 2) (n := 0) h_row h_rb h_text h_bytes (by omega) (by omega) (by decide) (by decide) hn (by omega) (by omega) ?_
    dsimp only [ax_rs]
    rw [Nat.zero_add]
    have t1 : oC (rw_m N (a + 1) (a + 2) 20 (rw_ap f 0 f1 (t.2.1 + 1) (t.2.2 - t.2.1 - 2)) (t.2.2 - t.2.1 - 2)) 24 10 (tk_f (nI sz) (nI k)) := rw_m_o (by omega) (by omega) h_this
    refine s_aload_n 51 rfl rfl rfl ?_
    refine c_callV0 (h+1) 54 rfl rfl mv_Tokens_78 (by omega) (Nat.le_of_ble_eq_true rfl) (Nat.le_of_ble_eq_true rfl) t1 rfl rfl ?_
    -- Tokens_takeQuoted 54: call Tokens_advance
    refine m_Tokens_advance t1 d1 a8.2 ?_
    dsimp only [ax_rs]
    refine s_iconst 1 55 rfl rfl (by decide) ?_
    -- Tokens_takeQuoted 55: ireturn
    exact s_ireturn rfl .boolean rfl rfl (h1 c1)
  · rw [bi_0] at c1
    refine s_iconst 0 9 rfl rfl (by decide) ?_
    -- Tokens_takeQuoted 9: ireturn
    exact s_ireturn rfl .boolean rfl rfl (h0 c1)
end TAKE
