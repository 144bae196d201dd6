/-! budget -/
theorem ax_p6 {M : ax_M} {a b c : Nat} {e1 e2 e3 e4 e5 e6 : ax_E} : ax_put (ax_put (ax_put (ax_put (ax_put (ax_put M a e1) b e2) c e3) a e4) b e5) c e6 = ax_put (ax_put (ax_put M a e4) b e5) c e6 := by
  refine ax_me rfl (fun k => ?_)
  simp only [ax_put, va_up]
  by_cases h1 : k = c
  · simp [h1]
  · by_cases h2 : k = b
    · simp [h1, h2]
    · by_cases h3 : k = a
      · simp [h1, h2, h3]
      · simp [h1, h2, h3]
/-- the file of the k-th of a row -/
def fo_ (s : Sta) (rw : Nat → Int32) (k : Nat) : Nat := (sLf s (sLi s (rw k).toNatClampNeg).toNatClampNeg).toNatClampNeg
abbrev cs_f (k cs : Nat) : List Value := [.ref 70, .ref 71, .int (nI k), .int (nI cs), .ref 72]
abbrev ch_m (M : ax_M) (pf cr : Nat → Int32) (k cs : Nat) : ax_M := oP (iP (iP M 72 6 pf) 71 50 cr) 69 6 (cs_f k cs)
abbrev cKC (k nw : Nat) : Prop := k = 0 ∨ (9 ≤ k ∧ k ≤ 16) ∨ k = 19 ∨ k = 20 ∨ k = 22 ∨ k = 23 ∨ k = nw ∨ k = nw + 1
theorem KC.mv {M N : ax_M} {s : Sta} {dw nw : Nat} {gc pa : Int32} {sl : Nat → Option Nat} (h : KC M s dw nw gc pa sl) (e : ∀ k, cKC k nw → N.2 k = M.2 k) (e2 : ∀ k, k < sSi s → ∀ p, sl k = some p → ∀ w : List Value, oC M p 8 w → oC N p 8 w) (_ : 79 ≤ nw) : KC N s dw nw gc pa sl := by
  obtain ⟨x0, x1, x2, x3, x4, x5, x6, x7, x8, x9, x10, x11, x12, x13, x14, x15, x16, x17, x18, x19⟩ := h
  refine ⟨(e _ (by omega)).trans x0, (e _ (by omega)).trans x1, (e _ (by omega)).trans x2, (e _ (by omega)).trans x3, (e _ (by omega)).trans x4, (e _ (by omega)).trans x5, (e _ (by omega)).trans x6, (e _ (by omega)).trans x7, (e _ (by omega)).trans x8, (e _ (by omega)).trans x9, (e _ (by omega)).trans x10, (e _ (by omega)).trans x11, (e _ (by omega)).trans x12, x13, (e _ (by omega)).trans x14, (e _ (by omega)).trans x15, fun k hk => ?_, x17, x18, x19⟩
  obtain ⟨p, w, h1, h2⟩ := x16 k hk
  exact ⟨p, w, h1, e2 k hk p h1 _ h2⟩
section BUD
variable {g : ax_Y} {M : ax_M} {Q : Option Value → ax_M → Prop} {h : Nat} {s : Sta} {dw nw : Nat} {gc pa : Int32} {sl : Nat → Option Nat} {n dr os gm tk pl bh : Int32} {va : Int64} {iw od : Int32}
theorem m_Arrays_fill {a k : Nat} {x : Int32} {f : Nat → Int32} (h_arr : iA M a k f) (hk : k < 65536) (hq : Q none (iP M a k (fun j => if j < k then x else f j))) : ax_G g mt_Arrays_fill h 0 0 0 [.ref a, .int x, .float 0, .float 0] [] M Q := by
  refine s_iconst 0 1 rfl rfl (by decide) ?_
  refine s_ist2 2 rfl rfl rfl ?_
  refine s_aload_n 3 rfl rfl rfl ?_
  refine s_alen _ 4 rfl rfl h_arr rfl ?_
  refine s_ist3 5 rfl rfl rfl ?_
  -- Arrays_fill 5: end
  have loop : ∀ (d i : Nat), i + d = k → ax_G g mt_Arrays_fill h 0 0 5 [.ref a, .int x, .int (nI i), .int (nI k)] [] (iP M a k (fun j => if j < i then x else f j)) Q := by
    intro d
    induction d with
    | zero =>
      intro i hi
      obtain rfl : i = k := by omega
      refine s_iload_n 6 rfl rfl rfl ?_
      refine s_iload_n 7 rfl rfl rfl ?_
      refine s_icmp_ge 20 10 rfl rfl (by decide) (fun c1 => ?_) (fun c1 => ?_)
      -- Arrays_fill 10: branch 20 10
      · exact s_return rfl rfl (hq)
      · exact absurd (nn_nle c1) (by omega)
    | succ d ih =>
      intro i hi
      have nx := ih (i + 1) (by omega)
      refine s_iload_n 6 rfl rfl rfl ?_
      refine s_iload_n 7 rfl rfl rfl ?_
      refine s_icmp_ge 20 10 rfl rfl (by decide) (fun c2 => ?_) (fun c2 => ?_)
      -- Arrays_fill 10: branch 20 10
      · exact absurd (nn_le c2) (by omega)
      · refine s_aload_n 11 rfl rfl rfl ?_
        refine s_iload_n 12 rfl rfl rfl ?_
        refine s_iload_n 13 rfl rfl rfl ?_
        refine s_iastore (i) 14 rfl rfl ax_eq rfl (by omega) (by omega) ?_
        unfold iP at nx ⊢
        rw [ax_pp]
        have e : upd (fun j => if j < i then x else f j) i x = fun j => if j < i + 1 then x else f j := by
          funext j
          show (if j = i then x else if j < i then x else f j) = _
          by_cases q : j = i
          · rw [if_pos q, if_pos (by omega)]
          · rw [if_neg q]
            by_cases q2 : j < i
            · rw [if_pos q2, if_pos (by omega)]
            · rw [if_neg q2, if_neg (by omega)]
        rw [e]
        refine s_inc2 _ 17 rfl rfl rfl rfl ?_
        refine s_goto 5 rfl (by decide) ?_
        -- Arrays_fill 5: end
        rw [inc1]
        exact nx
  have h0 := loop k 0 (by omega)
  have e : (fun j => if j < 0 then x else f j) = f := by
    funext j
    rw [if_neg (by omega)]
  rw [e] at h0
  unfold iP at h0
  rw [ax_id h_arr] at h0
  exact h0
theorem m_Ranks_choose {n m : Int32} {k cs0 : Nat} {rw0 pf cr : Nat → Int32} (hK : KC M s dw nw gc pa sl) (hnw : 79 ≤ nw) (hlf : ∀ l, l < sLn s → ∃ c, c < 6 ∧ sLf s l = nI c) (h_this : oC M 69 6 (cs_f k cs0)) (h_row : iA M 70 50 rw0) (h_chosenRow : iA M 71 50 cr) (h_perFile : iA M 72 6 pf) (hk : k ≤ 50) (hr : ∀ j, j < k → ∃ c, c < sAl s ∧ sSt s c = 0 ∧ rw0 j = nI c) (hq : Q none (ch_m M (bu_ (fo_ s rw0) rw0 n m cr (fun j => if j < 6 then 0 else pf j) k).1 (bu_ (fo_ s rw0) rw0 n m cr (fun j => if j < 6 then 0 else pf j) k).2.1 k (bu_ (fo_ s rw0) rw0 n m cr (fun j => if j < 6 then 0 else pf j) k).2.2)) : ax_G g mt_Ranks_choose (h + 1) 0 0 0 [.ref 69, .ref 9, .ref nw, .int n, .int m, .float 0, .float 0] [] M Q := by
  obtain ⟨b1, b2, b3, b4, b5⟩ := hK.bd
  refine s_aload_n 1 rfl rfl rfl ?_
  refine s_getfield 6 4 4 rfl rfl fl_Ranks_18 h_this rfl ?_
  refine s_iconst 0 5 rfl rfl (by decide) ?_
  refine c_callS2 h 8 rfl rfl mv_Ranks_48 (by omega) (Nat.le_of_ble_eq_true rfl) (Nat.le_of_ble_eq_true rfl) ?_
  -- Ranks_choose 8: call Arrays_fill
  refine m_Arrays_fill h_perFile (by omega) ?_
  dsimp only [ax_rs]
  generalize (fun j => if j < 6 then (0 : Int32) else pf j) = p0 at hq ⊢
  refine s_aload_n 9 rfl rfl rfl ?_
  refine s_iconst 0 10 rfl rfl (by decide) ?_
  refine s_putfield 6 3 (.int) 13 rfl rfl fp_Ranks_54 h_this (Nat.le_of_ble_eq_true rfl) ⟨rfl, rfl⟩ (fun h => absurd h (by decide)) ?_
  refine s_iconst 0 14 rfl rfl (by decide) ?_
  refine s_ist5 16 rfl rfl rfl ?_
  -- Ranks_choose 16: end
  have loop : ∀ (d i : Nat) (z : Value), z.category = 1 → i + d = k → ax_G g mt_Ranks_choose (h + 1) 0 0 16 [.ref 69, .ref 9, .ref nw, .int n, .int m, .int (nI i), z] [] (ch_m M (bu_ (fo_ s rw0) rw0 n m cr p0 i).1 (bu_ (fo_ s rw0) rw0 n m cr p0 i).2.1 k (bu_ (fo_ s rw0) rw0 n m cr p0 i).2.2) Q := by
    intro d
    induction d with
    | zero =>
      intro i z _ hi
      obtain rfl : i = k := by omega
      refine s_iload 18 rfl rfl rfl ?_
      refine s_aload_n 19 rfl rfl rfl ?_
      refine s_getfield 6 2 22 rfl rfl fl_Ranks_21 rfl rfl ?_
      refine s_icmp_ge 114 25 rfl rfl (by decide) (fun c1 => ?_) (fun c1 => ?_)
      -- Ranks_choose 25: branch 114 25
      · exact s_return rfl rfl (hq)
      · exact absurd (nn_nle c1) (by omega)
    | succ d ih =>
      intro i z hz hi
      have nx := fun z hz => ih (i + 1) z hz (by omega)
      have bl := bu_le (fo := fo_ s rw0) (rw := rw0) (n := n) (m := m) (c0 := cr) (p0 := p0) i
      refine s_iload 18 rfl rfl rfl ?_
      refine s_aload_n 19 rfl rfl rfl ?_
      refine s_getfield 6 2 22 rfl rfl fl_Ranks_21 rfl rfl ?_
      refine s_icmp_ge 114 25 rfl rfl (by decide) (fun c2 => ?_) (fun c2 => ?_)
      -- Ranks_choose 25: branch 114 25
      · exact absurd (nn_le c2) (by omega)
      · refine s_aload_n 26 rfl rfl rfl ?_
        refine s_getfield 6 3 29 rfl rfl fl_Ranks_54 rfl rfl ?_
        refine s_iload_n 30 rfl rfl rfl ?_
        refine s_icmp_ge 114 33 rfl rfl (by decide) (fun c3 => ?_) (fun c3 => ?_)
        -- Ranks_choose 33: branch 114 33
        · have e := bu_stop (fo := fo_ s rw0) (rw := rw0) (n := n) (m := m) (c0 := cr) (p0 := p0) (k := i) (Int32.not_lt.mpr c3) (d + 1)
          rw [hi] at e
          rw [e] at hq
          exact s_return rfl rfl (hq)
        · have c3 := Int32.not_le.mp c3
          obtain ⟨c, hc, hst, er⟩ := hr i (by omega)
          obtain ⟨l, hl, el⟩ := hK.told c hc hst
          obtain ⟨v, hv, ef⟩ := hlf l hl
          have ev : fo_ s rw0 i = v := by
            unfold fo_
            rw [er, nI_clamp (by omega), el, nI_clamp (by omega), ef, nI_clamp (by omega)]
          rw [bu_, ev] at nx
          generalize (bu_ (fo_ s rw0) rw0 n m cr p0 i) = B at nx bl c3 ⊢
          have hl2 : oC (ch_m M B.1 B.2.1 k B.2.2) nw 2 [.ref (nw + 1), .ref (nw + 2), .ref (nw + 3), .int (nI (sLn s))] := ax_ne (by omega) (ax_ne (by omega) (ax_ne (by omega) hK.now))
          have hl3 : iA (ch_m M B.1 B.2.1 k B.2.2) (nw + 1) 40 (sLf s) := ax_ne (by omega) (ax_ne (by omega) (ax_ne (by omega) hK.file))
          refine s_aload_n 34 rfl rfl rfl ?_
          refine s_aload_n 35 rfl rfl rfl ?_
          refine s_getfield 0 0 38 rfl rfl fl_Ranks_42 hK.alarms rfl ?_
          refine s_aload_n 39 rfl rfl rfl ?_
          refine s_getfield 6 0 42 rfl rfl fl_Ranks_9 rfl rfl ?_
          refine s_iload 44 rfl rfl rfl ?_
          refine s_iaload (i) 45 rfl rfl h_row rfl (by omega) (by decide) ?_
          -- Ranks_choose 45: end
          rw [er]
          refine s_iaload (c) 46 rfl rfl hK.line rfl (by omega) (by decide) ?_
          -- Ranks_choose 46: end
          rw [el]
          refine c_callV1 h 49 rfl rfl mv_Ranks_57 (by omega) (Nat.le_of_ble_eq_true rfl) (Nat.le_of_ble_eq_true rfl) hl2 rfl rfl ?_
          -- Ranks_choose 49: call Lines_fileOf
          refine m_Lines_fileOf hl2 hl3 b4 ?_
          dsimp only [ax_rs]
          rw [if_pos ⟨nI_pos (by omega), nI_ge hl (by omega)⟩, nI_clamp (by omega), ef]
          refine s_ist6 51 rfl rfl rfl ?_
          refine s_iload 53 rfl rfl rfl ?_
          refine c_callSN1 h 56 rfl rfl mv_Ranks_63 (by omega) (Nat.le_of_ble_eq_true rfl) (Nat.le_of_ble_eq_true rfl) ?_
          -- Ranks_choose 56: call Top_isFile
          refine m_Top_isFile ?_
          dsimp only [ax_rs]
          rw [bi_t (in_bi hv (by omega) rfl)]
          refine s_if_eq 108 59 rfl rfl (by decide) (fun c4 => ?_) (fun c4 => ?_)
          -- Ranks_choose 59: branch 108 59
          · exact absurd c4 (by decide)
          · refine s_aload_n 60 rfl rfl rfl ?_
            refine s_getfield 6 4 63 rfl rfl fl_Ranks_18 rfl rfl ?_
            refine s_iload 65 rfl rfl rfl ?_
            refine s_iaload (v) 66 rfl rfl rfl rfl (by omega) (by decide) ?_
            refine s_iload 68 rfl rfl rfl ?_
            refine s_icmp_ge 108 71 rfl rfl (by decide) (fun c5 => ?_) (fun c5 => ?_)
            -- Ranks_choose 71: branch 108 71
            · rw [if_neg (fun q => absurd q.2 (Int32.not_lt.mpr c5))] at nx
              refine s_inc5 _ 111 rfl rfl rfl rfl ?_
              refine s_goto 16 rfl (by decide) ?_
              -- Ranks_choose 16: end
              rw [inc1]
              exact nx _ rfl
            · rw [if_pos ⟨c3, Int32.not_le.mp c5⟩] at nx
              refine s_aload_n 72 rfl rfl rfl ?_
              refine s_getfield 6 4 75 rfl rfl fl_Ranks_18 rfl rfl ?_
              refine s_iload 77 rfl rfl rfl ?_
              refine s_dup2 78 rfl rfl rfl rfl ?_
              refine s_iaload (v) 79 rfl rfl rfl rfl (by omega) (by decide) ?_
              refine s_iconst 1 80 rfl rfl (by decide) ?_
              refine s_iadd 81 rfl rfl ?_
              refine s_iastore (v) 82 rfl rfl rfl rfl (by omega) (by decide) ?_
              refine s_aload_n 83 rfl rfl rfl ?_
              refine s_getfield 6 1 86 rfl rfl fl_Ranks_15 rfl rfl ?_
              refine s_aload_n 87 rfl rfl rfl ?_
              refine s_getfield 6 3 90 rfl rfl fl_Ranks_54 rfl rfl ?_
              refine s_aload_n 91 rfl rfl rfl ?_
              refine s_getfield 6 0 94 rfl rfl fl_Ranks_9 rfl rfl ?_
              refine s_iload 96 rfl rfl rfl ?_
              refine s_iaload (i) 97 rfl rfl h_row rfl (by omega) (by decide) ?_
              refine s_iastore (B.2.2) 98 rfl rfl rfl rfl (by omega) (by decide) ?_
              refine s_aload_n 99 rfl rfl rfl ?_
              refine s_dup 100 rfl rfl rfl ?_
              refine s_getfield 6 3 103 rfl rfl fl_Ranks_54 rfl rfl ?_
              refine s_iconst 1 104 rfl rfl (by decide) ?_
              refine s_iadd 105 rfl rfl ?_
              -- Ranks_choose 105: end
              rw [nI_1]
              refine s_putfield 6 3 (.int) 108 rfl rfl fp_Ranks_54 rfl (Nat.le_of_ble_eq_true rfl) ⟨rfl, rfl⟩ (fun h => absurd h (by decide)) ?_
              refine s_inc5 _ 111 rfl rfl rfl rfl ?_
              refine s_goto 16 rfl (by decide) ?_
              -- Ranks_choose 16: end
              rw [inc1]
              unfold ch_m oP iP at nx ⊢
              rw [ax_p6]
              exact nx _ rfl
  have h0 := loop k 0 (.float 0) rfl (by omega)
  rw [bu_] at h0
  unfold ch_m iP at h0
  rw [ax_id (M := ax_put M 72 (.inl (0, 6, .inl p0))) (a := 71) h_chosenRow] at h0
  exact h0
theorem c_budget {x y : Int32} {k0 cm : Nat} {f pf cr : Nat → Int32} (hK : KC M s dw nw gc pa sl) (hnw : 79 ≤ nw) (hlf : ∀ l, l < sLn s → ∃ c, c < 6 ∧ sLf s l = nI c) (h_ranks : oC M 69 6 (cs_f k0 cm)) (h_row : iA M 70 50 f) (h_chosenRow : iA M 71 50 cr) (h_perFile : iA M 72 6 pf) (h1 : ((x < 0 ∨ nI 51 ≤ x) ∨ (y < 0 ∨ nI 51 ≤ y)) → Q (some (.int (-2))) M) (h2 : ∀ a b, a < 51 → x = nI a → b < 51 → y = nI b → ∀ R, R = od_ s true (be_ s 3) f (sAl s) → ∀ B, B = bu_ (fo_ s R.1) R.1 x y cr (fun j => if j < 6 then 0 else pf j) R.2 → Q (some (.int (nI B.2.2))) (ch_m (iP M 70 50 R.1) B.1 B.2.1 R.2 B.2.2)) : ax_G g mt_Top_budget (h + 5) 0 0 0 [.ref 0, .int x, .int y] [] M Q := by
  obtain ⟨b1, b2, b3, b4, b5⟩ := hK.bd
  refine s_iload_n 1 rfl rfl rfl ?_
  refine s_if_lt 20 4 rfl rfl (by decide) (fun c1 => ?_) (fun c1 => ?_)
  -- Top_budget 4: branch 20 4
  · refine s_bipush (-2) 22 rfl rfl (by decide) ?_
    -- Top_budget 22: ireturn
    exact s_ireturn rfl .int rfl rfl (h1 (Or.inl (Or.inl c1)))
  · obtain ⟨a, ha, rfl⟩ := nI_of c1
    refine s_iload_n 5 rfl rfl rfl ?_
    refine s_bipush 50 7 rfl rfl (by decide) ?_
    refine s_icmp_gt 20 10 rfl rfl (by decide) (fun c2 => ?_) (fun c2 => ?_)
    -- Top_budget 10: branch 20 10
    · refine s_bipush (-2) 22 rfl rfl (by decide) ?_
      -- Top_budget 22: ireturn
      exact s_ireturn rfl .int rfl rfl (h1 (Or.inl (Or.inr (nI_le (nn_lt (a := 50) c2) (by omega)))))
    · have ha2 := nn_nlt (a := 50) c2
      refine s_iload_n 11 rfl rfl rfl ?_
      refine s_if_lt 20 14 rfl rfl (by decide) (fun c3 => ?_) (fun c3 => ?_)
      -- Top_budget 14: branch 20 14
      · refine s_bipush (-2) 22 rfl rfl (by decide) ?_
        -- Top_budget 22: ireturn
        exact s_ireturn rfl .int rfl rfl (h1 (Or.inr (Or.inl c3)))
      · obtain ⟨b, hb, rfl⟩ := nI_of c3
        refine s_iload_n 15 rfl rfl rfl ?_
        refine s_bipush 50 17 rfl rfl (by decide) ?_
        refine s_icmp_le 23 20 rfl rfl (by decide) (fun c4 => ?_) (fun c4 => ?_)
        -- Top_budget 20: branch 23 20
        · have hb2 := nn_le (b := 50) c4
          have h2 := h2 a b (by omega) rfl (by omega) rfl _ rfl _ rfl
          have ol := od_le s true (be_ s 3) f (sAl s)
          have oi := od_in s true (be_ s 3) f (sAl s)
          refine s_aload_n 24 rfl rfl rfl ?_
          refine s_getfield 11 6 27 rfl rfl fl_Top_52 hK.top rfl ?_
          refine s_aload_n 28 rfl rfl rfl ?_
          refine s_getfield 11 3 31 rfl rfl fl_Top_31 hK.top rfl ?_
          refine s_aload_n 32 rfl rfl rfl ?_
          refine s_iconst 3 33 rfl rfl (by decide) ?_
          refine c_callV1 (h+4) 36 rfl rfl mv_Top_208 (by omega) (Nat.le_of_ble_eq_true rfl) (Nat.le_of_ble_eq_true rfl) hK.top rfl rfl ?_
          -- Top_budget 36: call Top_setNow
          refine m_Top_setNow (h := h) (w := 3) hK (by omega) ?_
          dsimp only [ax_rs]
          refine s_iconst 1 37 rfl rfl (by decide) ?_
          refine c_callV3 (h+4) 40 rfl rfl mv_Top_281 (by omega) (Nat.le_of_ble_eq_true rfl) (Nat.le_of_ble_eq_true rfl) h_ranks rfl rfl ?_
          -- Top_budget 40: call Ranks_order
          refine m_Ranks_order (h := h + 2) (o := true) (p := be_ s 3) h_ranks h_row hK.alarms hK.line hK.kind hK.p hK.q b1 (fun a ha => by rw [lset_b _ _ (by omega) a (by omega), decide_eq_true ha, Bool.true_and]) ?_
          dsimp only [ax_rs]
          generalize od_ s true (be_ s 3) f (sAl s) = R at ol oi h2 ⊢
          have hK2 : KC (rk_m M R.1 R.2 (nI cm)) s dw nw gc pa sl := hK.mv (fun k hk => ax_ne (by omega) (ax_ne (by omega) rfl)) (fun k _ p _ w hp => ax_ne (fun q => by
            subst q
            exact absurd (hp.symm.trans h_ranks) (by simp)) (ax_ne (fun q => by
            subst q
            exact absurd (hp.symm.trans h_row) (by simp)) hp)) hnw
          refine s_aload_n 41 rfl rfl rfl ?_
          refine s_getfield 11 6 44 rfl rfl fl_Top_52 hK.top rfl ?_
          refine s_aload_n 45 rfl rfl rfl ?_
          refine s_getfield 11 3 48 rfl rfl fl_Top_31 hK.top rfl ?_
          refine s_aload_n 49 rfl rfl rfl ?_
          refine s_getfield 11 13 52 rfl rfl fl_Top_87 hK.top rfl ?_
          refine s_iload_n 53 rfl rfl rfl ?_
          refine s_iload_n 54 rfl rfl rfl ?_
          refine c_callV4 (h+4) 57 rfl rfl mv_Top_289 (by omega) (Nat.le_of_ble_eq_true rfl) (Nat.le_of_ble_eq_true rfl) rfl rfl rfl ?_
          -- Top_budget 57: call Ranks_choose
          refine m_Ranks_choose (h := h + 3) (M := rk_m M R.1 R.2 (nI cm)) hK2 hnw hlf rfl rfl h_chosenRow h_perFile (by omega) (fun j hj => ?_) ?_
          · obtain ⟨c, e1, e2, e3⟩ := oi j hj
            refine ⟨c, e1, ?_, e3⟩
            unfold be_ at e2
            simp at e2
            exact e2.1
          · dsimp only [ax_rs]
            generalize bu_ (fo_ s R.1) R.1 (nI a) (nI b) cr (fun j => if j < 6 then 0 else pf j) R.2 = B at h2 ⊢
            have e : ch_m (rk_m M R.1 R.2 (nI cm)) B.1 B.2.1 R.2 B.2.2 = ch_m (iP M 70 50 R.1) B.1 B.2.1 R.2 B.2.2 := by
              refine ax_me rfl (fun k => ?_)
              simp only [ch_m, rk_m, oP, iP, ax_put, va_up]
              by_cases q : k = 69
              · simp [q]
              · simp [q]
            rw [e]
            refine s_aload_n 58 rfl rfl rfl ?_
            refine s_getfield 11 6 61 rfl rfl fl_Top_52 hK.top rfl ?_
            refine s_getfield 6 3 64 rfl rfl fl_Top_293 rfl rfl ?_
            -- Top_budget 64: ireturn
            exact s_ireturn rfl .int rfl rfl (h2)
        · refine s_bipush (-2) 22 rfl rfl (by decide) ?_
          -- Top_budget 22: ireturn
          exact s_ireturn rfl .int rfl rfl (h1 (Or.inr (Or.inr (nI_le (nn_nle (b := 50) c4) (by omega)))))
end BUD
