/-! the reference: isWord, want, number -/
theorem tk_1 {f : Nat → Int32} {n p : Nat} (h : (tk_ (tb_ f n) p).1 = 1) : ∀ j, (tk_ (tb_ f n) p).2.1 ≤ j → j < (tk_ (tb_ f n) p).2.2 → 97 ≤ tb_ f n j ∧ tb_ f n j ≤ 122 := by
  unfold tk_ at h ⊢
  generalize ru_ (tb_ f n) 32 32 200 p = q at h
  by_cases c1 : 97 ≤ tb_ f n q ∧ tb_ f n q ≤ 122
  · rw [if_pos c1]
    exact ru_in (f := f) (n := n) (lo := 97) (hi := 122) 200 q
  · rw [if_neg c1] at h
    exfalso
    by_cases c2 : 48 ≤ tb_ f n q ∧ tb_ f n q ≤ 57
    · rw [if_pos c2] at h
      have h : (if 6 < ru_ (tb_ f n) 48 57 200 q - q then 5 else 2) = 1 := h
      split at h <;> cases h
    · rw [if_neg c2] at h
      by_cases c3 : tb_ f n q = -1
      · rw [if_pos c3] at h
        exact absurd (show (0 : Nat) = 1 from h) (by decide)
      · rw [if_neg c3] at h
        by_cases c4 : tb_ f n q = 59
        · rw [if_pos c4] at h
          exact absurd (show (4 : Nat) = 1 from h) (by decide)
        · rw [if_neg c4] at h
          by_cases c5 : tb_ f n q = 39
          · rw [if_pos c5] at h
            have h : (if tb_ f n (qr_ (tb_ f n) 20 (q + 1)) = 39 then 3 else 5) = 1 := h
            split at h <;> cases h
          · rw [if_neg c5] at h
            exact absurd (show (5 : Nat) = 1 from h) (by decide)
theorem tk_2 {f : Nat → Int32} {n p : Nat} (h : (tk_ (tb_ f n) p).1 = 2) : (∀ j, (tk_ (tb_ f n) p).2.1 ≤ j → j < (tk_ (tb_ f n) p).2.2 → 48 ≤ tb_ f n j ∧ tb_ f n j ≤ 57) ∧ (tk_ (tb_ f n) p).2.2 - (tk_ (tb_ f n) p).2.1 ≤ 6 := by
  unfold tk_ at h ⊢
  generalize ru_ (tb_ f n) 32 32 200 p = q at h
  by_cases c1 : 97 ≤ tb_ f n q ∧ tb_ f n q ≤ 122
  · rw [if_pos c1] at h
    exact absurd (show (1 : Nat) = 2 from h) (by decide)
  · rw [if_neg c1] at h ⊢
    by_cases c2 : 48 ≤ tb_ f n q ∧ tb_ f n q ≤ 57
    · rw [if_pos c2] at h ⊢
      refine ⟨ru_in (f := f) (n := n) (lo := 48) (hi := 57) 200 q, ?_⟩
      have h : (if 6 < ru_ (tb_ f n) 48 57 200 q - q then 5 else 2) = 2 := h
      show ru_ (tb_ f n) 48 57 200 q - q ≤ 6
      by_cases z : 6 < ru_ (tb_ f n) 48 57 200 q - q
      · rw [if_pos z] at h; cases h
      · omega
    · rw [if_neg c2] at h
      exfalso
      by_cases c3 : tb_ f n q = -1
      · rw [if_pos c3] at h
        exact absurd (show (0 : Nat) = 2 from h) (by decide)
      · rw [if_neg c3] at h
        by_cases c4 : tb_ f n q = 59
        · rw [if_pos c4] at h
          exact absurd (show (4 : Nat) = 2 from h) (by decide)
        · rw [if_neg c4] at h
          by_cases c5 : tb_ f n q = 39
          · rw [if_pos c5] at h
            have h : (if tb_ f n (qr_ (tb_ f n) 20 (q + 1)) = 39 then 3 else 5) = 2 := h
            split at h <;> cases h
          · rw [if_neg c5] at h
            exact absurd (show (5 : Nat) = 2 from h) (by decide)
theorem ti_1 {f : Nat → Int32} {n k : Nat} (h : (ti_ (tb_ f n) k).1 = 1) : ∀ j, (ti_ (tb_ f n) k).2.1 ≤ j → j < (ti_ (tb_ f n) k).2.2 → 97 ≤ tb_ f n j ∧ tb_ f n j ≤ 122 := by
  cases k with
  | zero => exact tk_1 h
  | succ k => exact tk_1 h
theorem ti_2 {f : Nat → Int32} {n k : Nat} (h : (ti_ (tb_ f n) k).1 = 2) : (∀ j, (ti_ (tb_ f n) k).2.1 ≤ j → j < (ti_ (tb_ f n) k).2.2 → 48 ≤ tb_ f n j ∧ tb_ f n j ≤ 57) ∧ (ti_ (tb_ f n) k).2.2 - (ti_ (tb_ f n) k).2.1 ≤ 6 := by
  cases k with
  | zero => exact tk_2 h
  | succ k => exact tk_2 h
/-- the reference stands at token k -/
def ST_ (T : Nat → Int32) (k : Nat) (tk pl bh : Int32) (va : Int64) : Prop := tk = nI (ti_ T k).1 ∧ pl = nI (ti_ T k).2.1 ∧ ((ti_ T k).1 ≠ 0 → (ti_ T k).1 ≠ 5 → bh = nI (ti_ T k).2.2) ∧ ((ti_ T k).1 = 1 → va = ev_ T (ti_ T k).2.1 ((ti_ T k).2.2 - (ti_ T k).2.1)) ∧ ((ti_ T k).1 = 2 → va = nl_ T (ti_ T k).2.1 ((ti_ T k).2.2 - (ti_ T k).2.1))
section MWORD
variable {g : ax_Y} {M K : ax_M} {Q : Option Value → ax_M → Prop} {h n sz k : Nat} {bl ln dr al ru pv si pa cm os gm tk pl bh : Int32} {va : Int64} {iw od : Int32} {f1 f2 so sa se : Nat → Int32}
theorem d_next (hT : TK_ K f1 f2 n sz so sa se) (hk : k < sz) (hv : (ti_ (tb_ f2 n) k).1 ≠ 0) (hv5 : (ti_ (tb_ f2 n) k).1 ≠ 5) (hs : ST_ (tb_ f2 n) k tk pl bh va) (h_this : oC M 143 12 (md_f (nI n) bl ln dr al ru pv si pa cm os gm tk pl bh va iw od)) (h_text : iA M 144 160 f2) (hq : ∀ tk2 pl2 bh2 va2, ST_ (tb_ f2 n) (k + 1) tk2 pl2 bh2 va2 → Q none (md_m M (nI n) bl ln dr al ru pv si pa cm os gm tk2 pl2 bh2 va2 iw od)) : ax_G g mt_Mod_next (h + 2) 0 0 0 [.ref 143, .float 0] [] M Q := by
  obtain ⟨s1, s2, s3, s4, s5⟩ := hs
  have s3 := s3 hv hv5
  subst s3
  have b := (hT.b hk).2.2 hv hv5
  exact m_Mod_next h_this h_text hT.2.2.2.1 b.2.2 (by_f hT.2.2.1) (fun bh2 va2 e1 e2 e3 => hq _ _ bh2 va2 ⟨rfl, rfl, e1, e2, e3⟩)
theorem d_isWordG {w : Int64} (h_this : oC M 143 12 (md_f (nI n) bl ln dr al ru pv si pa cm os gm tk pl bh va iw od)) (hq : Q (some (.int (bi (tk = 1 ∧ va = w)))) M) : ax_G g mt_Mod_isWord h 0 0 0 [.ref 143, .long w, .float 0] [] M Q := by
  refine s_aload_n 1 rfl rfl rfl ?_
  refine s_getfield 12 38 4 rfl rfl fl_Mod_239 h_this rfl ?_
  refine s_iconst 1 5 rfl rfl (by decide) ?_
  refine s_icmp_ne 21 8 rfl rfl (by decide) (fun c1 => ?_) (fun c1 => ?_)
  -- Mod_isWord 8: branch 21 8
  · rw [bi_f (fun q => c1 q.1)] at hq
    refine s_iconst 0 22 rfl rfl (by decide) ?_
    -- Mod_isWord 22: ireturn
    exact s_ireturn rfl .boolean rfl rfl (hq)
  · refine s_aload_n 9 rfl rfl rfl ?_
    refine s_getfield 12 41 12 rfl rfl fl_Mod_235 h_this rfl ?_
    refine s_lload_n 13 rfl rfl rfl ?_
    refine s_lcmp 14 rfl rfl ?_
    refine s_if_ne 21 17 rfl rfl (by decide) (fun c2 => ?_) (fun c2 => ?_)
    -- Mod_isWord 17: branch 21 17
    · rw [lg_cmp_eq] at c2
      rw [bi_f (fun q => c2 q.2)] at hq
      refine s_iconst 0 22 rfl rfl (by decide) ?_
      -- Mod_isWord 22: ireturn
      exact s_ireturn rfl .boolean rfl rfl (hq)
    · rw [lg_cmp_eq] at c2
      rw [bi_t ⟨c1, c2⟩] at hq
      refine s_iconst 1 18 rfl rfl (by decide) ?_
      refine s_goto 22 rfl (by decide) ?_
      -- Mod_isWord 22: ireturn
      exact s_ireturn rfl .boolean rfl rfl (hq)
theorem st_iw {i : Nat} (hi : i < 9) (hT : TK_ K f1 f2 n sz so sa se) (hk : k < sz) (hs : ST_ (tb_ f2 n) k tk pl bh va) : (tk = 1 ∧ va = wc_ i) ↔ iw_ (tb_ f2 n) (ti_ (tb_ f2 n) k) i = true := by
  obtain ⟨s1, s2, s3, s4, s5⟩ := hs
  have t5 := ti_5 (tb_ f2 n) k
  have key : (ti_ (tb_ f2 n) k).1 = 1 → (va = wc_ i ↔ iw_ (tb_ f2 n) (ti_ (tb_ f2 n) k) i = true) := by
    intro e
    rw [s4 e]
    exact ev_iw hi e ((hT.b hk).2.2 (by rw [e]; decide) (by rw [e]; decide)).2.1 (ti_1 e)
  constructor
  · rintro ⟨q1, q2⟩
    rw [s1] at q1
    exact (key (nn_eq (b := 1) q1)).mp q2
  · intro q
    have e := iw_1 q
    exact ⟨by rw [s1, e]; rfl, (key e).mpr q⟩
theorem d_isWord {w : Int64} {i : Nat} (hw : w = wc_ i) (hi : i < 9) (hT : TK_ K f1 f2 n sz so sa se) (hk : k < sz) (hs : ST_ (tb_ f2 n) k tk pl bh va) (h_this : oC M 143 12 (md_f (nI n) bl ln dr al ru pv si pa cm os gm tk pl bh va iw od)) (hq : Q (some (.int (if iw_ (tb_ f2 n) (ti_ (tb_ f2 n) k) i then 1 else 0))) M) : ax_G g mt_Mod_isWord h 0 0 0 [.ref 143, .long w, .float 0] [] M Q := by
  subst hw
  refine d_isWordG h_this ?_
  have e := st_iw hi hT hk hs
  cases z : iw_ (tb_ f2 n) (ti_ (tb_ f2 n) k) i with
  | true =>
    rw [z, if_pos rfl] at hq
    rw [bi_t (e.mpr z)]
    exact hq
  | false =>
    rw [z, if_neg (by decide)] at hq
    rw [bi_f (fun q => by rw [e.mp q] at z; cases z)]
    exact hq
/-- wrong already -/
theorem d_wantW {x : Int32} (h_this : oC M 143 12 (md_f (nI n) bl ln dr al ru pv si pa cm os gm tk pl bh va 1 od)) (hq : Q none M) : ax_G g mt_Mod_want h 0 0 0 [.ref 143, .int x] [] M Q := by
  have e : ax_put M 143 (.inr (12, md_f (nI n) bl ln dr al ru pv si pa cm os gm tk pl bh va 1 od)) = M := ax_id h_this
  refine s_aload_n 1 rfl rfl rfl ?_
  refine s_aload_n 2 rfl rfl rfl ?_
  refine s_getfield 12 42 5 rfl rfl fl_Mod_250 h_this rfl ?_
  refine s_if_ne 12 8 rfl rfl (by decide) (fun c1 => ?_) (fun c1 => ?_)
  -- Mod_want 8: branch 12 8
  · refine s_iconst 1 13 rfl rfl (by decide) ?_
    refine s_goto 17 rfl (by decide) ?_
    refine s_putfield 12 42 (.boolean) 20 rfl rfl fp_Mod_250 h_this (Nat.le_of_ble_eq_true rfl) ⟨rfl, rfl⟩ (fun h => absurd h (by decide)) ?_
    -- Mod_want 20: end
    show ax_G g mt_Mod_want h 0 0 20 _ [] (ax_put M 143 (.inr (12, md_f (nI n) bl ln dr al ru pv si pa cm os gm tk pl bh va 1 od))) Q
    rw [e]
    refine s_aload_n 21 rfl rfl rfl ?_
    refine s_getfield 12 42 24 rfl rfl fl_Mod_250 h_this rfl ?_
    refine s_if_ne 31 27 rfl rfl (by decide) (fun c2 => ?_) (fun c2 => ?_)
    -- Mod_want 27: branch 31 27
    · exact s_return rfl rfl (hq)
    · exact absurd c2 (by decide)
  · exact absurd c1 (by decide)
theorem d_wantF (h_this : oC M 143 12 (md_f (nI n) bl ln dr al ru pv si pa cm os gm tk pl bh va 0 od)) (hq : Q none (md_m M (nI n) bl ln dr al ru pv si pa cm os gm tk pl bh va 1 od)) : ax_G g mt_Mod_want h 0 0 0 [.ref 143, .int 0] [] M Q := by
  refine s_aload_n 1 rfl rfl rfl ?_
  refine s_aload_n 2 rfl rfl rfl ?_
  refine s_getfield 12 42 5 rfl rfl fl_Mod_250 h_this rfl ?_
  refine s_if_ne 12 8 rfl rfl (by decide) (fun c1 => ?_) (fun c1 => ?_)
  -- Mod_want 8: branch 12 8
  · exact absurd rfl c1
  · refine s_iload_n 9 rfl rfl rfl ?_
    refine s_if_ne 16 12 rfl rfl (by decide) (fun c2 => ?_) (fun c2 => ?_)
    -- Mod_want 12: branch 16 12
    · exact absurd rfl c2
    · refine s_iconst 1 13 rfl rfl (by decide) ?_
      refine s_goto 17 rfl (by decide) ?_
      refine s_putfield 12 42 (.boolean) 20 rfl rfl fp_Mod_250 h_this (Nat.le_of_ble_eq_true rfl) ⟨rfl, rfl⟩ (fun h => absurd h (by decide)) ?_
      -- Mod_want 20: end
      show ax_G g mt_Mod_want h 0 0 20 _ [] (md_m M (nI n) bl ln dr al ru pv si pa cm os gm tk pl bh va 1 od) Q
      refine s_aload_n 21 rfl rfl rfl ?_
      refine s_getfield 12 42 24 rfl rfl fl_Mod_250 rfl rfl ?_
      refine s_if_ne 31 27 rfl rfl (by decide) (fun c3 => ?_) (fun c3 => ?_)
      -- Mod_want 27: branch 31 27
      · exact s_return rfl rfl (hq)
      · exact absurd c3 (by decide)
theorem d_wantT (hT : TK_ K f1 f2 n sz so sa se) (hk : k < sz) (hv : (ti_ (tb_ f2 n) k).1 ≠ 0) (hv5 : (ti_ (tb_ f2 n) k).1 ≠ 5) (hs : ST_ (tb_ f2 n) k tk pl bh va) (h_this : oC M 143 12 (md_f (nI n) bl ln dr al ru pv si pa cm os gm tk pl bh va 0 od)) (h_text : iA M 144 160 f2) (hq : ∀ tk2 pl2 bh2 va2, ST_ (tb_ f2 n) (k + 1) tk2 pl2 bh2 va2 → Q none (md_m M (nI n) bl ln dr al ru pv si pa cm os gm tk2 pl2 bh2 va2 0 od)) : ax_G g mt_Mod_want (h + 3) 0 0 0 [.ref 143, .int 1] [] M Q := by
  have e : ax_put M 143 (.inr (12, md_f (nI n) bl ln dr al ru pv si pa cm os gm tk pl bh va 0 od)) = M := ax_id h_this
  refine s_aload_n 1 rfl rfl rfl ?_
  refine s_aload_n 2 rfl rfl rfl ?_
  refine s_getfield 12 42 5 rfl rfl fl_Mod_250 h_this rfl ?_
  refine s_if_ne 12 8 rfl rfl (by decide) (fun c1 => ?_) (fun c1 => ?_)
  -- Mod_want 8: branch 12 8
  · exact absurd rfl c1
  · refine s_iload_n 9 rfl rfl rfl ?_
    refine s_if_ne 16 12 rfl rfl (by decide) (fun c2 => ?_) (fun c2 => ?_)
    -- Mod_want 12: branch 16 12
    · refine s_iconst 0 17 rfl rfl (by decide) ?_
      refine s_putfield 12 42 (.boolean) 20 rfl rfl fp_Mod_250 h_this (Nat.le_of_ble_eq_true rfl) ⟨rfl, rfl⟩ (fun h => absurd h (by decide)) ?_
      -- Mod_want 20: end
      show ax_G g mt_Mod_want (h + 3) 0 0 20 _ [] (ax_put M 143 (.inr (12, md_f (nI n) bl ln dr al ru pv si pa cm os gm tk pl bh va 0 od))) Q
      rw [e]
      refine s_aload_n 21 rfl rfl rfl ?_
      refine s_getfield 12 42 24 rfl rfl fl_Mod_250 h_this rfl ?_
      refine s_if_ne 31 27 rfl rfl (by decide) (fun c3 => ?_) (fun c3 => ?_)
      -- Mod_want 27: branch 31 27
      · exact absurd rfl c3
      · refine s_aload_n 28 rfl rfl rfl ?_
        refine c_callV0 (h+2) 31 rfl rfl mv_Mod_254 (by omega) (Nat.le_of_ble_eq_true rfl) (Nat.le_of_ble_eq_true rfl) h_this rfl rfl ?_
        -- Mod_want 31: call Mod_next
        refine d_next (h := h) hT hk hv hv5 hs h_this h_text (fun tk2 pl2 bh2 va2 e2 => ?_)
        dsimp only [ax_rs]
        exact s_return rfl rfl (hq tk2 pl2 bh2 va2 e2)
    · exact absurd c2 (by decide)
theorem d_numberW {lo hi : Int32} (h_this : oC M 143 12 (md_f (nI n) bl ln dr al ru pv si pa cm os gm tk pl bh va 1 od)) (hq : ∀ v : Int32, Q (some (.int v)) M) : ax_G g mt_Mod_number (h + 1) 0 0 0 [.ref 143, .int lo, .int hi, .float 0] [] M Q := by
  have fin : ∀ x : Int32, ax_G g mt_Mod_number (h + 1) 0 0 34 [.ref 143, .int lo, .int hi, .int va.toInt32] [.int x, .ref 143] M Q := by
    intro x
    refine c_callV1 h 37 rfl rfl mv_Mod_257 (by omega) (Nat.le_of_ble_eq_true rfl) (Nat.le_of_ble_eq_true rfl) h_this rfl rfl ?_
    -- Mod_number 37: call Mod_want
    refine d_wantW h_this ?_
    dsimp only [ax_rs]
    refine s_iload_n 38 rfl rfl rfl ?_
    -- Mod_number 38: ireturn
    exact s_ireturn rfl .int rfl rfl (hq _)
  refine s_aload_n 1 rfl rfl rfl ?_
  refine s_getfield 12 41 4 rfl rfl fl_Mod_235 h_this rfl ?_
  refine s_l2i 5 rfl rfl ?_
  refine s_ist3 6 rfl rfl rfl ?_
  refine s_aload_n 7 rfl rfl rfl ?_
  refine s_aload_n 8 rfl rfl rfl ?_
  refine s_getfield 12 38 11 rfl rfl fl_Mod_239 h_this rfl ?_
  refine s_iconst 2 12 rfl rfl (by decide) ?_
  refine s_icmp_ne 33 15 rfl rfl (by decide) (fun c1 => ?_) (fun c1 => ?_)
  -- Mod_number 15: branch 33 15
  · refine s_iconst 0 34 rfl rfl (by decide) ?_
    -- Mod_number 34: end
    exact fin _
  · refine s_aload_n 16 rfl rfl rfl ?_
    refine s_getfield 12 41 19 rfl rfl fl_Mod_235 h_this rfl ?_
    refine s_iload_n 20 rfl rfl rfl ?_
    refine s_i2l 21 rfl rfl ?_
    refine s_iload_n 22 rfl rfl rfl ?_
    refine s_i2l 23 rfl rfl ?_
    refine c_callS3 h 26 rfl rfl mv_Mod_134 (by omega) (Nat.le_of_ble_eq_true rfl) (Nat.le_of_ble_eq_true rfl) ?_
    -- Mod_number 26: call Mod_in
    refine m_Mod_in ?_
    dsimp only [ax_rs]
    refine s_if_eq 33 29 rfl rfl (by decide) (fun c2 => ?_) (fun c2 => ?_)
    -- Mod_number 29: branch 33 29
    · refine s_iconst 0 34 rfl rfl (by decide) ?_
      -- Mod_number 34: end
      exact fin _
    · refine s_iconst 1 30 rfl rfl (by decide) ?_
      refine s_goto 34 rfl (by decide) ?_
      -- Mod_number 34: end
      exact fin _
theorem d_number {lo hi : Int32} (hT : TK_ K f1 f2 n sz so sa se) (hk : k < sz) (hs : ST_ (tb_ f2 n) k tk pl bh va) (h_this : oC M 143 12 (md_f (nI n) bl ln dr al ru pv si pa cm os gm tk pl bh va 0 od)) (h_text : iA M 144 160 f2) (h1 : nu_ (tb_ f2 n) (ti_ (tb_ f2 n) k) lo hi = true → ∀ tk2 pl2 bh2 va2, ST_ (tb_ f2 n) (k + 1) tk2 pl2 bh2 va2 → Q (some (.int (vt_ (tb_ f2 n) (ti_ (tb_ f2 n) k)))) (md_m M (nI n) bl ln dr al ru pv si pa cm os gm tk2 pl2 bh2 va2 0 od)) (h0 : nu_ (tb_ f2 n) (ti_ (tb_ f2 n) k) lo hi = false → ∀ v, Q (some (.int v)) (md_m M (nI n) bl ln dr al ru pv si pa cm os gm tk pl bh va 1 od)) : ax_G g mt_Mod_number (h + 4) 0 0 0 [.ref 143, .int lo, .int hi, .float 0] [] M Q := by
  have s1 := hs.1
  have s5 := hs.2.2.2.2
  have t5 := ti_5 (tb_ f2 n) k
  have no : nu_ (tb_ f2 n) (ti_ (tb_ f2 n) k) lo hi = false → ∀ x : Int32, ax_G g mt_Mod_number (h + 4) 0 0 34 [.ref 143, .int lo, .int hi, .int x] [.int 0, .ref 143] M Q := by
    intro e x
    refine c_callV1 (h+3) 37 rfl rfl mv_Mod_257 (by omega) (Nat.le_of_ble_eq_true rfl) (Nat.le_of_ble_eq_true rfl) h_this rfl rfl ?_
    -- Mod_number 37: call Mod_want
    refine d_wantF h_this ?_
    dsimp only [ax_rs]
    refine s_iload_n 38 rfl rfl rfl ?_
    -- Mod_number 38: ireturn
    exact s_ireturn rfl .int rfl rfl (h0 e x)
  refine s_aload_n 1 rfl rfl rfl ?_
  refine s_getfield 12 41 4 rfl rfl fl_Mod_235 h_this rfl ?_
  refine s_l2i 5 rfl rfl ?_
  refine s_ist3 6 rfl rfl rfl ?_
  refine s_aload_n 7 rfl rfl rfl ?_
  refine s_aload_n 8 rfl rfl rfl ?_
  refine s_getfield 12 38 11 rfl rfl fl_Mod_239 h_this rfl ?_
  refine s_iconst 2 12 rfl rfl (by decide) ?_
  refine s_icmp_ne 33 15 rfl rfl (by decide) (fun c1 => ?_) (fun c1 => ?_)
  -- Mod_number 15: branch 33 15
  · refine s_iconst 0 34 rfl rfl (by decide) ?_
    -- Mod_number 34: end
    refine no (decide_eq_false (fun w => c1 ?_)) _
    rw [s1, w.1]
    rfl
  · have e2 : (ti_ (tb_ f2 n) k).1 = 2 := nn_eq (b := 2) (by rw [← s1]; exact c1)
    have d := ti_2 e2
    have ev : va = (vt_ (tb_ f2 n) (ti_ (tb_ f2 n) k)).toInt64 := by
      rw [s5 e2]
      refine nl_nv d.2 (fun j hj => d.1 _ (by omega) (by omega))
    have ex : va.toInt32 = vt_ (tb_ f2 n) (ti_ (tb_ f2 n) k) := by rw [ev, Int32.toInt32_toInt64]
    have hb : (lo.toInt64 ≤ va ∧ va ≤ hi.toInt64) ↔ (lo ≤ vt_ (tb_ f2 n) (ti_ (tb_ f2 n) k) ∧ vt_ (tb_ f2 n) (ti_ (tb_ f2 n) k) ≤ hi) := by rw [ev, i64_le, i64_le]
    refine s_aload_n 16 rfl rfl rfl ?_
    refine s_getfield 12 41 19 rfl rfl fl_Mod_235 h_this rfl ?_
    refine s_iload_n 20 rfl rfl rfl ?_
    refine s_i2l 21 rfl rfl ?_
    refine s_iload_n 22 rfl rfl rfl ?_
    refine s_i2l 23 rfl rfl ?_
    refine c_callS3 (h+3) 26 rfl rfl mv_Mod_134 (by omega) (Nat.le_of_ble_eq_true rfl) (Nat.le_of_ble_eq_true rfl) ?_
    -- Mod_number 26: call Mod_in
    refine m_Mod_in ?_
    dsimp only [ax_rs]
    refine s_if_eq 33 29 rfl rfl (by decide) (fun c2 => ?_) (fun c2 => ?_)
    -- Mod_number 29: branch 33 29
    · rw [bi_0] at c2
      refine s_iconst 0 34 rfl rfl (by decide) ?_
      -- Mod_number 34: end
      exact no (decide_eq_false (fun w => c2 (hb.mpr w.2))) _
    · rw [bi_0, Classical.not_not] at c2
      have yes : nu_ (tb_ f2 n) (ti_ (tb_ f2 n) k) lo hi = true := decide_eq_true ⟨e2, hb.mp c2⟩
      refine s_iconst 1 30 rfl rfl (by decide) ?_
      refine s_goto 34 rfl (by decide) ?_
      refine c_callV1 (h+3) 37 rfl rfl mv_Mod_257 (by omega) (Nat.le_of_ble_eq_true rfl) (Nat.le_of_ble_eq_true rfl) h_this rfl rfl ?_
      -- Mod_number 37: call Mod_want
      refine d_wantT (h := h) hT hk (by rw [e2]; decide) (by rw [e2]; decide) hs h_this h_text (fun tk2 pl2 bh2 va2 e => ?_)
      dsimp only [ax_rs]
      rw [ex]
      refine s_iload_n 38 rfl rfl rfl ?_
      -- Mod_number 38: ireturn
      exact s_ireturn rfl .int rfl rfl (h1 yes tk2 pl2 bh2 va2 e)
end MWORD
