/-! read: the reference -/
theorem tb_m1 {f : Nat → Int32} {n p : Nat} (h : ¬ p < n) : tb_ f n p = -1 := by
  unfold tb_
  rw [if_neg h]
theorem tb_in {f : Nat → Int32} {n p : Nat} (h : p < n) : tb_ f n p = f p := by
  unfold tb_
  rw [if_pos h]
section MREAD
variable {g : ax_Y} {M : ax_M} {Q : Option Value → ax_M → Prop} {h n : Nat} {s : Sta} {dr pa cm os gm tk pl bh : Int32} {va : Int64} {iw od : Int32} {f2 vs : Nat → Int32}
theorem m_Mod_isAt {p : Nat} {lo hi nn bl ln al ru pv si : Int32} (h_this : oC M 143 12 (md_f (nI n) bl ln dr al ru pv si pa cm os gm tk pl bh va iw od)) (h_text : iA M 144 160 f2) (hn : n ≤ 160) (hp : p < 65536) (hl : 0 ≤ lo) (hq : Q (some (.int (bi (lo ≤ tb_ f2 n p ∧ tb_ f2 n p ≤ hi)))) M) : ax_G g mt_Mod_isAt (h + 1) 0 0 0 [.ref 143, .int (nI p), .int lo, .int hi] [] M Q := by
  refine s_iload_n 1 rfl rfl rfl ?_
  refine s_aload_n 2 rfl rfl rfl ?_
  refine s_getfield 12 1 5 rfl rfl fl_Mod_138 h_this rfl ?_
  refine s_icmp_ge 29 8 rfl rfl (by decide) (fun c1 => ?_) (fun c1 => ?_)
  -- Mod_isAt 8: branch 29 8
  · rw [tb_m1 (by have := nn_le c1; omega), bi_f (fun q => absurd (Int32.le_trans hl q.1) (by decide))] at hq
    refine s_iconst 0 30 rfl rfl (by decide) ?_
    -- Mod_isAt 30: ireturn
    exact s_ireturn rfl .boolean rfl rfl (hq)
  · have c1 := nn_nle c1
    rw [tb_in c1] at hq
    refine s_aload_n 9 rfl rfl rfl ?_
    refine s_getfield 12 0 12 rfl rfl fl_Mod_7 h_this rfl ?_
    refine s_iload_n 13 rfl rfl rfl ?_
    refine s_iaload (p) 14 rfl rfl h_text rfl (by omega) (by decide) ?_
    refine s_i2l 15 rfl rfl ?_
    refine s_iload_n 16 rfl rfl rfl ?_
    refine s_i2l 17 rfl rfl ?_
    refine s_iload_n 18 rfl rfl rfl ?_
    refine s_i2l 19 rfl rfl ?_
    refine c_callS3 h 22 rfl rfl mv_Mod_134 (by omega) (Nat.le_of_ble_eq_true rfl) (Nat.le_of_ble_eq_true rfl) ?_
    -- Mod_isAt 22: call Mod_in
    refine m_Mod_inI (lo := lo) (hi := hi) rfl rfl ?_
    dsimp only [ax_rs]
    refine s_if_eq 29 25 rfl rfl (by decide) (fun c2 => ?_) (fun c2 => ?_)
    -- Mod_isAt 25: branch 29 25
    · rw [c2] at hq
      refine s_iconst 0 30 rfl rfl (by decide) ?_
      -- Mod_isAt 30: ireturn
      exact s_ireturn rfl .boolean rfl rfl (hq)
    · rw [bi_0, Classical.not_not] at c2
      rw [bi_t c2] at hq
      refine s_iconst 1 26 rfl rfl (by decide) ?_
      refine s_goto 30 rfl (by decide) ?_
      -- Mod_isAt 30: ireturn
      exact s_ireturn rfl .boolean rfl rfl (hq)
theorem m_Mod_isTold {a : Nat} (hK : KM M s (nI n) dr pa cm os gm tk pl bh va iw od) (h_four : iA M 183 4 vs) (hq : ∀ b : Bool, (b = true ↔ ∃ a, a < sAl s ∧ sSt s a = 0 ∧ sKi s a = vs 0 ∧ sLi s a = vs 1 ∧ sPp s a = vs 2 ∧ sQq s a = vs 3) → Q (some (.int (if b then 1 else 0))) M) : ax_G g mt_Mod_isTold h 0 0 0 [.ref 143, .float 0, .float 0] [] M Q := by
  obtain ⟨b1, b2, b3, b4, b5⟩ := hK.bd
  refine s_iconst 0 1 rfl rfl (by decide) ?_
  refine s_ist1 2 rfl rfl rfl ?_
  refine s_iconst 0 3 rfl rfl (by decide) ?_
  refine s_ist2 4 rfl rfl rfl ?_
  -- Mod_isTold 4: end
  have loop : ∀ (d i : Nat) (x : Bool), i + d = sAl s → (x = true ↔ ∃ a, a < i ∧ sSt s a = 0 ∧ sKi s a = vs 0 ∧ sLi s a = vs 1 ∧ sPp s a = vs 2 ∧ sQq s a = vs 3) → ax_G g mt_Mod_isTold h 0 0 4 [.ref 143, .int (if x then 1 else 0), .int (nI i)] [] M Q := by
    intro d
    induction d with
    | zero =>
      intro i x hi hx
      obtain rfl : i = sAl s := by omega
      refine s_iload_n 5 rfl rfl rfl ?_
      refine s_aload_n 6 rfl rfl rfl ?_
      refine s_getfield 12 15 9 rfl rfl fl_Mod_169 hK.this rfl ?_
      refine s_icmp_ge 97 12 rfl rfl (by decide) (fun c1 => ?_) (fun c1 => ?_)
      -- Mod_isTold 12: branch 97 12
      · refine s_iload_n 98 rfl rfl rfl ?_
        -- Mod_isTold 98: ireturn
        have nr : narrow .boolean (.int (if x = true then 1 else 0)) = .int (if x = true then 1 else 0) := by cases x <;> rfl
        exact s_ireturn rfl .boolean rfl nr (hq x hx)
      · exact absurd (nn_nle c1) (by omega)
    | succ d ih =>
      intro i x hi hx
      have yes : (x = true ∨ (sSt s i = 0 ∧ sKi s i = vs 0 ∧ sLi s i = vs 1 ∧ sPp s i = vs 2 ∧ sQq s i = vs 3)) → ax_G g mt_Mod_isTold h 0 0 85 [.ref 143, .int (if x then 1 else 0), .int (nI i)] [] M Q := by
        intro q
        refine s_iconst 1 86 rfl rfl (by decide) ?_
        refine s_goto 90 rfl (by decide) ?_
        refine s_ist1 91 rfl rfl rfl ?_
        refine s_inc2 _ 94 rfl rfl rfl rfl ?_
        refine s_goto 4 rfl (by decide) ?_
        -- Mod_isTold 4: end
        rw [inc1]
        refine ih (i + 1) true (by omega) ⟨fun _ => ?_, fun _ => rfl⟩
        rcases q with q | q
        · obtain ⟨a, ha, w⟩ := hx.mp q
          exact ⟨a, by omega, w⟩
        · exact ⟨i, by omega, q⟩
      have no : x = false → ¬ (sSt s i = 0 ∧ sKi s i = vs 0 ∧ sLi s i = vs 1 ∧ sPp s i = vs 2 ∧ sQq s i = vs 3) → ax_G g mt_Mod_isTold h 0 0 89 [.ref 143, .int (if x then 1 else 0), .int (nI i)] [] M Q := by
        intro q1 q2
        refine s_iconst 0 90 rfl rfl (by decide) ?_
        refine s_ist1 91 rfl rfl rfl ?_
        refine s_inc2 _ 94 rfl rfl rfl rfl ?_
        refine s_goto 4 rfl (by decide) ?_
        -- Mod_isTold 4: end
        rw [inc1]
        refine ih (i + 1) false (by omega) ⟨fun w => (by cases w), fun ⟨a, ha, w⟩ => ?_⟩
        by_cases z : a = i
        · subst z; exact absurd w q2
        · rw [hx.mpr ⟨a, by omega, w⟩] at q1; cases q1
      refine s_iload_n 5 rfl rfl rfl ?_
      refine s_aload_n 6 rfl rfl rfl ?_
      refine s_getfield 12 15 9 rfl rfl fl_Mod_169 hK.this rfl ?_
      refine s_icmp_ge 97 12 rfl rfl (by decide) (fun c2 => ?_) (fun c2 => ?_)
      -- Mod_isTold 12: branch 97 12
      · exact absurd (nn_le c2) (by omega)
      · refine s_iload_n 13 rfl rfl rfl ?_
        refine s_if_ne 85 16 rfl rfl (by decide) (fun c3 => ?_) (fun c3 => ?_)
        -- Mod_isTold 16: branch 85 16
        · rw [i01] at c3
          exact yes (Or.inl (by simpa using c3))
        · rw [i01] at c3
          refine s_aload_n 17 rfl rfl rfl ?_
          refine s_getfield 12 21 20 rfl rfl fl_Mod_58 hK.this rfl ?_
          refine s_iload_n 21 rfl rfl rfl ?_
          refine s_iaload (i) 22 rfl rfl hK.state rfl (by omega) (by decide) ?_
          refine s_if_ne 89 25 rfl rfl (by decide) (fun c4 => ?_) (fun c4 => ?_)
          -- Mod_isTold 25: branch 89 25
          · exact no c3 (fun q => c4 q.1)
          · refine s_aload_n 26 rfl rfl rfl ?_
            refine s_getfield 12 17 29 rfl rfl fl_Mod_46 hK.this rfl ?_
            refine s_iload_n 30 rfl rfl rfl ?_
            refine s_iaload (i) 31 rfl rfl hK.kindOf rfl (by omega) (by decide) ?_
            refine s_aload_n 32 rfl rfl rfl ?_
            refine s_getfield 12 57 35 rfl rfl fl_Mod_129 hK.this rfl ?_
            refine s_iconst 0 36 rfl rfl (by decide) ?_
            refine s_iaload (0) 37 rfl rfl h_four rfl (by omega) (by decide) ?_
            refine s_icmp_ne 89 40 rfl rfl (by decide) (fun c5 => ?_) (fun c5 => ?_)
            -- Mod_isTold 40: branch 89 40
            · exact no c3 (fun q => c5 q.2.1)
            · refine s_aload_n 41 rfl rfl rfl ?_
              refine s_getfield 12 16 44 rfl rfl fl_Mod_43 hK.this rfl ?_
              refine s_iload_n 45 rfl rfl rfl ?_
              refine s_iaload (i) 46 rfl rfl hK.lineOf rfl (by omega) (by decide) ?_
              refine s_aload_n 47 rfl rfl rfl ?_
              refine s_getfield 12 57 50 rfl rfl fl_Mod_129 hK.this rfl ?_
              refine s_iconst 1 51 rfl rfl (by decide) ?_
              refine s_iaload (1) 52 rfl rfl h_four rfl (by omega) (by decide) ?_
              refine s_icmp_ne 89 55 rfl rfl (by decide) (fun c6 => ?_) (fun c6 => ?_)
              -- Mod_isTold 55: branch 89 55
              · exact no c3 (fun q => c6 q.2.2.1)
              · refine s_aload_n 56 rfl rfl rfl ?_
                refine s_getfield 12 19 59 rfl rfl fl_Mod_52 hK.this rfl ?_
                refine s_iload_n 60 rfl rfl rfl ?_
                refine s_iaload (i) 61 rfl rfl hK.above rfl (by omega) (by decide) ?_
                refine s_aload_n 62 rfl rfl rfl ?_
                refine s_getfield 12 57 65 rfl rfl fl_Mod_129 hK.this rfl ?_
                refine s_iconst 2 66 rfl rfl (by decide) ?_
                refine s_iaload (2) 67 rfl rfl h_four rfl (by omega) (by decide) ?_
                refine s_icmp_ne 89 70 rfl rfl (by decide) (fun c7 => ?_) (fun c7 => ?_)
                -- Mod_isTold 70: branch 89 70
                · exact no c3 (fun q => c7 q.2.2.2.1)
                · refine s_aload_n 71 rfl rfl rfl ?_
                  refine s_getfield 12 20 74 rfl rfl fl_Mod_55 hK.this rfl ?_
                  refine s_iload_n 75 rfl rfl rfl ?_
                  refine s_iaload (i) 76 rfl rfl hK.below rfl (by omega) (by decide) ?_
                  refine s_aload_n 77 rfl rfl rfl ?_
                  refine s_getfield 12 57 80 rfl rfl fl_Mod_129 hK.this rfl ?_
                  refine s_iconst 3 81 rfl rfl (by decide) ?_
                  refine s_iaload (3) 82 rfl rfl h_four rfl (by omega) (by decide) ?_
                  refine s_icmp_ne 89 85 rfl rfl (by decide) (fun c8 => ?_) (fun c8 => ?_)
                  -- Mod_isTold 85: branch 89 85
                  · exact no c3 (fun q => c8 q.2.2.2.2)
                  · exact yes (Or.inr ⟨c4, c5, c6, c7, c8⟩)
  exact loop (sAl s) 0 false (by omega) ⟨fun w => (by cases w), fun ⟨a, ha, _⟩ => absurd ha (Nat.not_lt_zero a)⟩
/-- the digits of one field: from 37 to 98 -/
theorem rd_loop {p0 : Nat} {at2 : Int32} {z2 z3 z4 z7 : Value} (h2 : z2.category = 1) (h3 : z3.category = 1) (h4 : z4.category = 1) (hK : KM M s (nI n) dr pa cm os gm tk pl bh va iw od) (h_text : iA M 144 160 f2) (hn : n ≤ 160) (hp : p0 ≤ n) (ct : ax_G g mt_Mod_read (h + 2) 0 0 98 [.ref 143, .int (nI (rf_ (tb_ f2 n) 0 p0).2.1), z2, z3, z4, .int (nI p0), .int (rf_ (tb_ f2 n) 0 p0).2.2, z7] [] M Q) : ax_G g mt_Mod_read (h + 2) 0 0 37 [.ref 143, .int (nI p0), z2, z3, z4, .int (nI p0), .int 0, z7] [] M Q := by
  have loop : ∀ (d i : Nat) (v : Int32), i + d = 4 → p0 + i ≤ n → (i = 0 ∨ (dg_ (tb_ f2 n) p0 = true ∧ f2 p0 ≠ 48)) → rd_ (tb_ f2 n) d (p0 + i) v = (rf_ (tb_ f2 n) 0 p0).2 → tb_ f2 n p0 ≠ 48 → ax_G g mt_Mod_read (h + 2) 0 0 37 [.ref 143, .int (nI (p0 + i)), z2, z3, z4, .int (nI p0), .int v, z7] [] M Q := by
    intro d
    induction d with
    | zero =>
      intro i v hi hpi _ e _
      obtain rfl : i = 4 := by omega
      rw [rd_] at e
      rw [← e] at ct
      refine s_iload_n 38 rfl rfl rfl ?_
      refine s_iload 40 rfl rfl rfl ?_
      refine s_isub 41 rfl rfl ?_
      -- Mod_read 41: end
      rw [pk_sub (by omega)]
      refine s_iconst 4 42 rfl rfl (by decide) ?_
      refine s_icmp_ge 98 45 rfl rfl (by decide) (fun c1 => ?_) (fun c1 => ?_)
      -- Mod_read 45: branch 98 45
      · exact ct
      · exact absurd (nn_nle (b := p0 + 4 - p0) (a := 4) c1) (by omega)
    | succ d ih =>
      intro i v hi hpi h0 e h48
      rw [rd_] at e
      refine s_iload_n 38 rfl rfl rfl ?_
      refine s_iload 40 rfl rfl rfl ?_
      refine s_isub 41 rfl rfl ?_
      -- Mod_read 41: end
      rw [pk_sub (by omega)]
      refine s_iconst 4 42 rfl rfl (by decide) ?_
      refine s_icmp_ge 98 45 rfl rfl (by decide) (fun c2 => ?_) (fun c2 => ?_)
      -- Mod_read 45: branch 98 45
      · exact absurd (nn_le (a := 4) c2) (by omega)
      · refine s_aload_n 46 rfl rfl rfl ?_
        refine s_iload_n 47 rfl rfl rfl ?_
        refine s_bipush 48 49 rfl rfl (by decide) ?_
        refine s_bipush 57 51 rfl rfl (by decide) ?_
        refine c_callV3 (h+1) 54 rfl rfl mv_Mod_228 (by omega) (Nat.le_of_ble_eq_true rfl) (Nat.le_of_ble_eq_true rfl) hK.this rfl rfl ?_
        -- Mod_read 54: call Mod_isAt
        refine m_Mod_isAt (h := h) (nn := 0) hK.this h_text hn (by omega) (by decide) ?_
        dsimp only [ax_rs]
        refine s_if_eq 98 57 rfl rfl (by decide) (fun c3 => ?_) (fun c3 => ?_)
        -- Mod_read 57: branch 98 57
        · rw [bi_0] at c3
          rw [if_neg (by unfold dg_; simpa using c3)] at e
          rw [← e] at ct
          exact ct
        · rw [bi_0, Classical.not_not] at c3
          have dq : dg_ (tb_ f2 n) (p0 + i) = true := decide_eq_true c3
          have qn := dg_n dq
          rw [if_pos dq, tb_in qn] at e
          have go : ax_G g mt_Mod_read (h + 2) 0 0 75 [.ref 143, .int (nI (p0 + i)), z2, z3, z4, .int (nI p0), .int v, z7] [] M Q := by
            refine s_bipush 10 77 rfl rfl (by decide) ?_
            refine s_iload 79 rfl rfl rfl ?_
            refine s_imul 80 rfl rfl ?_
            refine s_aload_n 81 rfl rfl rfl ?_
            refine s_getfield 12 0 84 rfl rfl fl_Mod_7 hK.this rfl ?_
            refine s_iload_n 85 rfl rfl rfl ?_
            refine s_iaload (p0 + i) 86 rfl rfl h_text rfl (by omega) (by decide) ?_
            refine s_iadd 87 rfl rfl ?_
            refine s_bipush 48 89 rfl rfl (by decide) ?_
            refine s_isub 90 rfl rfl ?_
            refine s_ist6 92 rfl rfl rfl ?_
            refine s_inc1 _ 95 rfl rfl rfl rfl ?_
            refine s_goto 37 rfl (by decide) ?_
            -- Mod_read 37: end
            rw [inc1, show p0 + i + 1 = p0 + (i + 1) by omega, Int32.mul_comm 10 v]
            refine ih (i + 1) _ (by omega) (by omega) (Or.inr ?_) e h48
            rcases h0 with h0 | h0
            · subst h0
              rw [Nat.add_zero] at dq qn
              refine ⟨dq, ?_⟩
              rw [tb_in qn] at h48
              exact h48
            · exact h0
          refine s_iload_n 58 rfl rfl rfl ?_
          refine s_iload 60 rfl rfl rfl ?_
          refine s_icmp_eq 75 63 rfl rfl (by decide) (fun c4 => ?_) (fun c4 => ?_)
          -- Mod_read 63: branch 75 63
          · exact go
          · have ni : i ≠ 0 := fun q => c4 (by rw [q, Nat.add_zero])
            obtain ⟨u1, u2⟩ := h0.resolve_left ni
            have u3 := dg_n u1
            refine s_aload_n 64 rfl rfl rfl ?_
            refine s_getfield 12 0 67 rfl rfl fl_Mod_7 hK.this rfl ?_
            refine s_iload 69 rfl rfl rfl ?_
            refine s_iaload (p0) 70 rfl rfl h_text rfl (by omega) (by decide) ?_
            refine s_bipush 48 72 rfl rfl (by decide) ?_
            refine s_icmp_eq 98 75 rfl rfl (by decide) (fun c5 => ?_) (fun c5 => ?_)
            -- Mod_read 75: branch 98 75
            · exact absurd c5 u2
            · exact go
  by_cases z : tb_ f2 n p0 = 48
  · -- a nought is a number by itself
    have qn : p0 < n := by
      by_cases w : p0 < n
      · exact w
      · rw [tb_m1 w] at z
        exact absurd z (by decide)
    have z2' : f2 p0 = 48 := by rw [← tb_in (f := f2) qn]; exact z
    have dq : dg_ (tb_ f2 n) p0 = true := by unfold dg_; rw [z]; decide
    have e : (rf_ (tb_ f2 n) 0 p0).2 = (p0 + 1, 0 * 10 + f2 p0 - 48) := by
      unfold rf_
      rw [if_pos z, rd_, if_pos dq, rd_, tb_in qn]
    rw [e] at ct
    refine s_iload_n 38 rfl rfl rfl ?_
    refine s_iload 40 rfl rfl rfl ?_
    refine s_isub 41 rfl rfl ?_
    -- Mod_read 41: end
    rw [pk_sub (Nat.le_refl p0)]
    refine s_iconst 4 42 rfl rfl (by decide) ?_
    refine s_icmp_ge 98 45 rfl rfl (by decide) (fun c1 => ?_) (fun c1 => ?_)
    -- Mod_read 45: branch 98 45
    · exact absurd (nn_le (a := 4) c1) (by omega)
    · refine s_aload_n 46 rfl rfl rfl ?_
      refine s_iload_n 47 rfl rfl rfl ?_
      refine s_bipush 48 49 rfl rfl (by decide) ?_
      refine s_bipush 57 51 rfl rfl (by decide) ?_
      refine c_callV3 (h+1) 54 rfl rfl mv_Mod_228 (by omega) (Nat.le_of_ble_eq_true rfl) (Nat.le_of_ble_eq_true rfl) hK.this rfl rfl ?_
      -- Mod_read 54: call Mod_isAt
      refine m_Mod_isAt (h := h) (nn := 0) hK.this h_text hn (by omega) (by decide) ?_
      dsimp only [ax_rs]
      rw [bi_t (of_decide_eq_true dq)]
      refine s_if_eq 98 57 rfl rfl (by decide) (fun c2 => ?_) (fun c2 => ?_)
      -- Mod_read 57: branch 98 57
      · exact absurd c2 (by decide)
      · refine s_iload_n 58 rfl rfl rfl ?_
        refine s_iload 60 rfl rfl rfl ?_
        refine s_icmp_eq 75 63 rfl rfl (by decide) (fun c3 => ?_) (fun c3 => ?_)
        -- Mod_read 63: branch 75 63
        · refine s_bipush 10 77 rfl rfl (by decide) ?_
          refine s_iload 79 rfl rfl rfl ?_
          refine s_imul 80 rfl rfl ?_
          refine s_aload_n 81 rfl rfl rfl ?_
          refine s_getfield 12 0 84 rfl rfl fl_Mod_7 hK.this rfl ?_
          refine s_iload_n 85 rfl rfl rfl ?_
          refine s_iaload (p0) 86 rfl rfl h_text rfl (by omega) (by decide) ?_
          refine s_iadd 87 rfl rfl ?_
          refine s_bipush 48 89 rfl rfl (by decide) ?_
          refine s_isub 90 rfl rfl ?_
          refine s_ist6 92 rfl rfl rfl ?_
          refine s_inc1 _ 95 rfl rfl rfl rfl ?_
          refine s_goto 37 rfl (by decide) ?_
          -- Mod_read 37: end
          rw [inc1, Int32.mul_comm 10 0]
          refine s_iload_n 38 rfl rfl rfl ?_
          refine s_iload 40 rfl rfl rfl ?_
          refine s_isub 41 rfl rfl ?_
          -- Mod_read 41: end
          rw [pk_sub (by omega)]
          refine s_iconst 4 42 rfl rfl (by decide) ?_
          refine s_icmp_ge 98 45 rfl rfl (by decide) (fun c4 => ?_) (fun c4 => ?_)
          -- Mod_read 45: branch 98 45
          · exact absurd (nn_le (a := 4) c4) (by omega)
          · refine s_aload_n 46 rfl rfl rfl ?_
            refine s_iload_n 47 rfl rfl rfl ?_
            refine s_bipush 48 49 rfl rfl (by decide) ?_
            refine s_bipush 57 51 rfl rfl (by decide) ?_
            refine c_callV3 (h+1) 54 rfl rfl mv_Mod_228 (by omega) (Nat.le_of_ble_eq_true rfl) (Nat.le_of_ble_eq_true rfl) hK.this rfl rfl ?_
            -- Mod_read 54: call Mod_isAt
            refine m_Mod_isAt (h := h) (nn := 0) hK.this h_text hn (by omega) (by decide) ?_
            dsimp only [ax_rs]
            refine s_if_eq 98 57 rfl rfl (by decide) (fun c5 => ?_) (fun c5 => ?_)
            -- Mod_read 57: branch 98 57
            · exact ct
            · refine s_iload_n 58 rfl rfl rfl ?_
              refine s_iload 60 rfl rfl rfl ?_
              refine s_icmp_eq 75 63 rfl rfl (by decide) (fun c6 => ?_) (fun c6 => ?_)
              -- Mod_read 63: branch 75 63
              · exact absurd (nn_eq c6) (by omega)
              · refine s_aload_n 64 rfl rfl rfl ?_
                refine s_getfield 12 0 67 rfl rfl fl_Mod_7 hK.this rfl ?_
                refine s_iload 69 rfl rfl rfl ?_
                refine s_iaload (p0) 70 rfl rfl h_text rfl (by omega) (by decide) ?_
                refine s_bipush 48 72 rfl rfl (by decide) ?_
                refine s_icmp_eq 98 75 rfl rfl (by decide) (fun c7 => ?_) (fun c7 => ?_)
                -- Mod_read 75: branch 98 75
                · exact ct
                · exact absurd z2' c7
        · exact absurd rfl c3
  · refine loop 4 0 0 (by omega) (by omega) (Or.inl rfl) ?_ z
    unfold rf_
    rw [if_neg z]
    rfl
end MREAD
