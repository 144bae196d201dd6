/-! of -/
def of_ (s : Sta) (bo : Nat → Nat) (a w : Nat) : Int32 := if w = 0 then sLi s a else if w = 1 then sKi s a else if w = 2 then sWa s a else if w = 3 then sSt s a else if w = 4 then bi (cz (sWa s a) (sKn s) = true) else if w = 5 then sv_ s a else if w = 7 then nI ((if sSt s a = 0 then 1 else 0) + bo a) else if w = 8 then sPp s a else sQq s a
section OF
variable {g : ax_Y} {M : ax_M} {Q : Option Value → ax_M → Prop} {h : Nat} {s : Sta} {dw nw : Nat} {gc pa : Int32} {sl : Nat → Option Nat} {n dr cm os gm tk pl bh : Int32} {va : Int64} {iw od : Int32}
theorem m_Top_buildsOf {a : Nat} {pt : Nat → Int64} (hK : KC M s dw nw gc pa sl) (h_past : lA M 78 48 pt) (ha : a < sAl s) (hq : Q (some (.int (nI ((if sSt s a = 0 then 1 else 0) + cnt (fun b => lb (pt (4 * b)) a) (sBl s - 1))))) M) : ax_G g mt_Top_buildsOf h 0 0 0 [.ref 0, .int (nI a), .float 0, .float 0] [] M Q := by
  obtain ⟨b1, b2, b3, b4, b5⟩ := hK.bd
  have main : ∀ b0 : Nat, b0 = (if sSt s a = 0 then 1 else 0) → ax_G g mt_Top_buildsOf h 0 0 17 [.ref 0, .int (nI a), .float 0, .float 0] [.int (nI b0)] M Q := by
    intro b0 hb0
    rw [← hb0] at hq
    refine s_ist2 18 rfl rfl rfl ?_
    refine s_iconst 0 19 rfl rfl (by decide) ?_
    refine s_ist3 20 rfl rfl rfl ?_
    -- Top_buildsOf 20: end
    have loop : ∀ (d b : Nat), b + d = sBl s - 1 → ax_G g mt_Top_buildsOf h 0 0 20 [.ref 0, .int (nI a), .int (nI (b0 + cnt (fun b => lb (pt (4 * b)) a) b)), .int (nI b)] [] M Q := by
      intro d
      induction d with
      | zero =>
        intro b hb
        obtain rfl : b = sBl s - 1 := by omega
        refine s_iload_n 21 rfl rfl rfl ?_
        refine s_aload_n 22 rfl rfl rfl ?_
        refine s_getfield 11 14 25 rfl rfl fl_Top_114 hK.top rfl ?_
        refine s_iconst 1 26 rfl rfl (by decide) ?_
        refine s_isub 27 rfl rfl ?_
        refine s_icmp_ge 58 30 rfl rfl (by decide) (fun c1 => ?_) (fun c1 => ?_)
        -- Top_buildsOf 30: branch 58 30
        · refine s_iload_n 59 rfl rfl rfl ?_
          -- Top_buildsOf 59: ireturn
          exact s_ireturn rfl .int rfl rfl (hq)
        · refine absurd ?_ c1
          cases e : sBl s with
          | zero => decide
          | succ m => rw [nI_pred, Nat.add_sub_cancel]; exact Int32.le_refl _
      | succ d ih =>
        intro b hb
        have nx := ih (b + 1) (by omega)
        rw [cnt] at nx
        refine s_iload_n 21 rfl rfl rfl ?_
        refine s_aload_n 22 rfl rfl rfl ?_
        refine s_getfield 11 14 25 rfl rfl fl_Top_114 hK.top rfl ?_
        refine s_iconst 1 26 rfl rfl (by decide) ?_
        refine s_isub 27 rfl rfl ?_
        -- Top_buildsOf 27: end
        rw [show nI (sBl s) = nI (sBl s - 1 + 1) by rw [show sBl s - 1 + 1 = sBl s by omega], nI_pred]
        refine s_icmp_ge 58 30 rfl rfl (by decide) (fun c2 => ?_) (fun c2 => ?_)
        -- Top_buildsOf 30: branch 58 30
        · exact absurd (nn_le c2) (by omega)
        · refine s_aload_n 31 rfl rfl rfl ?_
          refine s_getfield 11 11 34 rfl rfl fl_Top_76 hK.top rfl ?_
          refine s_iload_n 35 rfl rfl rfl ?_
          refine s_iconst 4 36 rfl rfl (by decide) ?_
          refine s_imul 37 rfl rfl ?_
          -- Top_buildsOf 37: end
          rw [show nI b * 4 = nI (4 * b) by rw [show (4 : Int32) = nI 4 from rfl, pk_mul, Nat.mul_comm]]
          refine s_iconst 0 38 rfl rfl (by decide) ?_
          refine s_iadd 39 rfl rfl ?_
          -- Top_buildsOf 39: end
          rw [show nI (4 * b) + 0 = nI (4 * b + 0) from nI_add _ 0, Nat.add_zero]
          refine s_laload (4 * b) 40 rfl rfl h_past rfl (by omega) (by decide) ?_
          refine s_iload_n 41 rfl rfl rfl ?_
          refine s_lushr 42 rfl rfl ?_
          refine s_lconst 1 43 rfl rfl (by decide) ?_
          refine s_land 44 rfl rfl ?_
          -- Top_buildsOf 44: end
          rw [l_tsu _ (by omega)]
          refine s_lconst 0 45 rfl rfl (by decide) ?_
          refine s_lcmp 46 rfl rfl ?_
          -- Top_buildsOf 46: end
          rw [l_c0]
          refine s_if_eq 52 49 rfl rfl (by decide) (fun c3 => ?_) (fun c3 => ?_)
          -- Top_buildsOf 49: branch 52 49
          · rw [i01] at c3
            rw [if_neg (by simp [c3])] at nx
            refine s_inc3 _ 55 rfl rfl rfl rfl ?_
            refine s_goto 20 rfl (by decide) ?_
            -- Top_buildsOf 20: end
            rw [inc1]
            exact nx
          · rw [i01] at c3
            rw [if_pos (by simpa using c3), ← Nat.add_assoc] at nx
            refine s_inc2 _ 52 rfl rfl rfl rfl ?_
            refine s_inc3 _ 55 rfl rfl rfl rfl ?_
            refine s_goto 20 rfl (by decide) ?_
            -- Top_buildsOf 20: end
            rw [inc1, inc1]
            exact nx
    exact loop (sBl s - 1) 0 (by omega)
  refine s_aload_n 1 rfl rfl rfl ?_
  refine s_getfield 11 3 4 rfl rfl fl_Top_31 hK.top rfl ?_
  refine s_getfield 0 5 7 rfl rfl fl_Top_162 hK.alarms rfl ?_
  refine s_iload_n 8 rfl rfl rfl ?_
  refine s_iaload (a) 9 rfl rfl hK.state rfl (by omega) (by decide) ?_
  refine s_if_ne 16 12 rfl rfl (by decide) (fun c4 => ?_) (fun c4 => ?_)
  -- Top_buildsOf 12: branch 16 12
  · refine s_iconst 0 17 rfl rfl (by decide) ?_
    -- Top_buildsOf 17: end
    exact main 0 (by rw [if_neg c4])
  · refine s_iconst 1 13 rfl rfl (by decide) ?_
    refine s_goto 17 rfl (by decide) ?_
    -- Top_buildsOf 17: end
    exact main 1 (by rw [if_pos c4])
theorem c_of {x y : Int32} {pt : Nat → Int64} (hK : KC M s dw nw gc pa sl) (h_past : lA M 78 48 pt) (h1 : ((x < 0 ∨ nI (sAl s) ≤ x) ∨ (y < 0 ∨ nI 10 ≤ y)) → Q (some (.int (-2))) M) (h2 : ∀ a w, a < sAl s → x = nI a → w < 10 → y = nI w → w ≠ 6 → Q (some (.int (of_ s (fun a => cnt (fun b => lb (pt (4 * b)) a) (sBl s - 1)) a w))) M) (h3 : ∀ a, a < sAl s → x = nI a → y = nI 6 → ax_G g mt_Top_of (h + 6) 0 0 139 [.ref 0, .int (nI a), .int (nI 6)] [] M Q) : ax_G g mt_Top_of (h + 6) 0 0 0 [.ref 0, .int x, .int y] [] M Q := by
  obtain ⟨b1, b2, b3, b4, b5⟩ := hK.bd
  refine s_aload_n 1 rfl rfl rfl ?_
  refine s_getfield 11 3 4 rfl rfl fl_Top_31 hK.top rfl ?_
  refine s_iload_n 5 rfl rfl rfl ?_
  refine c_callV1 (h+5) 8 rfl rfl mv_Top_152 (by omega) (Nat.le_of_ble_eq_true rfl) (Nat.le_of_ble_eq_true rfl) hK.alarms rfl rfl ?_
  -- Top_of 8: call Alarms_has
  refine m_Alarms_has hK.alarms ?_
  dsimp only [ax_rs]
  rcases in_or (x := x) (n := sAl s) (by omega) with ⟨a, ha, rfl⟩ | c
  · rw [bi_t (in_bi ha (by omega) rfl)]
    refine s_if_ne 14 11 rfl rfl (by decide) (fun c1 => ?_) (fun c1 => ?_)
    -- Top_of 11: branch 14 11
    · refine s_iload_n 15 rfl rfl rfl ?_
      -- Top_of 15: end
      rcases in_or (x := y) (n := 10) (by omega) with ⟨w, hw, rfl⟩ | z
      · have h2 := h2 a w ha rfl hw rfl
        unfold of_ at h2
        rcases (by omega : w = 0 ∨ w = 1 ∨ w = 2 ∨ w = 3 ∨ w = 4 ∨ w = 5 ∨ w = 6 ∨ w = 7 ∨ w = 8 ∨ w = 9) with rfl | rfl | rfl | rfl | rfl | rfl | rfl | rfl | rfl | rfl
        · refine s_tabIn 68 rfl (by decide) (by decide) rfl (by decide) ?_
          -- to 68
          refine s_aload_n 69 rfl rfl rfl ?_
          refine s_getfield 11 3 72 rfl rfl fl_Top_31 hK.top rfl ?_
          refine s_getfield 0 0 75 rfl rfl fl_Top_153 hK.alarms rfl ?_
          refine s_iload_n 76 rfl rfl rfl ?_
          refine s_iaload (a) 77 rfl rfl hK.line rfl (by omega) (by decide) ?_
          -- Top_of 77: ireturn
          exact s_ireturn rfl .int rfl rfl (h2 (by decide))
        · refine s_tabIn 78 rfl (by decide) (by decide) rfl (by decide) ?_
          -- to 78
          refine s_aload_n 79 rfl rfl rfl ?_
          refine s_getfield 11 3 82 rfl rfl fl_Top_31 hK.top rfl ?_
          refine s_getfield 0 1 85 rfl rfl fl_Top_156 hK.alarms rfl ?_
          refine s_iload_n 86 rfl rfl rfl ?_
          refine s_iaload (a) 87 rfl rfl hK.kind rfl (by omega) (by decide) ?_
          -- Top_of 87: ireturn
          exact s_ireturn rfl .int rfl rfl (h2 (by decide))
        · refine s_tabIn 88 rfl (by decide) (by decide) rfl (by decide) ?_
          -- to 88
          refine s_aload_n 89 rfl rfl rfl ?_
          refine s_getfield 11 3 92 rfl rfl fl_Top_31 hK.top rfl ?_
          refine s_getfield 0 2 95 rfl rfl fl_Top_159 hK.alarms rfl ?_
          refine s_iload_n 96 rfl rfl rfl ?_
          refine s_iaload (a) 97 rfl rfl hK.wants rfl (by omega) (by decide) ?_
          -- Top_of 97: ireturn
          exact s_ireturn rfl .int rfl rfl (h2 (by decide))
        · refine s_tabIn 98 rfl (by decide) (by decide) rfl (by decide) ?_
          -- to 98
          refine s_aload_n 99 rfl rfl rfl ?_
          refine s_getfield 11 3 102 rfl rfl fl_Top_31 hK.top rfl ?_
          refine s_getfield 0 5 105 rfl rfl fl_Top_162 hK.alarms rfl ?_
          refine s_iload_n 106 rfl rfl rfl ?_
          refine s_iaload (a) 107 rfl rfl hK.state rfl (by omega) (by decide) ?_
          -- Top_of 107: ireturn
          exact s_ireturn rfl .int rfl rfl (h2 (by decide))
        · refine s_tabIn 108 rfl (by decide) (by decide) rfl (by decide) ?_
          -- to 108
          refine s_aload_n 109 rfl rfl rfl ?_
          refine s_getfield 11 3 112 rfl rfl fl_Top_31 hK.top rfl ?_
          refine s_iload_n 113 rfl rfl rfl ?_
          refine s_aload_n 114 rfl rfl rfl ?_
          refine s_getfield 11 4 117 rfl rfl fl_Top_38 hK.top rfl ?_
          refine s_iconst 0 118 rfl rfl (by decide) ?_
          refine c_callV1 (h+5) 121 rfl rfl mv_Top_165 (by omega) (Nat.le_of_ble_eq_true rfl) (Nat.le_of_ble_eq_true rfl) hK.facts rfl rfl ?_
          -- Top_of 121: call Facts_knownWith
          refine m_Facts_knownWith hK.facts hK.ruleSet hK.ruleHead b2 ?_
          dsimp only [ax_rs]
          rw [or0, hK.kn]
          refine c_callV2 (h+5) 124 rfl rfl mv_Top_169 (by omega) (Nat.le_of_ble_eq_true rfl) (Nat.le_of_ble_eq_true rfl) hK.alarms rfl rfl ?_
          -- Top_of 124: call Alarms_isClosed
          refine m_Alarms_isClosed hK.alarms hK.wants (by omega) ?_
          dsimp only [ax_rs]
          have h2 := h2 (by decide)
          simp only [show ¬ (4 = 0) by decide, show ¬ (4 = 1) by decide, show ¬ (4 = 2) by decide, show ¬ (4 = 3) by decide, if_false, if_true] at h2
          refine s_if_eq 131 127 rfl rfl (by decide) (fun c2 => ?_) (fun c2 => ?_)
          -- Top_of 127: branch 131 127
          · rw [c2] at h2
            refine s_iconst 0 132 rfl rfl (by decide) ?_
            -- Top_of 132: ireturn
            exact s_ireturn rfl .int rfl rfl (h2)
          · rw [bi_0, Classical.not_not] at c2
            rw [bi_t c2] at h2
            refine s_iconst 1 128 rfl rfl (by decide) ?_
            refine s_goto 132 rfl (by decide) ?_
            -- Top_of 132: ireturn
            exact s_ireturn rfl .int rfl rfl (h2)
        · refine s_tabIn 133 rfl (by decide) (by decide) rfl (by decide) ?_
          -- to 133
          refine s_aload_n 134 rfl rfl rfl ?_
          refine s_iload_n 135 rfl rfl rfl ?_
          refine c_callV1 (h+5) 138 rfl rfl mv_Top_173 (by omega) (Nat.le_of_ble_eq_true rfl) (Nat.le_of_ble_eq_true rfl) hK.top rfl rfl ?_
          -- Top_of 138: call Top_silencerOf
          refine m_Top_silencerOf (h := h + 3) hK ha ?_
          dsimp only [ax_rs]
          -- Top_of 138: ireturn
          exact s_ireturn rfl .int rfl rfl (h2 (by decide))
        · refine s_tabIn 139 rfl (by decide) (by decide) rfl (by decide) ?_
          -- to 139
          exact h3 a ha rfl rfl
        · refine s_tabIn 160 rfl (by decide) (by decide) rfl (by decide) ?_
          -- to 160
          refine s_aload_n 161 rfl rfl rfl ?_
          refine s_iload_n 162 rfl rfl rfl ?_
          refine c_callV1 (h+5) 165 rfl rfl mv_Top_182 (by omega) (Nat.le_of_ble_eq_true rfl) (Nat.le_of_ble_eq_true rfl) hK.top rfl rfl ?_
          -- Top_of 165: call Top_buildsOf
          refine m_Top_buildsOf hK h_past ha ?_
          dsimp only [ax_rs]
          -- Top_of 165: ireturn
          exact s_ireturn rfl .int rfl rfl (h2 (by decide))
        · refine s_tabIn 166 rfl (by decide) (by decide) rfl (by decide) ?_
          -- to 166
          refine s_aload_n 167 rfl rfl rfl ?_
          refine s_getfield 11 3 170 rfl rfl fl_Top_31 hK.top rfl ?_
          refine s_getfield 0 3 173 rfl rfl fl_Top_185 hK.alarms rfl ?_
          refine s_iload_n 174 rfl rfl rfl ?_
          refine s_iaload (a) 175 rfl rfl hK.p rfl (by omega) (by decide) ?_
          -- Top_of 175: ireturn
          exact s_ireturn rfl .int rfl rfl (h2 (by decide))
        · refine s_tabIn 176 rfl (by decide) (by decide) rfl (by decide) ?_
          -- to 176
          refine s_aload_n 177 rfl rfl rfl ?_
          refine s_getfield 11 3 180 rfl rfl fl_Top_31 hK.top rfl ?_
          refine s_getfield 0 4 183 rfl rfl fl_Top_188 hK.alarms rfl ?_
          refine s_iload_n 184 rfl rfl rfl ?_
          refine s_iaload (a) 185 rfl rfl hK.q rfl (by omega) (by decide) ?_
          -- Top_of 185: ireturn
          exact s_ireturn rfl .int rfl rfl (h2 (by decide))
      · refine s_tabOut 186 rfl ((by have := in_ti (by omega) z; omega)) (by decide) ?_
        -- to 186
        refine s_bipush (-2) 188 rfl rfl (by decide) ?_
        -- Top_of 188: ireturn
        exact s_ireturn rfl .int rfl rfl (h1 (Or.inr z))
    · exact absurd c1 (by decide)
  · rw [bi_f (in_no c)]
    refine s_if_ne 14 11 rfl rfl (by decide) (fun c3 => ?_) (fun c3 => ?_)
    -- Top_of 11: branch 14 11
    · exact absurd rfl c3
    · refine s_bipush (-2) 13 rfl rfl (by decide) ?_
      -- Top_of 13: ireturn
      exact s_ireturn rfl .int rfl rfl (h1 (Or.inl c))
theorem d_of {x y : Int32} {ob : Nat → Int32} (hK : KM M s n dr pa cm os gm tk pl bh va iw od) (h_ofBuilds : iA M 161 50 ob) (h1 : ((x < 0 ∨ nI (sAl s) ≤ x) ∨ (y < 0 ∨ nI 10 ≤ y)) → Q (some (.int (-2))) M) (h2 : ∀ a w, a < sAl s → x = nI a → w < 10 → y = nI w → w ≠ 6 → Q (some (.int (of_ s (fun a => cnt (bt (ob a)) 12) a w))) M) (h3 : ∀ a, a < sAl s → x = nI a → y = nI 6 → ax_G g mt_Mod_of (h + 5) 0 0 132 [.ref 143, .int (nI a), .int (nI 6), .float 0, .float 0] [] M Q) : ax_G g mt_Mod_of (h + 5) 0 0 0 [.ref 143, .int x, .int y, .float 0, .float 0] [] M Q := by
  obtain ⟨b1, b2, b3, b4, b5⟩ := hK.bd
  refine s_aload_n 1 rfl rfl rfl ?_
  refine s_iload_n 2 rfl rfl rfl ?_
  refine c_callV1 (h+4) 5 rfl rfl mv_Mod_178 (by omega) (Nat.le_of_ble_eq_true rfl) (Nat.le_of_ble_eq_true rfl) hK.this rfl rfl ?_
  -- Mod_of 5: call Mod_isAlarm
  refine m_Mod_isAlarm hK.this ?_
  dsimp only [ax_rs]
  rcases in_or (x := x) (n := sAl s) (by omega) with ⟨a, ha, rfl⟩ | c
  · rw [bi_t (in_le ha (by omega) rfl)]
    refine s_if_eq 20 8 rfl rfl (by decide) (fun c1 => ?_) (fun c1 => ?_)
    -- Mod_of 8: branch 20 8
    · exact absurd c1 (by decide)
    · refine s_iload_n 9 rfl rfl rfl ?_
      refine s_i2l 10 rfl rfl ?_
      refine s_lconst 0 11 rfl rfl (by decide) ?_
      refine s_ldc2_w 9 14 rfl rfl kl_Mod_172 ?_
      refine c_callS3 (h+4) 17 rfl rfl mv_Mod_134 (by omega) (Nat.le_of_ble_eq_true rfl) (Nat.le_of_ble_eq_true rfl) ?_
      -- Mod_of 17: call Mod_in
      refine m_Mod_inI (lo := 0) (hi := nI 10 - 1) (by decide) (by decide) ?_
      dsimp only [ax_rs]
      rcases in_or (x := y) (n := 10) (by omega) with ⟨w, hw, rfl⟩ | z
      · rw [bi_t (in_le hw (by omega) rfl)]
        have h2 := h2 a w ha rfl hw rfl
        unfold of_ at h2
        refine s_if_ne 23 20 rfl rfl (by decide) (fun c2 => ?_) (fun c2 => ?_)
        -- Mod_of 20: branch 23 20
        · refine s_iload_n 24 rfl rfl rfl ?_
          -- Mod_of 24: end
          rcases (by omega : w = 0 ∨ w = 1 ∨ w = 2 ∨ w = 3 ∨ w = 4 ∨ w = 5 ∨ w = 6 ∨ w = 7 ∨ w = 8 ∨ w = 9) with rfl | rfl | rfl | rfl | rfl | rfl | rfl | rfl | rfl | rfl
          · refine s_tabIn 76 rfl (by decide) (by decide) rfl (by decide) ?_
            -- to 76
            refine s_aload_n 77 rfl rfl rfl ?_
            refine s_getfield 12 16 80 rfl rfl fl_Mod_43 hK.this rfl ?_
            refine s_iload_n 81 rfl rfl rfl ?_
            refine s_iaload (a) 82 rfl rfl hK.lineOf rfl (by omega) (by decide) ?_
            -- Mod_of 82: ireturn
            exact s_ireturn rfl .int rfl rfl (h2 (by decide))
          · refine s_tabIn 83 rfl (by decide) (by decide) rfl (by decide) ?_
            -- to 83
            refine s_aload_n 84 rfl rfl rfl ?_
            refine s_getfield 12 17 87 rfl rfl fl_Mod_46 hK.this rfl ?_
            refine s_iload_n 88 rfl rfl rfl ?_
            refine s_iaload (a) 89 rfl rfl hK.kindOf rfl (by omega) (by decide) ?_
            -- Mod_of 89: ireturn
            exact s_ireturn rfl .int rfl rfl (h2 (by decide))
          · refine s_tabIn 90 rfl (by decide) (by decide) rfl (by decide) ?_
            -- to 90
            refine s_aload_n 91 rfl rfl rfl ?_
            refine s_getfield 12 18 94 rfl rfl fl_Mod_49 hK.this rfl ?_
            refine s_iload_n 95 rfl rfl rfl ?_
            refine s_iaload (a) 96 rfl rfl hK.wants rfl (by omega) (by decide) ?_
            -- Mod_of 96: ireturn
            exact s_ireturn rfl .int rfl rfl (h2 (by decide))
          · refine s_tabIn 97 rfl (by decide) (by decide) rfl (by decide) ?_
            -- to 97
            refine s_aload_n 98 rfl rfl rfl ?_
            refine s_getfield 12 21 101 rfl rfl fl_Mod_58 hK.this rfl ?_
            refine s_iload_n 102 rfl rfl rfl ?_
            refine s_iaload (a) 103 rfl rfl hK.state rfl (by omega) (by decide) ?_
            -- Mod_of 103: ireturn
            exact s_ireturn rfl .int rfl rfl (h2 (by decide))
          · refine s_tabIn 104 rfl (by decide) (by decide) rfl (by decide) ?_
            -- to 104
            refine s_aload_n 105 rfl rfl rfl ?_
            refine s_iload_n 106 rfl rfl rfl ?_
            refine s_aload_n 107 rfl rfl rfl ?_
            refine s_aload_n 108 rfl rfl rfl ?_
            refine s_getfield 12 26 111 rfl rfl fl_Mod_182 hK.this rfl ?_
            refine c_callV1 (h+4) 114 rfl rfl mv_Mod_185 (by omega) (Nat.le_of_ble_eq_true rfl) (Nat.le_of_ble_eq_true rfl) hK.this rfl rfl ?_
            -- Mod_of 114: call Mod_knownBy
            refine m_Mod_knownBy hK.this hK.ruleSet hK.ruleHead b2 ?_
            dsimp only [ax_rs]
            rw [hK.kn]
            refine c_callV2 (h+4) 117 rfl rfl mv_Mod_188 (by omega) (Nat.le_of_ble_eq_true rfl) (Nat.le_of_ble_eq_true rfl) hK.this rfl rfl ?_
            -- Mod_of 117: call Mod_isClosed
            refine m_Mod_isClosed hK.this hK.wants (by omega) ?_
            dsimp only [ax_rs]
            have h2 := h2 (by decide)
            simp only [show ¬ (4 = 0) by decide, show ¬ (4 = 1) by decide, show ¬ (4 = 2) by decide, show ¬ (4 = 3) by decide, if_false, if_true] at h2
            refine s_if_eq 124 120 rfl rfl (by decide) (fun c3 => ?_) (fun c3 => ?_)
            -- Mod_of 120: branch 124 120
            · rw [c3] at h2
              refine s_iconst 0 125 rfl rfl (by decide) ?_
              -- Mod_of 125: ireturn
              exact s_ireturn rfl .int rfl rfl (h2)
            · rw [bi_0, Classical.not_not] at c3
              rw [bi_t c3] at h2
              refine s_iconst 1 121 rfl rfl (by decide) ?_
              refine s_goto 125 rfl (by decide) ?_
              -- Mod_of 125: ireturn
              exact s_ireturn rfl .int rfl rfl (h2)
          · refine s_tabIn 126 rfl (by decide) (by decide) rfl (by decide) ?_
            -- to 126
            refine s_aload_n 127 rfl rfl rfl ?_
            refine s_iload_n 128 rfl rfl rfl ?_
            refine c_callV1 (h+4) 131 rfl rfl mv_Mod_192 (by omega) (Nat.le_of_ble_eq_true rfl) (Nat.le_of_ble_eq_true rfl) hK.this rfl rfl ?_
            -- Mod_of 131: call Mod_silencedBy
            refine m_Mod_silencedBy (h := h + 3) hK ha ?_
            dsimp only [ax_rs]
            -- Mod_of 131: ireturn
            exact s_ireturn rfl .int rfl rfl (h2 (by decide))
          · refine s_tabIn 132 rfl (by decide) (by decide) rfl (by decide) ?_
            -- to 132
            exact h3 a ha rfl rfl
          · refine s_tabIn 162 rfl (by decide) (by decide) rfl (by decide) ?_
            -- to 162
            have h2 := h2 (by decide)
            have main : ∀ b0 : Nat, b0 = (if sSt s a = 0 then 1 else 0) → ax_G g mt_Mod_of (h + 5) 0 0 176 [.ref 143, .int (nI a), .int (nI 7), .float 0, .float 0] [.int (nI b0)] M Q := by
              intro b0 hb0
              simp only [show ¬ (7 = 0) by decide, show ¬ (7 = 1) by decide, show ¬ (7 = 2) by decide, show ¬ (7 = 3) by decide, show ¬ (7 = 4) by decide, show ¬ (7 = 5) by decide, if_false, if_true] at h2
              rw [← hb0] at h2
              refine s_ist3 177 rfl rfl rfl ?_
              refine s_iconst 0 178 rfl rfl (by decide) ?_
              refine s_ist4 180 rfl rfl rfl ?_
              -- Mod_of 180: end
              have loop : ∀ (d b : Nat), b + d = 12 → ax_G g mt_Mod_of (h + 5) 0 0 180 [.ref 143, .int (nI a), .int (nI 7), .int (nI (b0 + cnt (bt (ob a)) b)), .int (nI b)] [] M Q := by
                intro d
                induction d with
                | zero =>
                  intro b hb
                  obtain rfl : b = 12 := by omega
                  refine s_iload 182 rfl rfl rfl ?_
                  refine s_bipush 12 184 rfl rfl (by decide) ?_
                  refine s_icmp_ge 207 187 rfl rfl (by decide) (fun c4 => ?_) (fun c4 => ?_)
                  -- Mod_of 187: branch 207 187
                  · refine s_iload_n 208 rfl rfl rfl ?_
                    -- Mod_of 208: ireturn
                    exact s_ireturn rfl .int rfl rfl (h2)
                  · exact absurd (by decide) c4
                | succ d ih =>
                  intro b hb
                  have nx := ih (b + 1) (by omega)
                  rw [cnt] at nx
                  refine s_iload 182 rfl rfl rfl ?_
                  refine s_bipush 12 184 rfl rfl (by decide) ?_
                  refine s_icmp_ge 207 187 rfl rfl (by decide) (fun c5 => ?_) (fun c5 => ?_)
                  -- Mod_of 187: branch 207 187
                  · exact absurd (nn_le (a := 12) c5) (by omega)
                  · refine s_iload_n 188 rfl rfl rfl ?_
                    refine s_aload_n 189 rfl rfl rfl ?_
                    refine s_getfield 12 22 192 rfl rfl fl_Mod_61 hK.this rfl ?_
                    refine s_iload_n 193 rfl rfl rfl ?_
                    refine s_iaload (a) 194 rfl rfl h_ofBuilds rfl (by omega) (by decide) ?_
                    refine s_iload 196 rfl rfl rfl ?_
                    refine s_ishr 197 rfl rfl ?_
                    refine s_iconst 1 198 rfl rfl (by decide) ?_
                    refine s_iand 199 rfl rfl ?_
                    -- Mod_of 199: end
                    rw [b_tst _ (by omega)]
                    refine s_iadd 200 rfl rfl ?_
                    -- Mod_of 200: end
                    have e : nI (b0 + cnt (bt (ob a)) b) + (if bt (ob a) b = true then 1 else 0) = nI (b0 + (cnt (bt (ob a)) b + (if bt (ob a) b = true then 1 else 0))) := by
                      rw [← Nat.add_assoc]
                      cases bt (ob a) b
                      · exact nI_add _ 0
                      · exact nI_1 _
                    rw [e]
                    refine s_ist3 201 rfl rfl rfl ?_
                    refine s_inc4 _ 204 rfl rfl rfl rfl ?_
                    refine s_goto 180 rfl (by decide) ?_
                    -- Mod_of 180: end
                    rw [inc1]
                    exact nx
              exact loop 12 0 (by omega)
            refine s_aload_n 163 rfl rfl rfl ?_
            refine s_getfield 12 21 166 rfl rfl fl_Mod_58 hK.this rfl ?_
            refine s_iload_n 167 rfl rfl rfl ?_
            refine s_iaload (a) 168 rfl rfl hK.state rfl (by omega) (by decide) ?_
            refine s_if_ne 175 171 rfl rfl (by decide) (fun c6 => ?_) (fun c6 => ?_)
            -- Mod_of 171: branch 175 171
            · refine s_iconst 0 176 rfl rfl (by decide) ?_
              -- Mod_of 176: end
              exact main 0 (by rw [if_neg c6])
            · refine s_iconst 1 172 rfl rfl (by decide) ?_
              refine s_goto 176 rfl (by decide) ?_
              -- Mod_of 176: end
              exact main 1 (by rw [if_pos c6])
          · refine s_tabIn 209 rfl (by decide) (by decide) rfl (by decide) ?_
            -- to 209
            refine s_aload_n 210 rfl rfl rfl ?_
            refine s_getfield 12 19 213 rfl rfl fl_Mod_52 hK.this rfl ?_
            refine s_iload_n 214 rfl rfl rfl ?_
            refine s_iaload (a) 215 rfl rfl hK.above rfl (by omega) (by decide) ?_
            -- Mod_of 215: ireturn
            exact s_ireturn rfl .int rfl rfl (h2 (by decide))
          · refine s_tabOut 216 rfl (by decide) (by decide) ?_
            refine s_aload_n 217 rfl rfl rfl ?_
            refine s_getfield 12 20 220 rfl rfl fl_Mod_55 hK.this rfl ?_
            refine s_iload_n 221 rfl rfl rfl ?_
            refine s_iaload (a) 222 rfl rfl hK.below rfl (by omega) (by decide) ?_
            -- Mod_of 222: ireturn
            exact s_ireturn rfl .int rfl rfl (h2 (by decide))
        · exact absurd c2 (by decide)
      · rw [bi_f (in_nle (n := 10) (by omega) z)]
        refine s_if_ne 23 20 rfl rfl (by decide) (fun c7 => ?_) (fun c7 => ?_)
        -- Mod_of 20: branch 23 20
        · exact absurd rfl c7
        · refine s_bipush (-2) 22 rfl rfl (by decide) ?_
          -- Mod_of 22: ireturn
          exact s_ireturn rfl .int rfl rfl (h1 (Or.inr z))
  · rw [bi_f (in_nle (by omega) c)]
    refine s_if_eq 20 8 rfl rfl (by decide) (fun c8 => ?_) (fun c8 => ?_)
    -- Mod_of 8: branch 20 8
    · refine s_bipush (-2) 22 rfl rfl (by decide) ?_
      -- Mod_of 22: ireturn
      exact s_ireturn rfl .int rfl rfl (h1 (Or.inl c))
    · exact absurd rfl c8
theorem both_of (x y : Int32) : BI g (Rel g) mt_Top_of mt_Mod_of [.int x, .int y] := by
  intro M hR
  have hR' := hR
  obtain ⟨s, t, dw, nw, gc, sl, n, pa, dr, cm, os, gm, tk, pl, bh, va, iw, od, hC, hM, hg, hT, hL, hA, hF, hS, hO, hU, hH, hX, hz⟩ := hR.get
  obtain ⟨b1, b2, b3, b4, b5⟩ := hC.bd
  obtain ⟨q1, q2, q3, q4, q5, q6, q7⟩ := hg.sc
  have hA' := hA
  obtain ⟨li, ki, wa, pp, qq, st, l2, k2, w2, p2, qq2, s2', ob, trr, pst, a1, a2, a3, a4, a5, a6, a7, a8, a9, a10, a11, a12, a13, a14, a15, a16, a17, a18, a19, a20, a21⟩ := hA
  obtain ⟨F0, h178⟩ := (hX.2.2.2.2.2.2.2.2.2.2.2.2.2.2.2.2.2.2.1 : ∃ f, zA M 178 676 f)
  have el := iA_j hC.line a2
  have es := iA_j hC.state a7
  have nbx : ∀ {a w : Nat}, a < sAl s → x = nI a → w < 10 → y = nI w → ¬ ((x < 0 ∨ nI (sAl s) ≤ x) ∨ (y < 0 ∨ nI 10 ≤ y)) := fun ha e hw e2 q => q.elim (fun q => in_no q (in_bi ha (by omega) e)) (fun q => in_no q (in_bi hw (by omega) e2))
  refine c_of (h := 5) hC a8 (fun q => ?_) (fun a w ha e hw e2 h6 => ?_) (fun a ha e e2 => ?_)
  · exact ⟨_, rfl, ⟨_, hM.this⟩, d_of (h := 6) hM a15 (fun _ => ⟨rfl, hR'⟩) (fun a w ha e hw e2 _ => absurd q (nbx (by omega) e hw e2)) (fun a ha e e2 => absurd q (nbx (by omega) e (by decide : 6 < 10) e2))⟩
  · refine ⟨_, rfl, ⟨_, hM.this⟩, d_of (h := 6) hM a15 (fun q => absurd (by rw [q1] at q; exact q) (nbx ha e hw e2)) (fun a' w' ha' e' hw' e2' _ => ?_) (fun a' ha' e' e2' => absurd (nn_eq (e2.symm.trans e2')) h6)⟩
    obtain rfl : a = a' := nn_eq (e.symm.trans e')
    obtain rfl : w = w' := nn_eq (e2.symm.trans e2')
    obtain ⟨d1, d2, d3, d4, d5, d6⟩ := hg.al a ha
    obtain ⟨-, -, -, -, -, -, -, u8⟩ := a19 a ha
    have ec : cnt (bt (ob a)) 12 = cnt (fun b => lb (pst (4 * b)) a) (sBl s - 1) := by
      refine cnt_x (by omega) (fun b hb => ?_) (fun b h1 h2 => u8 b (by omega) (by omega))
      rw [(a21 b (by omega)).1 a (by omega), decide_eq_true ha, Bool.true_and]
    have ev : of_ t (fun a => cnt (bt (ob a)) 12) a w = of_ s (fun a => cnt (fun b => lb (pst (4 * b)) a) (sBl s - 1)) a w := by
      unfold of_
      dsimp only
      rw [d1, d2, d3, d4, d5, d6, q7, sv_ag hg hC.told b4 ha, ec]
    rw [ev]
    exact ⟨rfl, hR'⟩
  · obtain ⟨-, u2, u3, u4, -⟩ := a19 a ha
    have rd : ∀ (Q2 : Option Value → ax_M → Prop), ax_G g mt_Mod_of 11 0 0 132 [.ref 143, .int (nI a), .int (nI 6), .float 0, .float 0] [] M Q2 → ax_G g mt_Mod_of 11 0 0 0 [.ref 143, .int x, .int y, .float 0, .float 0] [] M Q2 := fun Q2 hq => d_of (h := 6) hM a15 (fun q => absurd (by rw [q1] at q; exact q) (nbx ha e (by decide : 6 < 10) e2)) (fun a' w' ha' e' hw' e2' w6 => absurd (nn_eq (e2.symm.trans e2')).symm w6) (fun a' ha' e' e2' => by
      obtain rfl : a = a' := nn_eq (e.symm.trans e')
      exact hq)
    obtain ⟨d1, d2, d3, d4, d5, d6⟩ := hg.al a ha
    by_cases zl : st a = 2
    · have hl := u3 zl
      rw [← el] at hl
      have hl2 : sLi t a = -1 := d1.trans hl
      refine s_aload_n 140 rfl rfl rfl ?_
      refine s_aload_n 141 rfl rfl rfl ?_
      refine s_getfield 11 13 144 rfl rfl fl_Top_87 hC.top rfl ?_
      refine s_aload_n 145 rfl rfl rfl ?_
      refine s_getfield 11 3 148 rfl rfl fl_Top_31 hC.top rfl ?_
      refine s_getfield 0 0 151 rfl rfl fl_Top_153 hC.alarms rfl ?_
      refine s_iload_n 152 rfl rfl rfl ?_
      refine s_iaload (a) 153 rfl rfl hC.line rfl (by omega) (by decide) ?_
      -- Top_of 153: end
      rw [hl]
      refine c_callV1 10 156 rfl rfl mv_Top_176 (by omega) (Nat.le_of_ble_eq_true rfl) (Nat.le_of_ble_eq_true rfl) hC.now rfl rfl ?_
      -- Top_of 156: call Lines_fileOf
      refine m_Lines_fileOf hC.now hC.file b4 ?_
      dsimp only [ax_rs]
      rw [if_neg (fun q => q.1 (by decide))]
      refine c_callV1 10 159 rfl rfl mv_Top_179 (by omega) (Nat.le_of_ble_eq_true rfl) (Nat.le_of_ble_eq_true rfl) hC.top rfl rfl ?_
      -- Top_of 159: call Top_ownerOf
      refine m_Top_ownerOf_no (h := 9) (by decide) ?_
      dsimp only [ax_rs]
      -- Top_of 159: ireturn
      refine s_ireturn rfl .int rfl rfl ⟨_, rfl, ⟨_, hM.this⟩, rd _ ?_⟩
      refine s_aload_n 133 rfl rfl rfl ?_
      refine s_getfield 12 16 136 rfl rfl fl_Mod_43 hM.this rfl ?_
      refine s_iload_n 137 rfl rfl rfl ?_
      refine s_iaload (a) 138 rfl rfl hM.lineOf rfl (by omega) (by decide) ?_
      -- Mod_of 138: end
      rw [hl2]
      refine s_iconst (-1) 139 rfl rfl (by decide) ?_
      refine s_icmp_ne 146 142 rfl rfl (by decide) (fun c1 => ?_) (fun c1 => ?_)
      -- Mod_of 142: branch 146 142
      · exact absurd rfl c1
      · refine s_iconst (-1) 143 rfl rfl (by decide) ?_
        refine s_goto 161 rfl (by decide) ?_
        -- Mod_of 161: ireturn
        exact s_ireturn rfl .int rfl rfl (⟨rfl, hR'⟩)
    · obtain ⟨c, hc, ec⟩ := u4 zl
      rw [← el] at ec
      have ec2 : sLi t a = nI c := d1.trans ec
      have hL' := hL
      obtain ⟨-, nf, nm, nb, df, dm, db, mf, mm, mp, gf, gmm, l1, l2, l3, l4, l5, l6, l7, l8, l9, l10, l11, l12, l13, l14, l15, l16, l17⟩ := hL'
      obtain ⟨v1, v2, v3, ⟨i, hi, v4⟩, v5⟩ := l16 c hc
      have ef := iA_j hM.fileOf l9
      have e5 : sLf t c = nI i := by rw [ef]; exact v4
      have e6 : sLf s c = nI i := (hg.ln c hc).symm.trans e5
      obtain ⟨x1, x2, po, pp2, pz, pt, tz, o2, fit, n2, kk2, f2, s2, z2, r1, r2, r3, r4, r5, r6, r7, r8, r9, r10, r11, r12, r13, r14, r15, r16, r17, r18, r19⟩ := own_ hO hi
      refine s_aload_n 140 rfl rfl rfl ?_
      refine s_aload_n 141 rfl rfl rfl ?_
      refine s_getfield 11 13 144 rfl rfl fl_Top_87 hC.top rfl ?_
      refine s_aload_n 145 rfl rfl rfl ?_
      refine s_getfield 11 3 148 rfl rfl fl_Top_31 hC.top rfl ?_
      refine s_getfield 0 0 151 rfl rfl fl_Top_153 hC.alarms rfl ?_
      refine s_iload_n 152 rfl rfl rfl ?_
      refine s_iaload (a) 153 rfl rfl hC.line rfl (by omega) (by decide) ?_
      -- Top_of 153: end
      rw [ec]
      refine c_callV1 10 156 rfl rfl mv_Top_176 (by omega) (Nat.le_of_ble_eq_true rfl) (Nat.le_of_ble_eq_true rfl) hC.now rfl rfl ?_
      -- Top_of 156: call Lines_fileOf
      refine m_Lines_fileOf hC.now hC.file b4 ?_
      dsimp only [ax_rs]
      rw [if_pos (in_bi hc (by omega) rfl), nI_clamp (by omega), e6]
      refine c_callV1 10 159 rfl rfl mv_Top_179 (by omega) (Nat.le_of_ble_eq_true rfl) (Nat.le_of_ble_eq_true rfl) hC.top rfl rfl ?_
      -- Top_of 159: call Top_ownerOf
      refine m_Top_ownerOf (h := 5) (fit := fit) hC.top r1 r2 r3 r4 r5 r11 hi r13 r14 (fun r hr => ?_)
      dsimp only [ax_rs]
      -- Top_of 159: ireturn
      refine s_ireturn rfl .int rfl rfl ⟨_, rfl, ⟨_, hM.this⟩, rd _ ?_⟩
      refine s_aload_n 133 rfl rfl rfl ?_
      refine s_getfield 12 16 136 rfl rfl fl_Mod_43 hM.this rfl ?_
      refine s_iload_n 137 rfl rfl rfl ?_
      refine s_iaload (a) 138 rfl rfl hM.lineOf rfl (by omega) (by decide) ?_
      -- Mod_of 138: end
      rw [ec2]
      refine s_iconst (-1) 139 rfl rfl (by decide) ?_
      refine s_icmp_ne 146 142 rfl rfl (by decide) (fun c1 => ?_) (fun c1 => ?_)
      -- Mod_of 142: branch 146 142
      · refine s_aload_n 147 rfl rfl rfl ?_
        refine s_aload_n 148 rfl rfl rfl ?_
        refine s_getfield 12 4 151 rfl rfl fl_Mod_13 hM.this rfl ?_
        refine s_aload_n 152 rfl rfl rfl ?_
        refine s_getfield 12 16 155 rfl rfl fl_Mod_43 hM.this rfl ?_
        refine s_iload_n 156 rfl rfl rfl ?_
        refine s_iaload (a) 157 rfl rfl hM.lineOf rfl (by omega) (by decide) ?_
        -- Mod_of 157: end
        rw [ec2]
        refine s_iaload (c) 158 rfl rfl hM.fileOf rfl (by omega) (by decide) ?_
        -- Mod_of 158: end
        rw [e5]
        refine c_callV1 10 161 rfl rfl mv_Mod_195 (by omega) (Nat.le_of_ble_eq_true rfl) (Nat.le_of_ble_eq_true rfl) hM.this rfl rfl ?_
        -- Mod_of 161: call Mod_ownerOf
        refine m_Mod_ownerOf (h := 6) (fit := fit) hM.this r8 r9 r10 r11 r15 r6 r7 hi r16 r17 r18 r19 h178 (fun rr F hr2 => ?_)
        dsimp only [ax_rs]
        -- Mod_of 161: ireturn
        rw [ow_u r12 hr hr2]
        exact s_ireturn rfl .int rfl rfl (⟨rfl, hR'.fits⟩)
      · exact absurd c1 (nn_m1 (by omega))
end OF
