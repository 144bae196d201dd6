/-! silent, held, reason -/
section SIL
variable {g : ax_Y} {M : ax_M} {Q : Option Value → ax_M → Prop} {h : Nat} {s : Sta} {dw nw : Nat} {gc pa : Int32} {sl : Nat → Option Nat} {n dr cm os gm tk pl bh : Int32} {va : Int64} {iw od : Int32}
/-- what silent tells -/
def si_ (s : Sta) (k w : Nat) : Int32 := if w = 0 then sUn s k else if w = 1 then sKd s k else if w = 2 then sWh s k else if w = 3 then sFi s k else if w = 4 then bi (sUn s k = -1 ∨ nI (sBl s) - 1 ≤ sUn s k) else nI (cnt (fun a => decide (sv_ s a = nI k)) (sAl s))
theorem m_Top_silencedBy {k : Nat} (hK : KC M s dw nw gc pa sl) (hq : Q (some (.int (nI (cnt (fun a => decide (sv_ s a = nI k)) (sAl s))))) M) : ax_G g mt_Top_silencedBy (h + 3) 0 0 0 [.ref 0, .int (nI k), .float 0, .float 0] [] M Q := by
  obtain ⟨b1, b2, b3, b4, b5⟩ := hK.bd
  refine s_iconst 0 1 rfl rfl (by decide) ?_
  refine s_ist2 2 rfl rfl rfl ?_
  refine s_iconst 0 3 rfl rfl (by decide) ?_
  refine s_ist3 4 rfl rfl rfl ?_
  -- Top_silencedBy 4: end
  have loop : ∀ (d i : Nat), i + d = sAl s → ax_G g mt_Top_silencedBy (h + 3) 0 0 4 [.ref 0, .int (nI k), .int (nI (cnt (fun a => decide (sv_ s a = nI k)) i)), .int (nI i)] [] M Q := by
    intro d
    induction d with
    | zero =>
      intro i hi
      obtain rfl : i = sAl s := by omega
      refine s_iload_n 5 rfl rfl rfl ?_
      refine s_aload_n 6 rfl rfl rfl ?_
      refine s_getfield 11 3 9 rfl rfl fl_Top_31 hK.top rfl ?_
      refine s_getfield 0 6 12 rfl rfl fl_Top_145 hK.alarms rfl ?_
      refine s_icmp_ge 33 15 rfl rfl (by decide) (fun c1 => ?_) (fun c1 => ?_)
      -- Top_silencedBy 15: branch 33 15
      · refine s_iload_n 34 rfl rfl rfl ?_
        -- Top_silencedBy 34: ireturn
        exact s_ireturn rfl .int rfl rfl (hq)
      · exact absurd (nn_nle c1) (by omega)
    | succ d ih =>
      intro i hi
      have nx := ih (i + 1) (by omega)
      rw [cnt] at nx
      refine s_iload_n 5 rfl rfl rfl ?_
      refine s_aload_n 6 rfl rfl rfl ?_
      refine s_getfield 11 3 9 rfl rfl fl_Top_31 hK.top rfl ?_
      refine s_getfield 0 6 12 rfl rfl fl_Top_145 hK.alarms rfl ?_
      refine s_icmp_ge 33 15 rfl rfl (by decide) (fun c2 => ?_) (fun c2 => ?_)
      -- Top_silencedBy 15: branch 33 15
      · exact absurd (nn_le c2) (by omega)
      · refine s_aload_n 16 rfl rfl rfl ?_
        refine s_iload_n 17 rfl rfl rfl ?_
        refine c_callV1 (h+2) 20 rfl rfl mv_Top_173 (by omega) (Nat.le_of_ble_eq_true rfl) (Nat.le_of_ble_eq_true rfl) hK.top rfl rfl ?_
        -- Top_silencedBy 20: call Top_silencerOf
        refine m_Top_silencerOf (h := h) hK (by omega) ?_
        dsimp only [ax_rs]
        refine s_iload_n 21 rfl rfl rfl ?_
        refine s_icmp_ne 27 24 rfl rfl (by decide) (fun c3 => ?_) (fun c3 => ?_)
        -- Top_silencedBy 24: branch 27 24
        · rw [if_neg (by simpa using c3)] at nx
          refine s_inc3 _ 30 rfl rfl rfl rfl ?_
          refine s_goto 4 rfl (by decide) ?_
          -- Top_silencedBy 4: end
          rw [inc1]
          exact nx
        · rw [if_pos (by simpa using c3)] at nx
          refine s_inc2 _ 27 rfl rfl rfl rfl ?_
          refine s_inc3 _ 30 rfl rfl rfl rfl ?_
          refine s_goto 4 rfl (by decide) ?_
          -- Top_silencedBy 4: end
          rw [inc1, inc1]
          exact nx
  exact loop (sAl s) 0 (by omega)
theorem c_silent {x y : Int32} (hK : KC M s dw nw gc pa sl) (h1 : ((x < 0 ∨ nI (sSi s) ≤ x) ∨ (y < 0 ∨ nI 6 ≤ y)) → Q (some (.int (-2))) M) (h2 : ∀ k w, k < sSi s → x = nI k → w < 6 → y = nI w → Q (some (.int (si_ s k w))) M) : ax_G g mt_Top_silent (h + 4) 0 0 0 [.ref 0, .int x, .int y, .float 0] [] M Q := by
  obtain ⟨b1, b2, b3, b4, b5⟩ := hK.bd
  refine s_aload_n 1 rfl rfl rfl ?_
  refine s_getfield 11 5 4 rfl rfl fl_Top_45 hK.top rfl ?_
  refine s_iload_n 5 rfl rfl rfl ?_
  refine c_callV1 (h+3) 8 rfl rfl mv_Top_230 (by omega) (Nat.le_of_ble_eq_true rfl) (Nat.le_of_ble_eq_true rfl) hK.silences rfl rfl ?_
  -- Top_silent 8: call Silences_has
  refine m_Silences_has hK.silences ?_
  dsimp only [ax_rs]
  rcases in_or (x := x) (n := sSi s) (by omega) with ⟨k, hk, rfl⟩ | c
  · rw [bi_t (in_bi hk (by omega) rfl)]
    obtain ⟨p, w, y_one, h_one⟩ := hK.slot k hk
    refine s_if_ne 14 11 rfl rfl (by decide) (fun c1 => ?_) (fun c1 => ?_)
    -- Top_silent 11: branch 14 11
    · skip
      refine s_aload_n 15 rfl rfl rfl ?_
      refine s_getfield 11 5 18 rfl rfl fl_Top_45 hK.top rfl ?_
      refine s_getfield 9 0 21 rfl rfl fl_Top_231 hK.silences rfl ?_
      refine s_iload_n 22 rfl rfl rfl ?_
      refine s_aaload 5 "AlarmGroups$Silence" (k) 23 rfl rfl rfl hK.slots rfl (by omega) (by decide) (y_one) ?_
      refine s_ast3 24 rfl rfl rfl ?_
      refine s_iload_n 25 rfl rfl rfl ?_
      -- Top_silent 25: end
      rcases in_or (x := y) (n := 6) (by omega) with ⟨w, hw, rfl⟩ | z
      · have h2 := h2 k w hk rfl hw rfl
        unfold si_ at h2
        rcases (by omega : w = 0 ∨ w = 1 ∨ w = 2 ∨ w = 3 ∨ w = 4 ∨ w = 5) with rfl | rfl | rfl | rfl | rfl | rfl
        · refine s_tabIn 64 rfl (by decide) (by decide) rfl (by decide) ?_
          -- to 64
          refine s_aload_n 65 rfl rfl rfl ?_
          refine s_getfield 8 0 68 rfl rfl fl_Top_235 h_one rfl ?_
          -- Top_silent 68: ireturn
          exact s_ireturn rfl .int rfl rfl (h2)
        · refine s_tabIn 69 rfl (by decide) (by decide) rfl (by decide) ?_
          -- to 69
          refine s_aload_n 70 rfl rfl rfl ?_
          refine s_getfield 8 1 73 rfl rfl fl_Top_240 h_one rfl ?_
          -- Top_silent 73: ireturn
          exact s_ireturn rfl .int rfl rfl (h2)
        · refine s_tabIn 74 rfl (by decide) (by decide) rfl (by decide) ?_
          -- to 74
          refine s_aload_n 75 rfl rfl rfl ?_
          refine s_getfield 8 2 78 rfl rfl fl_Top_242 h_one rfl ?_
          -- Top_silent 78: ireturn
          exact s_ireturn rfl .int rfl rfl (h2)
        · refine s_tabIn 79 rfl (by decide) (by decide) rfl (by decide) ?_
          -- to 79
          refine s_aload_n 80 rfl rfl rfl ?_
          refine s_getfield 8 3 83 rfl rfl fl_Top_245 h_one rfl ?_
          -- Top_silent 83: ireturn
          exact s_ireturn rfl .int rfl rfl (h2)
        · refine s_tabIn 84 rfl (by decide) (by decide) rfl (by decide) ?_
          -- to 84
          refine s_aload_n 85 rfl rfl rfl ?_
          refine s_aload_n 86 rfl rfl rfl ?_
          refine s_getfield 11 14 89 rfl rfl fl_Top_114 hK.top rfl ?_
          refine s_iconst 1 90 rfl rfl (by decide) ?_
          refine s_isub 91 rfl rfl ?_
          refine c_callV1 (h+3) 94 rfl rfl mv_Top_248 (by omega) (Nat.le_of_ble_eq_true rfl) (Nat.le_of_ble_eq_true rfl) h_one rfl rfl ?_
          -- Top_silent 94: call Silence_holds
          refine m_Silence_holds h_one ?_
          dsimp only [ax_rs]
          simp only [show ¬ (4 = 0) by decide, show ¬ (4 = 1) by decide, show ¬ (4 = 2) by decide, show ¬ (4 = 3) by decide, if_false, if_true] at h2
          refine s_if_eq 101 97 rfl rfl (by decide) (fun c2 => ?_) (fun c2 => ?_)
          -- Top_silent 97: branch 101 97
          · rw [c2] at h2
            refine s_iconst 0 102 rfl rfl (by decide) ?_
            -- Top_silent 102: ireturn
            exact s_ireturn rfl .int rfl rfl (h2)
          · rw [bi_0, Classical.not_not] at c2
            rw [bi_t c2] at h2
            refine s_iconst 1 98 rfl rfl (by decide) ?_
            refine s_goto 102 rfl (by decide) ?_
            -- Top_silent 102: ireturn
            exact s_ireturn rfl .int rfl rfl (h2)
        · refine s_tabIn 103 rfl (by decide) (by decide) rfl (by decide) ?_
          -- to 103
          refine s_aload_n 104 rfl rfl rfl ?_
          refine s_iload_n 105 rfl rfl rfl ?_
          refine c_callV1 (h+3) 108 rfl rfl mv_Top_251 (by omega) (Nat.le_of_ble_eq_true rfl) (Nat.le_of_ble_eq_true rfl) hK.top rfl rfl ?_
          -- Top_silent 108: call Top_silencedBy
          refine m_Top_silencedBy (h := h) hK ?_
          dsimp only [ax_rs]
          exact s_ireturn rfl .int rfl rfl (h2)
      · refine s_tabOut 109 rfl ((by have := in_ti (by omega) z; omega)) (by decide) ?_
        -- to 109
        refine s_bipush (-2) 111 rfl rfl (by decide) ?_
        -- Top_silent 111: ireturn
        exact s_ireturn rfl .int rfl rfl (h1 (Or.inr z))
    · exact absurd c1 (by decide)
  · rw [bi_f (in_no c)]
    refine s_if_ne 14 11 rfl rfl (by decide) (fun c3 => ?_) (fun c3 => ?_)
    -- Top_silent 11: branch 14 11
    · exact absurd rfl c3
    · refine s_bipush (-2) 13 rfl rfl (by decide) ?_
      -- Top_silent 13: ireturn
      exact s_ireturn rfl .int rfl rfl (h1 (Or.inl c))
theorem m_Mod_isSilence {x : Int32} (hK : KM M s n dr pa cm os gm tk pl bh va iw od) (hq : Q (some (.int (bi (0 ≤ x ∧ x ≤ nI (sSi s) - 1)))) M) : ax_G g mt_Mod_isSilence (h + 1) 0 0 0 [.ref 143, .int x] [] M Q := by
  refine s_iload_n 1 rfl rfl rfl ?_
  refine s_i2l 2 rfl rfl ?_
  refine s_lconst 0 3 rfl rfl (by decide) ?_
  refine s_aload_n 4 rfl rfl rfl ?_
  refine s_getfield 12 30 7 rfl rfl fl_Mod_166 hK.this rfl ?_
  refine s_iconst 1 8 rfl rfl (by decide) ?_
  refine s_isub 9 rfl rfl ?_
  refine s_i2l 10 rfl rfl ?_
  refine c_callS3 h 13 rfl rfl mv_Mod_134 (by omega) (Nat.le_of_ble_eq_true rfl) (Nat.le_of_ble_eq_true rfl) ?_
  -- Mod_isSilence 13: call Mod_in
  refine m_Mod_inI (lo := 0) (hi := nI (sSi s) - 1) (by decide) rfl ?_
  dsimp only [ax_rs]
  exact s_ireturn rfl .boolean rfl  (bi_n _) (hq )
theorem d_silent {x y : Int32} (hK : KM M s n dr pa cm os gm tk pl bh va iw od) (h1 : ((x < 0 ∨ nI (sSi s) ≤ x) ∨ (y < 0 ∨ nI 6 ≤ y)) → Q (some (.int (-2))) M) (h2 : ∀ k w, k < sSi s → x = nI k → w < 6 → y = nI w → Q (some (.int (si_ s k w))) M) : ax_G g mt_Mod_silent (h + 2) 0 0 0 [.ref 143, .int x, .int y, .float 0, .float 0] [] M Q := by
  obtain ⟨b1, b2, b3, b4, b5⟩ := hK.bd
  refine s_aload_n 1 rfl rfl rfl ?_
  refine s_iload_n 2 rfl rfl rfl ?_
  refine c_callV1 (h+1) 5 rfl rfl mv_Mod_293 (by omega) (Nat.le_of_ble_eq_true rfl) (Nat.le_of_ble_eq_true rfl) hK.this rfl rfl ?_
  -- Mod_silent 5: call Mod_isSilence
  refine m_Mod_isSilence hK ?_
  dsimp only [ax_rs]
  rcases in_or (x := x) (n := sSi s) (by omega) with ⟨k, hk, rfl⟩ | c
  · rw [bi_t (in_le hk (by omega) rfl)]
    refine s_if_eq 20 8 rfl rfl (by decide) (fun c1 => ?_) (fun c1 => ?_)
    -- Mod_silent 8: branch 20 8
    · exact absurd c1 (by decide)
    · refine s_iload_n 9 rfl rfl rfl ?_
      refine s_i2l 10 rfl rfl ?_
      refine s_lconst 0 11 rfl rfl (by decide) ?_
      refine s_ldc2_w 5 14 rfl rfl kl_Mod_144 ?_
      refine c_callS3 (h+1) 17 rfl rfl mv_Mod_134 (by omega) (Nat.le_of_ble_eq_true rfl) (Nat.le_of_ble_eq_true rfl) ?_
      -- Mod_silent 17: call Mod_in
      refine m_Mod_inI (lo := 0) (hi := nI 6 - 1) (by decide) (by decide) ?_
      dsimp only [ax_rs]
      rcases in_or (x := y) (n := 6) (by omega) with ⟨w, hw, rfl⟩ | z
      · rw [bi_t (in_le hw (by omega) rfl)]
        have h2 := h2 k w hk rfl hw rfl
        unfold si_ at h2
        refine s_if_ne 23 20 rfl rfl (by decide) (fun c2 => ?_) (fun c2 => ?_)
        -- Mod_silent 20: branch 23 20
        · refine s_iload_n 24 rfl rfl rfl ?_
          -- Mod_silent 24: end
          rcases (by omega : w = 0 ∨ w = 1 ∨ w = 2 ∨ w = 3 ∨ w = 4 ∨ w = 5) with rfl | rfl | rfl | rfl | rfl | rfl
          · refine s_tabIn 60 rfl (by decide) (by decide) rfl (by decide) ?_
            -- to 60
            refine s_aload_n 61 rfl rfl rfl ?_
            refine s_getfield 12 31 64 rfl rfl fl_Mod_76 hK.this rfl ?_
            refine s_iload_n 65 rfl rfl rfl ?_
            refine s_iaload (k) 66 rfl rfl hK.until_ rfl (by omega) (by decide) ?_
            -- Mod_silent 66: ireturn
            exact s_ireturn rfl .int rfl rfl (h2)
          · refine s_tabIn 67 rfl (by decide) (by decide) rfl (by decide) ?_
            -- to 67
            refine s_aload_n 68 rfl rfl rfl ?_
            refine s_getfield 12 32 71 rfl rfl fl_Mod_79 hK.this rfl ?_
            refine s_iload_n 72 rfl rfl rfl ?_
            refine s_iaload (k) 73 rfl rfl hK.silenceKind rfl (by omega) (by decide) ?_
            -- Mod_silent 73: ireturn
            exact s_ireturn rfl .int rfl rfl (h2)
          · refine s_tabIn 74 rfl (by decide) (by decide) rfl (by decide) ?_
            -- to 74
            refine s_aload_n 75 rfl rfl rfl ?_
            refine s_getfield 12 33 78 rfl rfl fl_Mod_82 hK.this rfl ?_
            refine s_iload_n 79 rfl rfl rfl ?_
            refine s_iaload (k) 80 rfl rfl hK.where_ rfl (by omega) (by decide) ?_
            -- Mod_silent 80: ireturn
            exact s_ireturn rfl .int rfl rfl (h2)
          · refine s_tabIn 81 rfl (by decide) (by decide) rfl (by decide) ?_
            -- to 81
            refine s_aload_n 82 rfl rfl rfl ?_
            refine s_getfield 12 34 85 rfl rfl fl_Mod_85 hK.this rfl ?_
            refine s_iload_n 86 rfl rfl rfl ?_
            refine s_iaload (k) 87 rfl rfl hK.silenceFile rfl (by omega) (by decide) ?_
            -- Mod_silent 87: ireturn
            exact s_ireturn rfl .int rfl rfl (h2)
          · refine s_tabIn 88 rfl (by decide) (by decide) rfl (by decide) ?_
            -- to 88
            refine s_aload_n 89 rfl rfl rfl ?_
            refine s_iload_n 90 rfl rfl rfl ?_
            refine c_callV1 (h+1) 93 rfl rfl mv_Mod_219 (by omega) (Nat.le_of_ble_eq_true rfl) (Nat.le_of_ble_eq_true rfl) hK.this rfl rfl ?_
            -- Mod_silent 93: call Mod_holds
            refine m_Mod_holds hK (by omega) ?_
            dsimp only [ax_rs]
            simp only [show ¬ (4 = 0) by decide, show ¬ (4 = 1) by decide, show ¬ (4 = 2) by decide, show ¬ (4 = 3) by decide, if_false, if_true] at h2
            refine s_if_eq 100 96 rfl rfl (by decide) (fun c3 => ?_) (fun c3 => ?_)
            -- Mod_silent 96: branch 100 96
            · rw [c3] at h2
              refine s_iconst 0 101 rfl rfl (by decide) ?_
              -- Mod_silent 101: ireturn
              exact s_ireturn rfl .int rfl rfl (h2)
            · rw [bi_0, Classical.not_not] at c3
              rw [bi_t c3] at h2
              refine s_iconst 1 97 rfl rfl (by decide) ?_
              refine s_goto 101 rfl (by decide) ?_
              -- Mod_silent 101: ireturn
              exact s_ireturn rfl .int rfl rfl (h2)
          · refine s_tabOut 102 rfl (Or.inr (by decide)) (by decide) ?_
            -- to 102
            refine s_iconst 0 103 rfl rfl (by decide) ?_
            refine s_ist3 104 rfl rfl rfl ?_
            refine s_iconst 0 105 rfl rfl (by decide) ?_
            refine s_ist4 107 rfl rfl rfl ?_
            -- Mod_silent 107: end
            simp only [show ¬ (5 = 0) by decide, show ¬ (5 = 1) by decide, show ¬ (5 = 2) by decide, show ¬ (5 = 3) by decide, show ¬ (5 = 4) by decide, if_false] at h2
            have loop : ∀ (d i : Nat), i + d = sAl s → ax_G g mt_Mod_silent (h + 2) 0 0 107 [.ref 143, .int (nI k), .int (nI 5), .int (nI (cnt (fun a => decide (sv_ s a = nI k)) i)), .int (nI i)] [] M Q := by
              intro d
              induction d with
              | zero =>
                intro i hi
                obtain rfl : i = sAl s := by omega
                refine s_iload 109 rfl rfl rfl ?_
                refine s_aload_n 110 rfl rfl rfl ?_
                refine s_getfield 12 15 113 rfl rfl fl_Mod_169 hK.this rfl ?_
                refine s_icmp_ge 140 116 rfl rfl (by decide) (fun c4 => ?_) (fun c4 => ?_)
                -- Mod_silent 116: branch 140 116
                · refine s_iload_n 141 rfl rfl rfl ?_
                  -- Mod_silent 141: ireturn
                  exact s_ireturn rfl .int rfl rfl (h2)
                · exact absurd (nn_nle c4) (by omega)
              | succ d ih =>
                intro i hi
                have nx := ih (i + 1) (by omega)
                rw [cnt] at nx
                refine s_iload 109 rfl rfl rfl ?_
                refine s_aload_n 110 rfl rfl rfl ?_
                refine s_getfield 12 15 113 rfl rfl fl_Mod_169 hK.this rfl ?_
                refine s_icmp_ge 140 116 rfl rfl (by decide) (fun c5 => ?_) (fun c5 => ?_)
                -- Mod_silent 116: branch 140 116
                · exact absurd (nn_le c5) (by omega)
                · refine s_iload_n 117 rfl rfl rfl ?_
                  refine s_aload_n 118 rfl rfl rfl ?_
                  refine s_iload 120 rfl rfl rfl ?_
                  refine c_callV1 (h+1) 123 rfl rfl mv_Mod_192 (by omega) (Nat.le_of_ble_eq_true rfl) (Nat.le_of_ble_eq_true rfl) hK.this rfl rfl ?_
                  -- Mod_silent 123: call Mod_silencedBy
                  refine m_Mod_silencedBy (h := h) hK (by omega) ?_
                  dsimp only [ax_rs]
                  refine s_iload_n 124 rfl rfl rfl ?_
                  refine s_icmp_ne 131 127 rfl rfl (by decide) (fun c6 => ?_) (fun c6 => ?_)
                  -- Mod_silent 127: branch 131 127
                  · rw [if_neg (by simpa using c6)] at nx
                    refine s_iconst 0 132 rfl rfl (by decide) ?_
                    refine s_iadd 133 rfl rfl ?_
                    refine s_ist3 134 rfl rfl rfl ?_
                    refine s_inc4 _ 137 rfl rfl rfl rfl ?_
                    refine s_goto 107 rfl (by decide) ?_
                    -- Mod_silent 107: end
                    rw [inc1, show nI (cnt (fun a => decide (sv_ s a = nI k)) i) + 0 = nI (cnt (fun a => decide (sv_ s a = nI k)) i + 0) from nI_add _ 0]
                    exact nx
                  · rw [if_pos (by simpa using c6)] at nx
                    refine s_iconst 1 128 rfl rfl (by decide) ?_
                    refine s_goto 132 rfl (by decide) ?_
                    refine s_iadd 133 rfl rfl ?_
                    refine s_ist3 134 rfl rfl rfl ?_
                    refine s_inc4 _ 137 rfl rfl rfl rfl ?_
                    refine s_goto 107 rfl (by decide) ?_
                    -- Mod_silent 107: end
                    rw [inc1, show nI (cnt (fun a => decide (sv_ s a = nI k)) i) + 1 = nI (cnt (fun a => decide (sv_ s a = nI k)) i + 1) from nI_1 _]
                    exact nx
            exact loop (sAl s) 0 (by omega)
        · exact absurd c2 (by decide)
      · rw [bi_f (in_nle (n := 6) (by omega) z)]
        refine s_if_ne 23 20 rfl rfl (by decide) (fun c7 => ?_) (fun c7 => ?_)
        -- Mod_silent 20: branch 23 20
        · exact absurd rfl c7
        · refine s_bipush (-2) 22 rfl rfl (by decide) ?_
          -- Mod_silent 22: ireturn
          exact s_ireturn rfl .int rfl rfl (h1 (Or.inr z))
  · rw [bi_f (in_nle (by omega) c)]
    refine s_if_eq 20 8 rfl rfl (by decide) (fun c8 => ?_) (fun c8 => ?_)
    -- Mod_silent 8: branch 20 8
    · refine s_bipush (-2) 22 rfl rfl (by decide) ?_
      -- Mod_silent 22: ireturn
      exact s_ireturn rfl .int rfl rfl (h1 (Or.inl c))
    · exact absurd rfl c8
theorem both_silent (x y : Int32) : BI g (Rel g) mt_Top_silent mt_Mod_silent [.int x, .int y] := by
  intro M hR
  have hR' := hR
  obtain ⟨s, t, dw, nw, gc, sl, n, pa, dr, cm, os, gm, tk, pl, bh, va, iw, od, hC, hM, hg, -⟩ := hR.get
  obtain ⟨b1, b2, b3, b4, b5⟩ := hC.bd
  have es := hg.sc.2.2.1
  have ex1 : ∀ b w, b < sSi s → x = nI b → w < 6 → y = nI w → ¬ ((x < 0 ∨ nI (sSi s) ≤ x) ∨ (y < 0 ∨ nI 6 ≤ y)) := by
    intro b w z1 z2 z3 z4 q
    rcases q with q | q
    · exact in_no q (in_bi z1 (by omega) z2)
    · exact in_no q (in_bi z3 (by omega) z4)
  refine c_silent (h := 7) hC (fun q => ?_) (fun b w z1 z2 z3 z4 => ?_)
  · refine ⟨_, rfl, ⟨_, hM.this⟩, d_silent (h := 9) hM (fun _ => ⟨rfl, hR'⟩) (fun b w z1 z2 z3 z4 => ?_)⟩
    rw [es] at z1
    exact absurd q (ex1 b w z1 z2 z3 z4)
  · refine ⟨_, rfl, ⟨_, hM.this⟩, d_silent (h := 9) hM (fun q => ?_) (fun b' w' d1 d2 d3 d4 => ?_)⟩
    · rw [es] at q
      exact absurd q (ex1 b w z1 z2 z3 z4)
    · obtain rfl : b = b' := nn_eq (z2.symm.trans d2)
      obtain rfl : w = w' := nn_eq (z4.symm.trans d4)
      obtain ⟨x1, x2, x3, x4, x5⟩ := hg.si b z1
      have e : si_ t b w = si_ s b w := by
        unfold si_
        rw [x1, x2, x3, x4, hg.sc.2.2.2.2.1, hg.sc.1, cnt_cg (p := fun a => decide (sv_ t a = nI b)) (q := fun a => decide (sv_ s a = nI b)) (fun a ha => by rw [sv_ag hg hC.told b4 ha])]
      rw [e]
      exact ⟨rfl, hR'⟩
theorem m_Silence_linesOf {b w a n : Nat} {un kd fo fi : Int32} {ls : Int64} {lf : Nat → Int32} (h_this : oC M b 8 [.int un, .int kd, .int fo, .int fi, .long ls, .ref w]) (hf : fo = 0 ∨ fo = 1 ∨ fo = 2) (h_all : oC M a 2 [.ref (a + 1), .ref (a + 2), .ref (a + 3), .int (nI n)]) (h_file : iA M (a + 1) 40 lf) (hn : n ≤ 40) (hq : Q (some (.long (lset (fun l => hl_ fo fi ls l (lf l)) n))) M) : ax_G g mt_Silence_linesOf (h + 1) 0 0 0 [.ref b, .ref a, .float 0, .float 0, .float 0] [] M Q := by
  refine s_lconst 0 1 rfl rfl (by decide) ?_
  refine s_lst2 2 rfl rfl rfl ?_
  refine s_iconst 0 3 rfl rfl (by decide) ?_
  refine s_ist4 5 rfl rfl rfl ?_
  -- Silence_linesOf 5: end
  have loop : ∀ (d i : Nat), i + d = n → ax_G g mt_Silence_linesOf (h + 1) 0 0 5 [.ref b, .ref a, .long (lset (fun l => hl_ fo fi ls l (lf l)) i), .float 0, .int (nI i)] [] M Q := by
    intro d
    induction d with
    | zero =>
      intro i hi
      obtain rfl : i = n := by omega
      refine s_iload 7 rfl rfl rfl ?_
      refine s_aload_n 8 rfl rfl rfl ?_
      refine s_getfield 2 3 11 rfl rfl fl_Silence_40 h_all rfl ?_
      refine s_icmp_ge 43 14 rfl rfl (by decide) (fun c1 => ?_) (fun c1 => ?_)
      -- Silence_linesOf 14: branch 43 14
      · refine s_lload_n 44 rfl rfl rfl ?_
        -- Silence_linesOf 44: lreturn
        exact s_lreturn rfl rfl (hq)
      · exact absurd (nn_nle c1) (by omega)
    | succ d ih =>
      intro i hi
      have nx := ih (i + 1) (by omega)
      rw [lset] at nx
      refine s_iload 7 rfl rfl rfl ?_
      refine s_aload_n 8 rfl rfl rfl ?_
      refine s_getfield 2 3 11 rfl rfl fl_Silence_40 h_all rfl ?_
      refine s_icmp_ge 43 14 rfl rfl (by decide) (fun c2 => ?_) (fun c2 => ?_)
      -- Silence_linesOf 14: branch 43 14
      · exact absurd (nn_le c2) (by omega)
      · refine s_aload_n 15 rfl rfl rfl ?_
        refine s_iload 17 rfl rfl rfl ?_
        refine s_aload_n 18 rfl rfl rfl ?_
        refine s_getfield 2 0 21 rfl rfl fl_Silence_45 h_all rfl ?_
        refine s_iload 23 rfl rfl rfl ?_
        refine s_iaload (i) 24 rfl rfl h_file rfl (by omega) (by decide) ?_
        refine c_callV2 h 27 rfl rfl mv_Silence_48 (by omega) (Nat.le_of_ble_eq_true rfl) (Nat.le_of_ble_eq_true rfl) h_this rfl rfl ?_
        -- Silence_linesOf 27: call Silence_hasLine
        refine m_Silence_hasLine h_this hf (by omega) ?_
        dsimp only [ax_rs]
        refine s_if_eq 37 30 rfl rfl (by decide) (fun c3 => ?_) (fun c3 => ?_)
        -- Silence_linesOf 30: branch 37 30
        · rw [bi_0] at c3
          rw [if_neg c3] at nx
          refine s_inc4 _ 40 rfl rfl rfl rfl ?_
          refine s_goto 5 rfl (by decide) ?_
          -- Silence_linesOf 5: end
          rw [inc1]
          exact nx
        · rw [bi_0, Classical.not_not] at c3
          rw [if_pos c3] at nx
          refine s_lload_n 31 rfl rfl rfl ?_
          refine s_lconst 1 32 rfl rfl (by decide) ?_
          refine s_iload 34 rfl rfl rfl ?_
          refine s_lshl 35 rfl rfl ?_
          refine s_lor 36 rfl rfl ?_
          refine s_lst2 37 rfl rfl rfl ?_
          refine s_inc4 _ 40 rfl rfl rfl rfl ?_
          refine s_goto 5 rfl (by decide) ?_
          -- Silence_linesOf 5: end
          rw [inc1]
          exact nx
  exact loop n 0 (by omega)
theorem c_held {x : Int32} (hK : KC M s dw nw gc pa sl) (h1 : (x < 0 ∨ nI (sSi s) ≤ x) → Q (some (.long (-2))) M) (h2 : ∀ k, k < sSi s → x = nI k → Q (some (.long (lset (fun l => hl_ (sWh s k) (sFi s k) (sLs s k) l (sLf s l)) (sLn s)))) M) : ax_G g mt_Top_held (h + 2) 0 0 0 [.ref 0, .int x] [] M Q := by
  obtain ⟨b1, b2, b3, b4, b5⟩ := hK.bd
  refine s_aload_n 1 rfl rfl rfl ?_
  refine s_getfield 11 5 4 rfl rfl fl_Top_45 hK.top rfl ?_
  refine s_iload_n 5 rfl rfl rfl ?_
  refine c_callV1 (h+1) 8 rfl rfl mv_Top_230 (by omega) (Nat.le_of_ble_eq_true rfl) (Nat.le_of_ble_eq_true rfl) hK.silences rfl rfl ?_
  -- Top_held 8: call Silences_has
  refine m_Silences_has hK.silences ?_
  dsimp only [ax_rs]
  rcases in_or (x := x) (n := sSi s) (by omega) with ⟨k, hk, rfl⟩ | c
  · rw [bi_t (in_bi hk (by omega) rfl)]
    obtain ⟨p, w, y_one, h_one⟩ := hK.slot k hk
    refine s_if_eq 30 11 rfl rfl (by decide) (fun c1 => ?_) (fun c1 => ?_)
    -- Top_held 11: branch 30 11
    · exact absurd c1 (by decide)
    · skip
      refine s_aload_n 12 rfl rfl rfl ?_
      refine s_getfield 11 5 15 rfl rfl fl_Top_45 hK.top rfl ?_
      refine s_getfield 9 0 18 rfl rfl fl_Top_231 hK.silences rfl ?_
      refine s_iload_n 19 rfl rfl rfl ?_
      refine s_aaload 5 "AlarmGroups$Silence" (k) 20 rfl rfl rfl hK.slots rfl (by omega) (by decide) (y_one) ?_
      refine s_aload_n 21 rfl rfl rfl ?_
      refine s_getfield 11 13 24 rfl rfl fl_Top_87 hK.top rfl ?_
      refine c_callV1 (h+1) 27 rfl rfl mv_Top_254 (by omega) (Nat.le_of_ble_eq_true rfl) (Nat.le_of_ble_eq_true rfl) h_one rfl rfl ?_
      -- Top_held 27: call Silence_linesOf
      refine m_Silence_linesOf h_one (hK.whc k hk) hK.now hK.file b4 ?_
      dsimp only [ax_rs]
      refine s_goto 33 rfl (by decide) ?_
      -- Top_held 33: lreturn
      exact s_lreturn rfl rfl (h2 k hk rfl)
  · rw [bi_f (in_no c)]
    refine s_if_eq 30 11 rfl rfl (by decide) (fun c2 => ?_) (fun c2 => ?_)
    -- Top_held 11: branch 30 11
    · refine s_ldc2_w (-2) 33 rfl rfl kl_Top_258 ?_
      -- Top_held 33: lreturn
      exact s_lreturn rfl rfl (h1 c)
    · exact absurd rfl c2
theorem l_or0 (x : Int64) : x ||| 0 = x := by
  refine l_ext (fun i _ => ?_)
  rw [l_or, l_0]
  simp
theorem d_held {x : Int32} (hK : KM M s n dr pa cm os gm tk pl bh va iw od) (h1 : (x < 0 ∨ nI (sSi s) ≤ x) → Q (some (.long (-2))) M) (h2 : ∀ k, k < sSi s → x = nI k → Q (some (.long (lset (fun l => hl_ (sWh s k) (sFi s k) (sLs s k) l (sLf s l)) (sLn s)))) M) : ax_G g mt_Mod_held (h + 2) 0 0 0 [.ref 143, .int x, .float 0, .float 0, .float 0] [] M Q := by
  obtain ⟨b1, b2, b3, b4, b5⟩ := hK.bd
  refine s_aload_n 1 rfl rfl rfl ?_
  refine s_iload_n 2 rfl rfl rfl ?_
  refine c_callV1 (h+1) 5 rfl rfl mv_Mod_293 (by omega) (Nat.le_of_ble_eq_true rfl) (Nat.le_of_ble_eq_true rfl) hK.this rfl rfl ?_
  -- Mod_held 5: call Mod_isSilence
  refine m_Mod_isSilence hK ?_
  dsimp only [ax_rs]
  rcases in_or (x := x) (n := sSi s) (by omega) with ⟨k, hk, rfl⟩ | c
  · rw [bi_t (in_le hk (by omega) rfl)]
    have h2 := h2 k hk rfl
    refine s_if_ne 12 8 rfl rfl (by decide) (fun c1 => ?_) (fun c1 => ?_)
    -- Mod_held 8: branch 12 8
    · refine s_lconst 0 13 rfl rfl (by decide) ?_
      refine s_lst2 14 rfl rfl rfl ?_
      refine s_iconst 0 15 rfl rfl (by decide) ?_
      refine s_ist4 17 rfl rfl rfl ?_
      -- Mod_held 17: end
      have loop : ∀ (d i : Nat), i + d = sLn s → ax_G g mt_Mod_held (h + 2) 0 0 17 [.ref 143, .int (nI k), .long (lset (fun l => hl_ (sWh s k) (sFi s k) (sLs s k) l (sLf s l)) i), .float 0, .int (nI i)] [] M Q := by
        intro d
        induction d with
        | zero =>
          intro i hi
          obtain rfl : i = sLn s := by omega
          refine s_iload 19 rfl rfl rfl ?_
          refine s_aload_n 20 rfl rfl rfl ?_
          refine s_getfield 12 3 23 rfl rfl fl_Mod_149 hK.this rfl ?_
          refine s_icmp_ge 53 26 rfl rfl (by decide) (fun c2 => ?_) (fun c2 => ?_)
          -- Mod_held 26: branch 53 26
          · refine s_lload_n 54 rfl rfl rfl ?_
            -- Mod_held 54: lreturn
            exact s_lreturn rfl rfl (h2)
          · exact absurd (nn_nle c2) (by omega)
        | succ d ih =>
          intro i hi
          have nx := ih (i + 1) (by omega)
          rw [lset] at nx
          refine s_iload 19 rfl rfl rfl ?_
          refine s_aload_n 20 rfl rfl rfl ?_
          refine s_getfield 12 3 23 rfl rfl fl_Mod_149 hK.this rfl ?_
          refine s_icmp_ge 53 26 rfl rfl (by decide) (fun c3 => ?_) (fun c3 => ?_)
          -- Mod_held 26: branch 53 26
          · exact absurd (nn_le c3) (by omega)
          · refine s_lload_n 27 rfl rfl rfl ?_
            refine s_aload_n 28 rfl rfl rfl ?_
            refine s_iload_n 29 rfl rfl rfl ?_
            refine s_iload 31 rfl rfl rfl ?_
            refine c_callV2 (h+1) 34 rfl rfl mv_Mod_222 (by omega) (Nat.le_of_ble_eq_true rfl) (Nat.le_of_ble_eq_true rfl) hK.this rfl rfl ?_
            -- Mod_held 34: call Mod_hasLine
            refine m_Mod_hasLine hK hk (by omega) ?_
            dsimp only [ax_rs]
            refine s_if_eq 44 37 rfl rfl (by decide) (fun c4 => ?_) (fun c4 => ?_)
            -- Mod_held 37: branch 44 37
            · rw [bi_0] at c4
              rw [if_neg c4] at nx
              refine s_lconst 0 45 rfl rfl (by decide) ?_
              refine s_lor 46 rfl rfl ?_
              refine s_lst2 47 rfl rfl rfl ?_
              refine s_inc4 _ 50 rfl rfl rfl rfl ?_
              refine s_goto 17 rfl (by decide) ?_
              -- Mod_held 17: end
              rw [inc1, l_or0]
              exact nx
            · rw [bi_0, Classical.not_not] at c4
              rw [if_pos c4] at nx
              refine s_lconst 1 38 rfl rfl (by decide) ?_
              refine s_iload 40 rfl rfl rfl ?_
              refine s_lshl 41 rfl rfl ?_
              refine s_goto 45 rfl (by decide) ?_
              refine s_lor 46 rfl rfl ?_
              refine s_lst2 47 rfl rfl rfl ?_
              refine s_inc4 _ 50 rfl rfl rfl rfl ?_
              refine s_goto 17 rfl (by decide) ?_
              -- Mod_held 17: end
              rw [inc1]
              exact nx
      exact loop (sLn s) 0 (by omega)
    · exact absurd c1 (by decide)
  · rw [bi_f (in_nle (by omega) c)]
    refine s_if_ne 12 8 rfl rfl (by decide) (fun c5 => ?_) (fun c5 => ?_)
    -- Mod_held 8: branch 12 8
    · exact absurd rfl c5
    · refine s_ldc2_w (-2) 11 rfl rfl kl_Mod_296 ?_
      -- Mod_held 11: lreturn
      exact s_lreturn rfl rfl (h1 c)
theorem both_held (x : Int32) : BL g (Rel g) mt_Top_held mt_Mod_held [.int x] := by
  intro M hR
  have hR' := hR
  obtain ⟨s, t, dw, nw, gc, sl, n, pa, dr, cm, os, gm, tk, pl, bh, va, iw, od, hC, hM, hg, -⟩ := hR.get
  obtain ⟨b1, b2, b3, b4, b5⟩ := hC.bd
  have es := hg.sc.2.2.1
  refine c_held (h := 9) hC (fun q => ?_) (fun b z1 z2 => ?_)
  · refine ⟨_, rfl, ⟨_, hM.this⟩, d_held (h := 9) hM (fun _ => ⟨rfl, hR'⟩) (fun b z1 z2 => ?_)⟩
    rw [es] at z1
    exact absurd (in_bi z1 (by omega) z2) (in_no q)
  · refine ⟨_, rfl, ⟨_, hM.this⟩, d_held (h := 9) hM (fun q => ?_) (fun b' d1 d2 => ?_)⟩
    · rw [es] at q
      exact absurd (in_bi z1 (by omega) z2) (in_no q)
    · obtain rfl : b = b' := nn_eq (z2.symm.trans d2)
      obtain ⟨x1, x2, x3, x4, x5⟩ := hg.si b z1
      have e : lset (fun l => hl_ (sWh t b) (sFi t b) (sLs t b) l (sLf t l)) (sLn t) = lset (fun l => hl_ (sWh s b) (sFi s b) (sLs s b) l (sLf s l)) (sLn s) := by
        rw [x3, x4, x5, hg.sc.2.2.2.1]
        refine l_ext (fun i hi => ?_)
        rw [lset_b _ _ (by omega) i hi, lset_b _ _ (by omega) i hi]
        by_cases z : i < sLn s
        · rw [hg.ln i z]
        · rw [decide_eq_false z, Bool.false_and, Bool.false_and]
      rw [e]
      exact ⟨rfl, hR'⟩
theorem c_reason {x y : Int32} {sz : Nat} {rz : Nat → Nat} {rf : Nat → Nat → Int32} (h_this : oC M 0 11 (tp_f dw nw os pa)) (h_silences : oC M 22 9 [.ref 23, .int (nI sz), .ref 24]) (h_slots : M.2 23 = some (.inl (5, 13, .inr (.inr (.inr (.inr sl)))))) (hsz : sz ≤ 12) (hs : ∀ k, k < sz → ∃ p w b, ∃ un kd fo fi : Int32, ∃ ls : Int64, sl k = some p ∧ oC M p 8 [.int un, .int kd, .int fo, .int fi, .long ls, .ref w] ∧ oC M w 7 [.ref b, .int (nI (rz k))] ∧ bA M b 20 (rf k) ∧ rz k ≤ 20) (h1 : (x < 0 ∨ nI sz ≤ x) → Q (some (.int (-2))) M) (h2 : ∀ k, k < sz → x = nI k → y = -1 → Q (some (.int (nI (rz k)))) M) (h3 : ∀ k, k < sz → x = nI k → y ≠ -1 → (y < 0 ∨ nI (rz k) ≤ y) → Q (some (.int (-2))) M) (h4 : ∀ k j, k < sz → x = nI k → j < rz k → y = nI j → Q (some (.int (rf k j &&& 255))) M) : ax_G g mt_Top_reason (h + 1) 0 0 0 [.ref 0, .int x, .int y, .float 0] [] M Q := by
  refine s_aload_n 1 rfl rfl rfl ?_
  refine s_getfield 11 5 4 rfl rfl fl_Top_45 h_this rfl ?_
  refine s_iload_n 5 rfl rfl rfl ?_
  refine c_callV1 h 8 rfl rfl mv_Top_230 (by omega) (Nat.le_of_ble_eq_true rfl) (Nat.le_of_ble_eq_true rfl) h_silences rfl rfl ?_
  -- Top_reason 8: call Silences_has
  refine m_Silences_has h_silences ?_
  dsimp only [ax_rs]
  rcases in_or (x := x) (n := sz) (by omega) with ⟨k, hk, rfl⟩ | c
  · rw [bi_t (in_bi hk (by omega) rfl)]
    obtain ⟨p, w, b, un, kd, fo, fi, ls, y_one, h_one, h_words, h_b, hr⟩ := hs k hk
    refine s_if_ne 14 11 rfl rfl (by decide) (fun c1 => ?_) (fun c1 => ?_)
    -- Top_reason 11: branch 14 11
    · skip
      refine s_aload_n 15 rfl rfl rfl ?_
      refine s_getfield 11 5 18 rfl rfl fl_Top_45 h_this rfl ?_
      refine s_getfield 9 0 21 rfl rfl fl_Top_231 h_silences rfl ?_
      refine s_iload_n 22 rfl rfl rfl ?_
      refine s_aaload 5 "AlarmGroups$Silence" (k) 23 rfl rfl rfl h_slots rfl (by omega) (by decide) (y_one) ?_
      refine s_getfield 8 5 26 rfl rfl fl_Top_260 h_one rfl ?_
      refine s_ast3 27 rfl rfl rfl ?_
      refine s_iload_n 28 rfl rfl rfl ?_
      refine s_iconst (-1) 29 rfl rfl (by decide) ?_
      refine s_icmp_ne 37 32 rfl rfl (by decide) (fun c2 => ?_) (fun c2 => ?_)
      -- Top_reason 32: branch 37 32
      · refine s_iload_n 38 rfl rfl rfl ?_
        refine s_if_lt 57 41 rfl rfl (by decide) (fun c3 => ?_) (fun c3 => ?_)
        -- Top_reason 41: branch 57 41
        · refine s_bipush (-2) 59 rfl rfl (by decide) ?_
          -- Top_reason 59: ireturn
          exact s_ireturn rfl .int rfl rfl (h3 k hk rfl c2 (Or.inl c3))
        · refine s_iload_n 42 rfl rfl rfl ?_
          refine s_aload_n 43 rfl rfl rfl ?_
          refine c_callV0 h 46 rfl rfl mv_Top_98 (by omega) (Nat.le_of_ble_eq_true rfl) (Nat.le_of_ble_eq_true rfl) h_words rfl rfl ?_
          -- Top_reason 46: call Row_size
          refine m_Row_size h_words ?_
          dsimp only [ax_rs]
          refine s_icmp_ge 57 49 rfl rfl (by decide) (fun c4 => ?_) (fun c4 => ?_)
          -- Top_reason 49: branch 57 49
          · refine s_bipush (-2) 59 rfl rfl (by decide) ?_
            -- Top_reason 59: ireturn
            exact s_ireturn rfl .int rfl rfl (h3 k hk rfl c2 (Or.inr c4))
          · obtain ⟨j, hj, rfl⟩ := nI_of c3
            have hjr := nn_nle c4
            refine s_aload_n 50 rfl rfl rfl ?_
            refine s_iload_n 51 rfl rfl rfl ?_
            refine c_callV1 h 54 rfl rfl mv_Top_263 (by omega) (Nat.le_of_ble_eq_true rfl) (Nat.le_of_ble_eq_true rfl) h_words rfl rfl ?_
            -- Top_reason 54: call Row_at
            refine m_Row_at h_words h_b hr (by omega) ?_
            dsimp only [ax_rs]
            rw [rw_at_in hjr (by omega)]
            refine s_goto 59 rfl (by decide) ?_
            -- Top_reason 59: ireturn
            exact s_ireturn rfl .int rfl rfl (h4 k j hk rfl hjr rfl)
      · refine s_aload_n 33 rfl rfl rfl ?_
        refine c_callV0 h 36 rfl rfl mv_Top_98 (by omega) (Nat.le_of_ble_eq_true rfl) (Nat.le_of_ble_eq_true rfl) h_words rfl rfl ?_
        -- Top_reason 36: call Row_size
        refine m_Row_size h_words ?_
        dsimp only [ax_rs]
        exact s_ireturn rfl .int rfl rfl (h2 k hk rfl c2)
    · exact absurd c1 (by decide)
  · rw [bi_f (in_no c)]
    refine s_if_ne 14 11 rfl rfl (by decide) (fun c5 => ?_) (fun c5 => ?_)
    -- Top_reason 11: branch 14 11
    · exact absurd rfl c5
    · refine s_bipush (-2) 13 rfl rfl (by decide) ?_
      -- Top_reason 13: ireturn
      exact s_ireturn rfl .int rfl rfl (h1 c)
theorem d_reason {x y : Int32} {rz : Nat → Nat} {rr rb : Nat → Int32} (hK : KM M s n dr pa cm os gm tk pl bh va iw od) (h_reasonSize : iA M 171 26 rr) (h_reasons : iA M 172 520 rb) (hr : ∀ k, k < sSi s → rr k = nI (rz k) ∧ rz k ≤ 20) (h1 : (x < 0 ∨ nI (sSi s) ≤ x) → Q (some (.int (-2))) M) (h2 : ∀ k, k < sSi s → x = nI k → y = -1 → Q (some (.int (nI (rz k)))) M) (h3 : ∀ k, k < sSi s → x = nI k → y ≠ -1 → (y < 0 ∨ nI (rz k) ≤ y) → Q (some (.int (-2))) M) (h4 : ∀ k j, k < sSi s → x = nI k → j < rz k → y = nI j → Q (some (.int (rb (20 * k + j)))) M) : ax_G g mt_Mod_reason (h + 2) 0 0 0 [.ref 143, .int x, .int y] [] M Q := by
  obtain ⟨b1, b2, b3, b4, b5⟩ := hK.bd
  refine s_aload_n 1 rfl rfl rfl ?_
  refine s_iload_n 2 rfl rfl rfl ?_
  refine c_callV1 (h+1) 5 rfl rfl mv_Mod_293 (by omega) (Nat.le_of_ble_eq_true rfl) (Nat.le_of_ble_eq_true rfl) hK.this rfl rfl ?_
  -- Mod_reason 5: call Mod_isSilence
  refine m_Mod_isSilence hK ?_
  dsimp only [ax_rs]
  rcases in_or (x := x) (n := sSi s) (by omega) with ⟨k, hk, rfl⟩ | c
  · rw [bi_t (in_le hk (by omega) rfl)]
    obtain ⟨e, he⟩ := hr k hk
    refine s_if_eq 28 8 rfl rfl (by decide) (fun c1 => ?_) (fun c1 => ?_)
    -- Mod_reason 8: branch 28 8
    · exact absurd c1 (by decide)
    · refine s_iload_n 9 rfl rfl rfl ?_
      refine s_i2l 10 rfl rfl ?_
      refine s_ldc2_w (-1) 13 rfl rfl kl_Mod_203 ?_
      refine s_aload_n 14 rfl rfl rfl ?_
      refine s_getfield 12 36 17 rfl rfl fl_Mod_92 hK.this rfl ?_
      refine s_iload_n 18 rfl rfl rfl ?_
      refine s_iaload (k) 19 rfl rfl h_reasonSize rfl (by omega) (by decide) ?_
      -- Mod_reason 19: end
      rw [e]
      refine s_iconst 1 20 rfl rfl (by decide) ?_
      refine s_isub 21 rfl rfl ?_
      refine s_i2l 22 rfl rfl ?_
      refine c_callS3 (h+1) 25 rfl rfl mv_Mod_134 (by omega) (Nat.le_of_ble_eq_true rfl) (Nat.le_of_ble_eq_true rfl) ?_
      -- Mod_reason 25: call Mod_in
      refine m_Mod_inI (lo := -1) (hi := nI (rz k) - 1) (by decide) rfl ?_
      dsimp only [ax_rs]
      by_cases z : y = -1
      · subst z
        rw [bi_t ⟨by decide, by
          cases hz : rz k with
          | zero => decide
          | succ m =>
            rw [nI_pred]
            exact Int32.le_trans (by decide) (nI_pos' (n := m) (by omega))⟩]
        refine s_if_ne 31 28 rfl rfl (by decide) (fun c2 => ?_) (fun c2 => ?_)
        -- Mod_reason 28: branch 31 28
        · refine s_iload_n 32 rfl rfl rfl ?_
          refine s_iconst (-1) 33 rfl rfl (by decide) ?_
          refine s_icmp_ne 45 36 rfl rfl (by decide) (fun c3 => ?_) (fun c3 => ?_)
          -- Mod_reason 36: branch 45 36
          · exact absurd rfl c3
          · refine s_aload_n 37 rfl rfl rfl ?_
            refine s_getfield 12 36 40 rfl rfl fl_Mod_92 hK.this rfl ?_
            refine s_iload_n 41 rfl rfl rfl ?_
            refine s_iaload (k) 42 rfl rfl h_reasonSize rfl (by omega) (by decide) ?_
            -- Mod_reason 42: end
            rw [e]
            refine s_goto 56 rfl (by decide) ?_
            -- Mod_reason 56: ireturn
            exact s_ireturn rfl .int rfl rfl (h2 k hk rfl rfl)
        · exact absurd c2 (by decide)
      · rcases in_or (x := y) (n := rz k) (by omega) with ⟨j, hj, rfl⟩ | c
        · rw [bi_t ⟨Int32.le_trans (by decide) (in_le hj (by omega) rfl).1, (in_le hj (by omega) rfl).2⟩]
          refine s_if_ne 31 28 rfl rfl (by decide) (fun c4 => ?_) (fun c4 => ?_)
          -- Mod_reason 28: branch 31 28
          · refine s_iload_n 32 rfl rfl rfl ?_
            refine s_iconst (-1) 33 rfl rfl (by decide) ?_
            refine s_icmp_ne 45 36 rfl rfl (by decide) (fun c5 => ?_) (fun c5 => ?_)
            -- Mod_reason 36: branch 45 36
            · refine s_aload_n 46 rfl rfl rfl ?_
              refine s_getfield 12 37 49 rfl rfl fl_Mod_95 hK.this rfl ?_
              refine s_bipush 20 51 rfl rfl (by decide) ?_
              refine s_iload_n 52 rfl rfl rfl ?_
              refine s_imul 53 rfl rfl ?_
              -- Mod_reason 53: end
              rw [show (20 : Int32) * nI k = nI (20 * k) from pk_mul 20 k]
              refine s_iload_n 54 rfl rfl rfl ?_
              refine s_iadd 55 rfl rfl ?_
              -- Mod_reason 55: end
              rw [nI_add]
              refine s_iaload (20 * k + j) 56 rfl rfl h_reasons rfl (by omega) (by decide) ?_
              -- Mod_reason 56: ireturn
              exact s_ireturn rfl .int rfl rfl (h4 k j hk rfl hj rfl)
            · exact absurd c5 z
          · exact absurd c4 (by decide)
        · have no : ¬ (-1 ≤ y ∧ y ≤ nI (rz k) - 1) := by
            rintro ⟨q1, q2⟩
            refine in_nle (by omega) c ⟨?_, q2⟩
            rw [Int32.le_iff_toInt_le] at q1 ⊢
            have e1 : (-1 : Int32).toInt = -1 := by decide
            have e2 : (0 : Int32).toInt = 0 := by decide
            have e3 : y.toInt ≠ -1 := fun q => z (Int32.toInt_inj.mp (q.trans e1.symm))
            omega
          rw [bi_f no]
          refine s_if_ne 31 28 rfl rfl (by decide) (fun c6 => ?_) (fun c6 => ?_)
          -- Mod_reason 28: branch 31 28
          · exact absurd rfl c6
          · refine s_bipush (-2) 30 rfl rfl (by decide) ?_
            -- Mod_reason 30: ireturn
            exact s_ireturn rfl .int rfl rfl (h3 k hk rfl z c)
  · rw [bi_f (in_nle (by omega) c)]
    refine s_if_eq 28 8 rfl rfl (by decide) (fun c7 => ?_) (fun c7 => ?_)
    -- Mod_reason 8: branch 28 8
    · refine s_bipush (-2) 30 rfl rfl (by decide) ?_
      -- Mod_reason 30: ireturn
      exact s_ireturn rfl .int rfl rfl (h1 c)
    · exact absurd rfl c7
theorem both_reason (x y : Int32) : BI g (Rel g) mt_Top_reason mt_Mod_reason [.int x, .int y] := by
  intro M hR
  have hR' := hR
  obtain ⟨s, t, dw, nw, gc, sl', n, pa, dr, cm, os, gm, tk, pl, bh, va, iw, od, hC, hM, hg, -, -, -, -, ⟨sl, pm, un, kd, wh, fi, rz, rb, ls, i1, i2, i3, i4, i5, i6, i7, i8, i9, i10, i11, i12, i13⟩, -⟩ := hR.get
  obtain ⟨b1, b2, b3, b4, b5⟩ := hC.bd
  have es := hg.sc.2.2.1
  have ch : ∃ (rn : Nat → Nat) (rf : Nat → Nat → Int32), ∀ k, k < sSi s → (∃ p w b, ∃ un kd fo fi : Int32, ∃ ls : Int64, sl k = some p ∧ oC M p 8 [.int un, .int kd, .int fo, .int fi, .long ls, .ref w] ∧ oC M w 7 [.ref b, .int (nI (rn k))] ∧ bA M b 20 (rf k) ∧ rn k ≤ 20) ∧ rz k = nI (rn k) ∧ ∀ j, j < rn k → rf k j &&& 255 = rb (20 * k + j) := by
    have h1 : ∀ k, ∃ (r : Nat) (f : Nat → Int32), k < sSi s → (∃ p w b, ∃ un kd fo fi : Int32, ∃ ls : Int64, sl k = some p ∧ oC M p 8 [.int un, .int kd, .int fo, .int fi, .long ls, .ref w] ∧ oC M w 7 [.ref b, .int (nI r)] ∧ bA M b 20 f ∧ r ≤ 20) ∧ rz k = nI r ∧ ∀ j, j < r → f j &&& 255 = rb (20 * k + j) := by
      intro k
      by_cases hk : k < sSi s
      · obtain ⟨a, b, c, d, e, r, f, ⟨q1, q2, q3, q4⟩, q5⟩ := i13 k (by omega)
        obtain ⟨e1, e2, e3, e4, e5, e6, e7, e8⟩ := q5 hk
        exact ⟨r, f, fun _ => ⟨⟨_, _, _, a, b, c, d, e, (i3 k (by omega)).2, q1, q2, q3, q4⟩, e6, e8⟩⟩
      · exact ⟨0, fun _ => 0, fun q => absurd q hk⟩
    exact ⟨fun k => Classical.choose (h1 k), fun k => Classical.choose (Classical.choose_spec (h1 k)), fun k hk => Classical.choose_spec (Classical.choose_spec (h1 k)) hk⟩
  obtain ⟨rn, rf, hc⟩ := ch
  have hd : ∀ k, k < sSi t → rz k = nI (rn k) ∧ rn k ≤ 20 := by
    intro k hk
    rw [es] at hk
    obtain ⟨⟨_, _, _, _, _, _, _, _, _, _, _, _, q⟩, q2, -⟩ := hc k hk
    exact ⟨q2, q⟩
  have nb : ∀ k, k < sSi s → x = nI k → ¬ (x < 0 ∨ nI (sSi s) ≤ x) := fun k hk e q => in_no q (in_bi hk (by omega) e)
  refine c_reason (h := 10) hC.top i1 i2 i12 (fun k hk => (hc k hk).1) (fun q => ?_) (fun k z1 z2 z3 => ?_) (fun k z1 z2 z3 z4 => ?_) (fun k j z1 z2 z3 z4 => ?_)
  · refine ⟨_, rfl, ⟨_, hM.this⟩, d_reason (h := 9) hM i10 i11 hd (fun _ => ⟨rfl, hR'⟩) (fun k z1 z2 _ => ?_) (fun k z1 z2 _ _ => ?_) (fun k j z1 z2 _ _ => ?_)⟩
    · rw [es] at z1
      exact absurd q (nb k z1 z2)
    · rw [es] at z1
      exact absurd q (nb k z1 z2)
    · rw [es] at z1
      exact absurd q (nb k z1 z2)
  · refine ⟨_, rfl, ⟨_, hM.this⟩, d_reason (h := 9) hM i10 i11 hd (fun q => ?_) (fun k' d1 d2 d3 => ?_) (fun k' d1 d2 d3 _ => absurd z3 d3) (fun k' j d1 d2 d3 d4 => ?_)⟩
    · rw [es] at q
      exact absurd q (nb k z1 z2)
    · obtain rfl : k = k' := nn_eq (z2.symm.trans d2) (by omega) (by omega)
      exact ⟨rfl, hR'⟩
    · have := (hd k' d1).2
      exact absurd (d4.symm.trans z3) (nn_m1 (by omega))
  · refine ⟨_, rfl, ⟨_, hM.this⟩, d_reason (h := 9) hM i10 i11 hd (fun q => ?_) (fun k' d1 d2 d3 => absurd d3 z3) (fun k' d1 d2 d3 _ => ⟨rfl, hR'⟩) (fun k' j d1 d2 d3 d4 => ?_)⟩
    · rw [es] at q
      exact absurd q (nb k z1 z2)
    · obtain rfl : k = k' := nn_eq (z2.symm.trans d2) (by omega) (by omega)
      have := (hd k d1).2
      exact absurd (in_bi d3 (by omega) d4) (in_no z4)
  · have hk20 := (hd k (by rw [es]; exact z1)).2
    refine ⟨_, rfl, ⟨_, hM.this⟩, d_reason (h := 9) hM i10 i11 hd (fun q => ?_) (fun k' d1 d2 d3 => ?_) (fun k' d1 d2 d3 d4 => ?_) (fun k' j' d1 d2 d3 d4 => ?_)⟩
    · rw [es] at q
      exact absurd q (nb k z1 z2)
    · exact absurd (z4.symm.trans d3) (nn_m1 (by omega))
    · obtain rfl : k = k' := nn_eq (z2.symm.trans d2) (by omega) (by omega)
      exact absurd (in_bi z3 (by omega) z4) (in_no d4)
    · obtain rfl : k = k' := nn_eq (z2.symm.trans d2) (by omega) (by omega)
      obtain rfl : j = j' := nn_eq (z4.symm.trans d4) (by omega) (by omega)
      rw [(hc k z1).2.2 j z3]
      exact ⟨rfl, hR'⟩
end SIL
