/-! the reference: faultOf -/
section FAULT
variable {g : ax_Y} {M : ax_M} {Q : Option Value → ax_M → Prop} {h : Nat} {bl ln dr al ru pv si pa cm os gm tk pl bh : Int32} {va : Int64} {iw od : Int32}
theorem m_Mod_faultOf {ip : Bool} {n : Nat} {b : Nat → Int32} (h_this : oC M 143 12 (md_f (nI n) bl ln dr al ru pv si pa cm os gm tk pl bh va iw od)) (h_text : iA M 144 160 b) (hn : n ≤ 160) (hq : ∀ r, ft_ b ip n r → Q (some (.int r)) M) : ax_G g mt_Mod_faultOf (h + 1) 0 0 0 [.ref 143, .int (bi (ip = true)), .float 0, .float 0, .float 0, .float 0, .float 0] [] M Q := by
  refine s_iconst 0 1 rfl rfl (by decide) ?_
  refine s_ist2 2 rfl rfl rfl ?_
  refine s_iconst 0 3 rfl rfl (by decide) ?_
  refine s_ist3 4 rfl rfl rfl ?_
  -- Mod_faultOf 4: end
  have loop : ∀ (d i : Nat) (z4 z5 z6 : Value), z4.category = 1 → z5.category = 1 → z6.category = 1 → i + d = n → i ≤ 24 → (∀ j, j < i → my_ b ip j = true) → ax_G g mt_Mod_faultOf (h + 1) 0 0 4 [.ref 143, .int (bi (ip = true)), .int (nI (pa_ b i)), .int (nI i), z4, z5, z6] [] M Q := by
    intro d
    induction d with
    | zero =>
      intro i z4 z5 z6 w4 w5 w6 hi h24 hm
      obtain rfl : i = n := by omega
      have pl := pa_le b i
      have hq := hq _ (Or.inr ⟨⟨h24, hm⟩, rfl⟩)
      refine s_iload_n 5 rfl rfl rfl ?_
      refine s_aload_n 6 rfl rfl rfl ?_
      refine s_getfield 12 1 9 rfl rfl fl_Mod_138 h_this rfl ?_
      refine s_icmp_ge 198 12 rfl rfl (by decide) (fun c1 => ?_) (fun c1 => ?_)
      -- Mod_faultOf 12: branch 198 12
      · refine s_iload_n 199 rfl rfl rfl ?_
        refine s_if_ne 220 202 rfl rfl (by decide) (fun c2 => ?_) (fun c2 => ?_)
        -- Mod_faultOf 202: branch 220 202
        · rw [if_neg (fun q => c2 (by rw [q.1]; rfl))] at hq
          refine s_iconst (-1) 221 rfl rfl (by decide) ?_
          -- Mod_faultOf 221: ireturn
          exact s_ireturn rfl .int rfl rfl (hq)
        · have c2 := nn_eq (b := 0) c2
          refine s_aload_n 203 rfl rfl rfl ?_
          refine s_getfield 12 1 206 rfl rfl fl_Mod_138 h_this rfl ?_
          refine s_if_gt 213 209 rfl rfl (by decide) (fun c3 => ?_) (fun c3 => ?_)
          -- Mod_faultOf 209: branch 213 209
          · have c3 : 0 < i := nn_lt (a := 0) c3
            rw [if_pos ⟨c2, Or.inl c3⟩] at hq
            refine s_aload_n 214 rfl rfl rfl ?_
            refine s_getfield 12 1 217 rfl rfl fl_Mod_138 h_this rfl ?_
            refine s_goto 221 rfl (by decide) ?_
            -- Mod_faultOf 221: ireturn
            exact s_ireturn rfl .int rfl rfl (hq)
          · have c3 : ¬ 0 < i := fun z => c3 (nI_lt (a := 0) z (by omega))
            refine s_iload_n 210 rfl rfl rfl ?_
            refine s_if_eq 220 213 rfl rfl (by decide) (fun c4 => ?_) (fun c4 => ?_)
            -- Mod_faultOf 213: branch 220 213
            · rw [b01] at c4
              rw [if_neg (fun q => q.2.elim c3 (fun z => by rw [c4] at z; cases z))] at hq
              refine s_iconst (-1) 221 rfl rfl (by decide) ?_
              -- Mod_faultOf 221: ireturn
              exact s_ireturn rfl .int rfl rfl (hq)
            · rw [b01] at c4
              rw [if_pos ⟨c2, Or.inr (by simpa using c4)⟩] at hq
              refine s_aload_n 214 rfl rfl rfl ?_
              refine s_getfield 12 1 217 rfl rfl fl_Mod_138 h_this rfl ?_
              refine s_goto 221 rfl (by decide) ?_
              -- Mod_faultOf 221: ireturn
              exact s_ireturn rfl .int rfl rfl (hq)
      · exact absurd (nn_nle c1) (by omega)
    | succ d ih =>
      intro i z4 z5 z6 w4 w5 w6 hi h24 hm
      have pl := pa_le b i
      have bad : ∀ z6 : Value, (i = 24 ∨ my_ b ip i = false) → ax_G g mt_Mod_faultOf (h + 1) 0 0 175 [.ref 143, .int (bi (ip = true)), .int (nI (pa_ b i)), .int (nI i), .int (b i), .int (bi (db_ b i = true)), z6] [] M Q := by
        intro z6 hbad
        have hq := hq _ (Or.inl ⟨i, by omega, h24, hbad, hm, rfl⟩)
        refine s_iload_n 176 rfl rfl rfl ?_
        -- Mod_faultOf 176: ireturn
        exact s_ireturn rfl .int rfl rfl (hq)
      have k162 : ax_G g mt_Mod_faultOf (h + 1) 0 0 162 [.ref 143, .int (bi (ip = true)), .int (nI (pa_ b i)), .int (nI i), .int (b i), .int (bi (db_ b i = true)), z6] [.int (bi (my_ b ip i = true))] M Q := by
        refine s_ist6 164 rfl rfl rfl ?_
        refine s_iload_n 165 rfl rfl rfl ?_
        refine s_bipush 24 167 rfl rfl (by decide) ?_
        refine s_icmp_eq 175 170 rfl rfl (by decide) (fun c5 => ?_) (fun c5 => ?_)
        -- Mod_faultOf 170: branch 175 170
        · exact bad _ (Or.inl (nn_eq (b := 24) c5))
        · have h24' : i ≠ 24 := nn_ne (b := 24) c5
          refine s_iload 172 rfl rfl rfl ?_
          refine s_if_ne 177 175 rfl rfl (by decide) (fun c6 => ?_) (fun c6 => ?_)
          -- Mod_faultOf 175: branch 177 175
          · rw [b01] at c6
            have c6 : my_ b ip i = true := by simpa using c6
            have nx := fun z4 z5 z6 w4 w5 w6 => ih (i + 1) z4 z5 z6 w4 w5 w6 (by omega) (by omega) (fun j hj => by
              rcases Nat.lt_or_ge j i with z | z
              · exact hm j z
              · obtain rfl : j = i := by omega
                exact c6)
            rw [pa_] at nx
            refine s_iload 179 rfl rfl rfl ?_
            refine s_bipush 47 181 rfl rfl (by decide) ?_
            refine s_icmp_ne 188 184 rfl rfl (by decide) (fun c7 => ?_) (fun c7 => ?_)
            -- Mod_faultOf 184: branch 188 184
            · rw [if_neg c7] at nx
              refine s_iload_n 189 rfl rfl rfl ?_
              refine s_iconst 1 190 rfl rfl (by decide) ?_
              refine s_iadd 191 rfl rfl ?_
              refine s_ist2 192 rfl rfl rfl ?_
              refine s_inc3 _ 195 rfl rfl rfl rfl ?_
              refine s_goto 4 rfl (by decide) ?_
              -- Mod_faultOf 4: end
              rw [inc1, nI_1]
              exact nx _ _ _ rfl rfl rfl
            · rw [if_pos c7] at nx
              refine s_iconst 0 185 rfl rfl (by decide) ?_
              refine s_goto 191 rfl (by decide) ?_
              refine s_ist2 192 rfl rfl rfl ?_
              refine s_inc3 _ 195 rfl rfl rfl rfl ?_
              refine s_goto 4 rfl (by decide) ?_
              -- Mod_faultOf 4: end
              rw [inc1]
              exact nx _ _ _ rfl rfl rfl
          · rw [b01] at c6
            exact bad _ (Or.inr c6)
      have k56 : ax_G g mt_Mod_faultOf (h + 1) 0 0 56 [.ref 143, .int (bi (ip = true)), .int (nI (pa_ b i)), .int (nI i), .int (b i), z5, z6] [.int (bi (db_ b i = true))] M Q := by
        unfold my_ at k162
        refine s_ist5 58 rfl rfl rfl ?_
        refine s_iload 60 rfl rfl rfl ?_
        refine s_bipush 47 62 rfl rfl (by decide) ?_
        refine s_icmp_ne 77 65 rfl rfl (by decide) (fun c8 => ?_) (fun c8 => ?_)
        -- Mod_faultOf 65: branch 77 65
        · rw [if_neg c8] at k162
          refine s_iload 79 rfl rfl rfl ?_
          refine s_bipush 42 81 rfl rfl (by decide) ?_
          refine s_icmp_ne 123 84 rfl rfl (by decide) (fun c9 => ?_) (fun c9 => ?_)
          -- Mod_faultOf 84: branch 123 84
          · rw [if_neg c9] at k162
            have k152 : (lt_ (b i) || decide (b i = 46) || decide (b i = 95)) = true → ax_G g mt_Mod_faultOf (h + 1) 0 0 152 [.ref 143, .int (bi (ip = true)), .int (nI (pa_ b i)), .int (nI i), .int (b i), .int (bi (db_ b i = true)), z6] [] M Q := by
              intro hl
              rw [hl, Bool.true_and] at k162
              refine s_iload 154 rfl rfl rfl ?_
              refine s_if_ne 161 157 rfl rfl (by decide) (fun c10 => ?_) (fun c10 => ?_)
              -- Mod_faultOf 157: branch 161 157
              · rw [b01] at c10
                rw [bi_f (p := (!db_ b i) = true) (by simpa using c10)] at k162
                refine s_iconst 0 162 rfl rfl (by decide) ?_
                -- Mod_faultOf 162: end
                exact k162
              · rw [b01] at c10
                rw [bi_t (p := (!db_ b i) = true) (by simpa using c10)] at k162
                refine s_iconst 1 158 rfl rfl (by decide) ?_
                refine s_goto 162 rfl (by decide) ?_
                -- Mod_faultOf 162: end
                exact k162
            refine s_iload 125 rfl rfl rfl ?_
            refine s_i2l 126 rfl rfl ?_
            refine s_ldc2_w 97 129 rfl rfl kl_Mod_298 ?_
            refine s_ldc2_w 122 132 rfl rfl kl_Mod_300 ?_
            refine c_callS3 h 135 rfl rfl mv_Mod_134 (by omega) (Nat.le_of_ble_eq_true rfl) (Nat.le_of_ble_eq_true rfl) ?_
            -- Mod_faultOf 135: call Mod_in
            refine m_Mod_inI (lo := 97) (hi := 122) (by decide) (by decide) ?_
            dsimp only [ax_rs]
            refine s_if_ne 152 138 rfl rfl (by decide) (fun c11 => ?_) (fun c11 => ?_)
            -- Mod_faultOf 138: branch 152 138
            · rw [bi_0, Classical.not_not] at c11
              exact k152 (by simp [lt_, c11])
            · rw [bi_0] at c11
              refine s_iload 140 rfl rfl rfl ?_
              refine s_bipush 46 142 rfl rfl (by decide) ?_
              refine s_icmp_eq 152 145 rfl rfl (by decide) (fun c12 => ?_) (fun c12 => ?_)
              -- Mod_faultOf 145: branch 152 145
              · exact k152 (by simp [c12])
              · refine s_iload 147 rfl rfl rfl ?_
                refine s_bipush 95 149 rfl rfl (by decide) ?_
                refine s_icmp_ne 161 152 rfl rfl (by decide) (fun c13 => ?_) (fun c13 => ?_)
                -- Mod_faultOf 152: branch 161 152
                · rw [bi_f (p := ((lt_ (b i) || decide (b i = 46) || decide (b i = 95)) && !db_ b i) = true) (by
                    have e : lt_ (b i) = false := decide_eq_false c11
                    simp [e, c12, c13])] at k162
                  refine s_iconst 0 162 rfl rfl (by decide) ?_
                  -- Mod_faultOf 162: end
                  exact k162
                · exact k152 (by simp [c13])
          · rw [if_pos c9] at k162
            refine s_iload_n 85 rfl rfl rfl ?_
            refine s_if_eq 119 88 rfl rfl (by decide) (fun c14 => ?_) (fun c14 => ?_)
            -- Mod_faultOf 88: branch 119 88
            · rw [b01] at c14
              rw [bi_f (p := (ip && !db_ b i && decide (pa_ b i = 0 ∨ b (i - 1) ≠ 42 ∨ pa_ b i = 1)) = true) (by simp [c14])] at k162
              refine s_iconst 0 120 rfl rfl (by decide) ?_
              refine s_goto 162 rfl (by decide) ?_
              -- Mod_faultOf 162: end
              exact k162
            · rw [b01] at c14
              have c14 : ip = true := by simpa using c14
              refine s_iload 90 rfl rfl rfl ?_
              refine s_if_ne 119 93 rfl rfl (by decide) (fun c15 => ?_) (fun c15 => ?_)
              -- Mod_faultOf 93: branch 119 93
              · rw [b01] at c15
                rw [bi_f (p := (ip && !db_ b i && decide (pa_ b i = 0 ∨ b (i - 1) ≠ 42 ∨ pa_ b i = 1)) = true) (by
                  have c15 : db_ b i = true := by simpa using c15
                  simp [c15])] at k162
                refine s_iconst 0 120 rfl rfl (by decide) ?_
                refine s_goto 162 rfl (by decide) ?_
                -- Mod_faultOf 162: end
                exact k162
              · rw [b01] at c15
                have yes : (pa_ b i = 0 ∨ b (i - 1) ≠ 42 ∨ pa_ b i = 1) → ax_G g mt_Mod_faultOf (h + 1) 0 0 115 [.ref 143, .int (bi (ip = true)), .int (nI (pa_ b i)), .int (nI i), .int (b i), .int (bi (db_ b i = true)), z6] [] M Q := by
                  intro hy
                  rw [bi_t (p := (ip && !db_ b i && decide (pa_ b i = 0 ∨ b (i - 1) ≠ 42 ∨ pa_ b i = 1)) = true) (by rw [c14, c15, decide_eq_true hy]; rfl)] at k162
                  refine s_iconst 1 116 rfl rfl (by decide) ?_
                  refine s_goto 162 rfl (by decide) ?_
                  -- Mod_faultOf 162: end
                  exact k162
                refine s_iload_n 94 rfl rfl rfl ?_
                refine s_if_eq 115 97 rfl rfl (by decide) (fun c16 => ?_) (fun c16 => ?_)
                -- Mod_faultOf 97: branch 115 97
                · exact yes (Or.inl (nn_eq (b := 0) c16))
                · have c16 : pa_ b i ≠ 0 := nn_ne (b := 0) c16
                  obtain ⟨i', rfl⟩ : ∃ i', i = i' + 1 := ⟨i - 1, by omega⟩
                  refine s_aload_n 98 rfl rfl rfl ?_
                  refine s_getfield 12 0 101 rfl rfl fl_Mod_7 h_this rfl ?_
                  refine s_iload_n 102 rfl rfl rfl ?_
                  refine s_iconst 1 103 rfl rfl (by decide) ?_
                  refine s_isub 104 rfl rfl ?_
                  -- Mod_faultOf 104: end
                  rw [nI_pred]
                  refine s_iaload (i') 105 rfl rfl h_text rfl (by omega) (by decide) ?_
                  refine s_bipush 42 107 rfl rfl (by decide) ?_
                  refine s_icmp_ne 115 110 rfl rfl (by decide) (fun c17 => ?_) (fun c17 => ?_)
                  -- Mod_faultOf 110: branch 115 110
                  · exact yes (Or.inr (Or.inl c17))
                  · refine s_iload_n 111 rfl rfl rfl ?_
                    refine s_iconst 1 112 rfl rfl (by decide) ?_
                    refine s_icmp_ne 119 115 rfl rfl (by decide) (fun c18 => ?_) (fun c18 => ?_)
                    -- Mod_faultOf 115: branch 119 115
                    · rw [bi_f (p := (ip && !db_ b (i' + 1) && decide (pa_ b (i' + 1) = 0 ∨ b (i' + 1 - 1) ≠ 42 ∨ pa_ b (i' + 1) = 1)) = true) (by
                        rw [decide_eq_false]
                        · simp
                        · rintro (q | q | q)
                          · exact c16 q
                          · exact q c17
                          · exact c18 (by rw [q]; rfl))] at k162
                      refine s_iconst 0 120 rfl rfl (by decide) ?_
                      refine s_goto 162 rfl (by decide) ?_
                      -- Mod_faultOf 162: end
                      exact k162
                    · exact yes (Or.inr (Or.inr (nn_eq (b := 1) c18)))
        · rw [if_pos c8] at k162
          refine s_iload_n 66 rfl rfl rfl ?_
          refine s_if_le 73 69 rfl rfl (by decide) (fun c19 => ?_) (fun c19 => ?_)
          -- Mod_faultOf 69: branch 73 69
          · rw [bi_f (p := decide (0 < pa_ b i) = true) (fun q => nI_nle (of_decide_eq_true q) (by omega) c19)] at k162
            refine s_iconst 0 74 rfl rfl (by decide) ?_
            refine s_goto 162 rfl (by decide) ?_
            -- Mod_faultOf 162: end
            exact k162
          · have c19 : 0 < pa_ b i := by
              rcases Nat.eq_zero_or_pos (pa_ b i) with z | z
              · exact absurd (by rw [z]; decide) c19
              · exact z
            rw [bi_t (p := decide (0 < pa_ b i) = true) (decide_eq_true c19)] at k162
            refine s_iconst 1 70 rfl rfl (by decide) ?_
            refine s_goto 162 rfl (by decide) ?_
            -- Mod_faultOf 162: end
            exact k162
      unfold db_ at k56
      refine s_iload_n 5 rfl rfl rfl ?_
      refine s_aload_n 6 rfl rfl rfl ?_
      refine s_getfield 12 1 9 rfl rfl fl_Mod_138 h_this rfl ?_
      refine s_icmp_ge 198 12 rfl rfl (by decide) (fun c20 => ?_) (fun c20 => ?_)
      -- Mod_faultOf 12: branch 198 12
      · exact absurd (nn_le c20) (by omega)
      · refine s_aload_n 13 rfl rfl rfl ?_
        refine s_getfield 12 0 16 rfl rfl fl_Mod_7 h_this rfl ?_
        refine s_iload_n 17 rfl rfl rfl ?_
        refine s_iaload (i) 18 rfl rfl h_text rfl (by omega) (by decide) ?_
        refine s_ist4 20 rfl rfl rfl ?_
        refine s_iload_n 21 rfl rfl rfl ?_
        refine s_iconst 2 22 rfl rfl (by decide) ?_
        refine s_icmp_ne 55 25 rfl rfl (by decide) (fun c21 => ?_) (fun c21 => ?_)
        -- Mod_faultOf 25: branch 55 25
        · rw [bi_f (p := decide (pa_ b i = 2 ∧ b (i - 1) = 42 ∧ b (i - 2) = 42) = true) (fun q => c21 (by rw [(of_decide_eq_true q).1]; rfl))] at k56
          refine s_iconst 0 56 rfl rfl (by decide) ?_
          -- Mod_faultOf 56: end
          exact k56
        · have c21 := nn_eq (b := 2) c21
          obtain ⟨i', rfl⟩ : ∃ i', i = i' + 2 := ⟨i - 2, by omega⟩
          refine s_aload_n 26 rfl rfl rfl ?_
          refine s_getfield 12 0 29 rfl rfl fl_Mod_7 h_this rfl ?_
          refine s_iload_n 30 rfl rfl rfl ?_
          refine s_iconst 1 31 rfl rfl (by decide) ?_
          refine s_isub 32 rfl rfl ?_
          -- Mod_faultOf 32: end
          rw [show nI (i' + 2) - 1 = nI (i' + 1) from nI_pred (i' + 1)]
          refine s_iaload (i' + 1) 33 rfl rfl h_text rfl (by omega) (by decide) ?_
          refine s_bipush 42 35 rfl rfl (by decide) ?_
          refine s_icmp_ne 55 38 rfl rfl (by decide) (fun c22 => ?_) (fun c22 => ?_)
          -- Mod_faultOf 38: branch 55 38
          · rw [bi_f (p := decide (pa_ b (i' + 2) = 2 ∧ b (i' + 2 - 1) = 42 ∧ b (i' + 2 - 2) = 42) = true) (fun q => c22 (of_decide_eq_true q).2.1)] at k56
            refine s_iconst 0 56 rfl rfl (by decide) ?_
            -- Mod_faultOf 56: end
            exact k56
          · refine s_aload_n 39 rfl rfl rfl ?_
            refine s_getfield 12 0 42 rfl rfl fl_Mod_7 h_this rfl ?_
            refine s_iload_n 43 rfl rfl rfl ?_
            refine s_iconst 2 44 rfl rfl (by decide) ?_
            refine s_isub 45 rfl rfl ?_
            -- Mod_faultOf 45: end
            rw [show nI (i' + 2) - 2 = nI i' from (pk_sub (show 2 ≤ i' + 2 by omega)).trans (by rw [show i' + 2 - 2 = i' by omega])]
            refine s_iaload (i') 46 rfl rfl h_text rfl (by omega) (by decide) ?_
            refine s_bipush 42 48 rfl rfl (by decide) ?_
            refine s_icmp_ne 55 51 rfl rfl (by decide) (fun c23 => ?_) (fun c23 => ?_)
            -- Mod_faultOf 51: branch 55 51
            · rw [bi_f (p := decide (pa_ b (i' + 2) = 2 ∧ b (i' + 2 - 1) = 42 ∧ b (i' + 2 - 2) = 42) = true) (fun q => c23 (of_decide_eq_true q).2.2)] at k56
              refine s_iconst 0 56 rfl rfl (by decide) ?_
              -- Mod_faultOf 56: end
              exact k56
            · rw [bi_t (p := decide (pa_ b (i' + 2) = 2 ∧ b (i' + 2 - 1) = 42 ∧ b (i' + 2 - 2) = 42) = true) (decide_eq_true ⟨c21, c22, c23⟩)] at k56
              refine s_iconst 1 52 rfl rfl (by decide) ?_
              refine s_goto 56 rfl (by decide) ?_
              -- Mod_faultOf 56: end
              exact k56
  exact loop n 0 _ _ _ rfl rfl rfl (by omega) (by omega) (fun j hj => by omega)
/-- k bytes of b, at row i of rows of 24 -/
def pu_ (p b : Nat → Int32) (i k : Nat) : Nat → Int32 := fun j => if 24 * i ≤ j ∧ j < 24 * i + k then b (j - 24 * i) else p j
theorem pu_0 (p b : Nat → Int32) (i : Nat) : pu_ p b i 0 = p := by
  funext j
  unfold pu_
  rw [if_neg (by omega)]
theorem pu_s (p b : Nat → Int32) (i k : Nat) : upd (pu_ p b i k) (24 * i + k) (b k) = pu_ p b i (k + 1) := by
  funext j
  unfold upd pu_
  by_cases q : j = 24 * i + k
  · rw [if_pos q, if_pos (by omega), q, show 24 * i + k - 24 * i = k by omega]
  · rw [if_neg q]
    by_cases q2 : 24 * i ≤ j ∧ j < 24 * i + k
    · rw [if_pos q2, if_pos (by omega)]
    · rw [if_neg q2, if_neg (by omega)]
theorem d_path {x : Int32} {n : Nat} {b p2 pz : Nat → Int32} (h_this : oC M 143 12 (md_f (nI n) bl ln dr al ru pv si pa cm os gm tk pl bh va iw od)) (h_text : iA M 144 160 b) (hn : n ≤ 160) (h_paths : iA M 173 144 p2) (h_pathSize : iA M 174 6 pz) (h1 : (x < 0 ∨ nI 6 ≤ x) → Q (some (.int (-2))) (md_m M (nI 0) bl ln dr al ru pv si pa cm os gm tk pl bh va iw od)) (h2 : ∀ i r, i < 6 → x = nI i → ft_ b false n r → r ≠ -1 → Q (some (.int (-10 - r))) (md_m M (nI 0) bl ln dr al ru pv si pa cm os gm tk pl bh va iw od)) (h3 : ∀ i, i < 6 → x = nI i → ft_ b false n (-1) → Q (some (.int (nI n))) (iP (iP (md_m M (nI 0) bl ln dr al ru pv si pa cm os gm tk pl bh va iw od) 173 144 (pu_ p2 b i n)) 174 6 (upd pz i (nI n)))) : ax_G g mt_Mod_path (h + 2) 0 0 0 [.ref 143, .int x, .float 0, .float 0, .float 0] [] M Q := by
  refine s_aload_n 1 rfl rfl rfl ?_
  refine s_getfield 12 1 4 rfl rfl fl_Mod_138 h_this rfl ?_
  refine s_ist2 5 rfl rfl rfl ?_
  refine s_aload_n 6 rfl rfl rfl ?_
  refine s_iconst 0 7 rfl rfl (by decide) ?_
  refine c_callV1 (h+1) 10 rfl rfl mv_Mod_302 (by omega) (Nat.le_of_ble_eq_true rfl) (Nat.le_of_ble_eq_true rfl) h_this rfl rfl ?_
  -- Mod_path 10: call Mod_faultOf
  refine m_Mod_faultOf (ip := false) h_this h_text hn (fun r hr => ?_)
  dsimp only [ax_rs]
  refine s_ist3 11 rfl rfl rfl ?_
  refine s_aload_n 12 rfl rfl rfl ?_
  refine s_iconst 0 13 rfl rfl (by decide) ?_
  refine s_putfield 12 1 (.int) 16 rfl rfl fp_Mod_138 h_this (Nat.le_of_ble_eq_true rfl) ⟨rfl, rfl⟩ (fun h => absurd h (by decide)) ?_
  refine s_iload_n 17 rfl rfl rfl ?_
  refine s_i2l 18 rfl rfl ?_
  refine s_lconst 0 19 rfl rfl (by decide) ?_
  refine s_ldc2_w 5 22 rfl rfl kl_Mod_144 ?_
  refine c_callS3 (h+1) 25 rfl rfl mv_Mod_134 (by omega) (Nat.le_of_ble_eq_true rfl) (Nat.le_of_ble_eq_true rfl) ?_
  -- Mod_path 25: call Mod_in
  refine m_Mod_inI (lo := 0) (hi := nI 6 - 1) (by decide) (by decide) ?_
  dsimp only [ax_rs]
  rcases in_or (x := x) (n := 6) (by omega) with ⟨i, hi, rfl⟩ | c
  · rw [bi_t (in_le hi (by omega) rfl)]
    refine s_if_ne 31 28 rfl rfl (by decide) (fun c1 => ?_) (fun c1 => ?_)
    -- Mod_path 28: branch 31 28
    · refine s_iload_n 32 rfl rfl rfl ?_
      refine s_iconst (-1) 33 rfl rfl (by decide) ?_
      refine s_icmp_eq 41 36 rfl rfl (by decide) (fun c2 => ?_) (fun c2 => ?_)
      -- Mod_path 36: branch 41 36
      · subst c2
        have h3 := h3 i hi rfl hr
        have n24 : n ≤ 24 := by
          rcases hr with ⟨j, -, h24, -, -, e⟩ | ⟨⟨q, -⟩, -⟩
          · exact absurd e.symm (nn_m1 (by omega))
          · exact q
        refine s_iconst 0 42 rfl rfl (by decide) ?_
        refine s_ist4 44 rfl rfl rfl ?_
        -- Mod_path 44: end
        have loop : ∀ (d k : Nat), k + d = n → ax_G g mt_Mod_path (h + 2) 0 0 44 [.ref 143, .int (nI i), .int (nI n), .int (-1), .int (nI k)] [] (iP (md_m M (nI 0) bl ln dr al ru pv si pa cm os gm tk pl bh va iw od) 173 144 (pu_ p2 b i k)) Q := by
          intro d
          induction d with
          | zero =>
            intro k hk
            obtain rfl : k = n := by omega
            refine s_iload 46 rfl rfl rfl ?_
            refine s_iload_n 47 rfl rfl rfl ?_
            refine s_icmp_ge 75 50 rfl rfl (by decide) (fun c3 => ?_) (fun c3 => ?_)
            -- Mod_path 50: branch 75 50
            · refine s_aload_n 76 rfl rfl rfl ?_
              refine s_getfield 12 44 79 rfl rfl fl_Mod_101 rfl rfl ?_
              refine s_iload_n 80 rfl rfl rfl ?_
              refine s_iload_n 81 rfl rfl rfl ?_
              refine s_iastore (i) 82 rfl rfl h_pathSize rfl (by omega) (by decide) ?_
              refine s_iload_n 83 rfl rfl rfl ?_
              -- Mod_path 83: ireturn
              exact s_ireturn rfl .int rfl rfl (h3)
            · exact absurd (nn_nle c3) (by omega)
          | succ d ih =>
            intro k hk
            have nx := ih (k + 1) (by omega)
            refine s_iload 46 rfl rfl rfl ?_
            refine s_iload_n 47 rfl rfl rfl ?_
            refine s_icmp_ge 75 50 rfl rfl (by decide) (fun c4 => ?_) (fun c4 => ?_)
            -- Mod_path 50: branch 75 50
            · exact absurd (nn_le c4) (by omega)
            · refine s_aload_n 51 rfl rfl rfl ?_
              refine s_getfield 12 43 54 rfl rfl fl_Mod_98 rfl rfl ?_
              refine s_bipush 24 56 rfl rfl (by decide) ?_
              refine s_iload_n 57 rfl rfl rfl ?_
              refine s_imul 58 rfl rfl ?_
              -- Mod_path 58: end
              rw [show (24 : Int32) * nI i = nI (24 * i) from pk_mul 24 i]
              refine s_iload 60 rfl rfl rfl ?_
              refine s_iadd 61 rfl rfl ?_
              -- Mod_path 61: end
              rw [nI_add]
              refine s_aload_n 62 rfl rfl rfl ?_
              refine s_getfield 12 0 65 rfl rfl fl_Mod_7 rfl rfl ?_
              refine s_iload 67 rfl rfl rfl ?_
              refine s_iaload (k) 68 rfl rfl h_text rfl (by omega) (by decide) ?_
              refine s_iastore (24 * i + k) 69 rfl rfl rfl rfl (by omega) (by decide) ?_
              -- Mod_path 69: end
              rw [pu_s]
              unfold iP at nx ⊢
              rw [ax_pp]
              refine s_inc4 _ 72 rfl rfl rfl rfl ?_
              refine s_goto 44 rfl (by decide) ?_
              -- Mod_path 44: end
              rw [inc1]
              exact nx
        have h0 := loop n 0 (by omega)
        rw [pu_0] at h0
        unfold iP at h0
        rw [ax_id (M := md_m M (nI 0) bl ln dr al ru pv si pa cm os gm tk pl bh va iw od) (a := 173) h_paths] at h0
        exact h0
      · refine s_bipush (-10) 38 rfl rfl (by decide) ?_
        refine s_iload_n 39 rfl rfl rfl ?_
        refine s_isub 40 rfl rfl ?_
        -- Mod_path 40: ireturn
        exact s_ireturn rfl .int rfl rfl (h2 i r hi rfl hr c2)
    · exact absurd c1 (by decide)
  · rw [bi_f (in_nle (n := 6) (by omega) c)]
    refine s_if_ne 31 28 rfl rfl (by decide) (fun c5 => ?_) (fun c5 => ?_)
    -- Mod_path 28: branch 31 28
    · exact absurd rfl c5
    · refine s_bipush (-2) 30 rfl rfl (by decide) ?_
      -- Mod_path 30: ireturn
      exact s_ireturn rfl .int rfl rfl (h1 c)
theorem d_pattern {x : Int32} {n pt : Nat} {b p2 pz ow : Nat → Int32} (h_this : oC M 143 12 (md_f (nI n) bl ln dr al ru pv si (nI pt) cm os gm tk pl bh va iw od)) (h_text : iA M 144 160 b) (hn : n ≤ 160) (h_pattern : iA M 175 192 p2) (h_patternSize : iA M 176 8 pz) (h_ownerOfPattern : iA M 177 8 ow) (hpt : pt ≤ 8) (h1 : (x < 0 ∨ nI 10 ≤ x) → Q (some (.int (-2))) (md_m M (nI 0) bl ln dr al ru pv si (nI pt) cm os gm tk pl bh va iw od)) (h2 : ∀ i r, i < 10 → x = nI i → ft_ b true n r → r ≠ -1 → Q (some (.int (-10 - r))) (md_m M (nI 0) bl ln dr al ru pv si (nI pt) cm os gm tk pl bh va iw od)) (h3 : ∀ i, i < 10 → x = nI i → ft_ b true n (-1) → pt = 8 → Q (some (.int (-4))) (md_m M (nI 0) bl ln dr al ru pv si (nI pt) cm os gm tk pl bh va iw od)) (h4 : ∀ i, i < 10 → x = nI i → ft_ b true n (-1) → pt < 8 → Q (some (.int (nI (pt + 1)))) (iP (iP (iP (md_m M (nI 0) bl ln dr al ru pv si (nI (pt + 1)) cm os gm tk pl bh va iw od) 175 192 (pu_ p2 b pt n)) 176 8 (upd pz pt (nI n))) 177 8 (upd ow pt x))) : ax_G g mt_Mod_pattern (h + 2) 0 0 0 [.ref 143, .int x, .float 0, .float 0, .float 0] [] M Q := by
  refine s_aload_n 1 rfl rfl rfl ?_
  refine s_getfield 12 1 4 rfl rfl fl_Mod_138 h_this rfl ?_
  refine s_ist2 5 rfl rfl rfl ?_
  refine s_aload_n 6 rfl rfl rfl ?_
  refine s_iconst 1 7 rfl rfl (by decide) ?_
  refine c_callV1 (h+1) 10 rfl rfl mv_Mod_302 (by omega) (Nat.le_of_ble_eq_true rfl) (Nat.le_of_ble_eq_true rfl) h_this rfl rfl ?_
  -- Mod_pattern 10: call Mod_faultOf
  refine m_Mod_faultOf (ip := true) h_this h_text hn (fun r hr => ?_)
  dsimp only [ax_rs]
  refine s_ist3 11 rfl rfl rfl ?_
  refine s_aload_n 12 rfl rfl rfl ?_
  refine s_iconst 0 13 rfl rfl (by decide) ?_
  refine s_putfield 12 1 (.int) 16 rfl rfl fp_Mod_138 h_this (Nat.le_of_ble_eq_true rfl) ⟨rfl, rfl⟩ (fun h => absurd h (by decide)) ?_
  refine s_iload_n 17 rfl rfl rfl ?_
  refine s_i2l 18 rfl rfl ?_
  refine s_lconst 0 19 rfl rfl (by decide) ?_
  refine s_ldc2_w 9 22 rfl rfl kl_Mod_172 ?_
  refine c_callS3 (h+1) 25 rfl rfl mv_Mod_134 (by omega) (Nat.le_of_ble_eq_true rfl) (Nat.le_of_ble_eq_true rfl) ?_
  -- Mod_pattern 25: call Mod_in
  refine m_Mod_inI (lo := 0) (hi := nI 10 - 1) (by decide) (by decide) ?_
  dsimp only [ax_rs]
  rcases in_or (x := x) (n := 10) (by omega) with ⟨i, hi, rfl⟩ | c
  · rw [bi_t (in_le hi (by omega) rfl)]
    refine s_if_ne 31 28 rfl rfl (by decide) (fun c1 => ?_) (fun c1 => ?_)
    -- Mod_pattern 28: branch 31 28
    · refine s_iload_n 32 rfl rfl rfl ?_
      refine s_iconst (-1) 33 rfl rfl (by decide) ?_
      refine s_icmp_eq 41 36 rfl rfl (by decide) (fun c2 => ?_) (fun c2 => ?_)
      -- Mod_pattern 36: branch 41 36
      · subst c2
        have n24 : n ≤ 24 := by
          rcases hr with ⟨j, -, h24, -, -, e⟩ | ⟨⟨q, -⟩, -⟩
          · exact absurd e.symm (nn_m1 (by omega))
          · exact q
        refine s_aload_n 42 rfl rfl rfl ?_
        refine s_getfield 12 45 45 rfl rfl fl_Mod_306 rfl rfl ?_
        refine s_bipush 8 47 rfl rfl (by decide) ?_
        refine s_icmp_ne 53 50 rfl rfl (by decide) (fun c3 => ?_) (fun c3 => ?_)
        -- Mod_pattern 50: branch 53 50
        · have hp8 : pt < 8 := by have := nn_ne (b := 8) c3; omega
          have h4 := h4 i hi rfl hr hp8
          refine s_iconst 0 54 rfl rfl (by decide) ?_
          refine s_ist4 56 rfl rfl rfl ?_
          -- Mod_pattern 56: end
          have loop : ∀ (d k : Nat), k + d = n → ax_G g mt_Mod_pattern (h + 2) 0 0 56 [.ref 143, .int (nI i), .int (nI n), .int (-1), .int (nI k)] [] (iP (md_m M (nI 0) bl ln dr al ru pv si (nI pt) cm os gm tk pl bh va iw od) 175 192 (pu_ p2 b pt k)) Q := by
            intro d
            induction d with
            | zero =>
              intro k hk
              obtain rfl : k = n := by omega
              refine s_iload 58 rfl rfl rfl ?_
              refine s_iload_n 59 rfl rfl rfl ?_
              refine s_icmp_ge 90 62 rfl rfl (by decide) (fun c4 => ?_) (fun c4 => ?_)
              -- Mod_pattern 62: branch 90 62
              · refine s_aload_n 91 rfl rfl rfl ?_
                refine s_getfield 12 47 94 rfl rfl fl_Mod_107 rfl rfl ?_
                refine s_aload_n 95 rfl rfl rfl ?_
                refine s_getfield 12 45 98 rfl rfl fl_Mod_306 rfl rfl ?_
                refine s_iload_n 99 rfl rfl rfl ?_
                refine s_iastore (pt) 100 rfl rfl h_patternSize rfl (by omega) (by decide) ?_
                refine s_aload_n 101 rfl rfl rfl ?_
                refine s_getfield 12 48 104 rfl rfl fl_Mod_110 rfl rfl ?_
                refine s_aload_n 105 rfl rfl rfl ?_
                refine s_getfield 12 45 108 rfl rfl fl_Mod_306 rfl rfl ?_
                refine s_iload_n 109 rfl rfl rfl ?_
                refine s_iastore (pt) 110 rfl rfl h_ownerOfPattern rfl (by omega) (by decide) ?_
                refine s_aload_n 111 rfl rfl rfl ?_
                refine s_dup 112 rfl rfl rfl ?_
                refine s_getfield 12 45 115 rfl rfl fl_Mod_306 rfl rfl ?_
                refine s_iconst 1 116 rfl rfl (by decide) ?_
                refine s_iadd 117 rfl rfl ?_
                -- Mod_pattern 117: end
                rw [nI_1]
                refine s_putfield 12 45 (.int) 120 rfl rfl fp_Mod_306 rfl (Nat.le_of_ble_eq_true rfl) ⟨rfl, rfl⟩ (fun h => absurd h (by decide)) ?_
                refine s_aload_n 121 rfl rfl rfl ?_
                refine s_getfield 12 45 124 rfl rfl fl_Mod_306 rfl rfl ?_
                -- Mod_pattern 124: ireturn
                have e : ∀ (X Y : ax_E) (A B C : ax_E), ax_put (ax_put (ax_put (ax_put (ax_put M 143 X) 175 A) 176 B) 177 C) 143 Y = ax_put (ax_put (ax_put (ax_put M 143 Y) 175 A) 176 B) 177 C := by
                  intro X Y A B C
                  refine ax_me rfl (fun k => ?_)
                  simp only [ax_put, va_up]
                  by_cases h1 : k = 143
                  · subst h1; simp
                  · simp [h1]
                unfold md_m oP iP at h4 ⊢
                rw [e]
                exact s_ireturn rfl .int rfl rfl (h4)
              · exact absurd (nn_nle c4) (by omega)
            | succ d ih =>
              intro k hk
              have nx := ih (k + 1) (by omega)
              refine s_iload 58 rfl rfl rfl ?_
              refine s_iload_n 59 rfl rfl rfl ?_
              refine s_icmp_ge 90 62 rfl rfl (by decide) (fun c5 => ?_) (fun c5 => ?_)
              -- Mod_pattern 62: branch 90 62
              · exact absurd (nn_le c5) (by omega)
              · refine s_aload_n 63 rfl rfl rfl ?_
                refine s_getfield 12 46 66 rfl rfl fl_Mod_104 rfl rfl ?_
                refine s_bipush 24 68 rfl rfl (by decide) ?_
                refine s_aload_n 69 rfl rfl rfl ?_
                refine s_getfield 12 45 72 rfl rfl fl_Mod_306 rfl rfl ?_
                refine s_imul 73 rfl rfl ?_
                -- Mod_pattern 73: end
                rw [show (24 : Int32) * nI pt = nI (24 * pt) from pk_mul 24 pt]
                refine s_iload 75 rfl rfl rfl ?_
                refine s_iadd 76 rfl rfl ?_
                -- Mod_pattern 76: end
                rw [nI_add]
                refine s_aload_n 77 rfl rfl rfl ?_
                refine s_getfield 12 0 80 rfl rfl fl_Mod_7 rfl rfl ?_
                refine s_iload 82 rfl rfl rfl ?_
                refine s_iaload (k) 83 rfl rfl h_text rfl (by omega) (by decide) ?_
                refine s_iastore (24 * pt + k) 84 rfl rfl rfl rfl (by omega) (by decide) ?_
                -- Mod_pattern 84: end
                rw [pu_s]
                unfold iP at nx ⊢
                rw [ax_pp]
                refine s_inc4 _ 87 rfl rfl rfl rfl ?_
                refine s_goto 56 rfl (by decide) ?_
                -- Mod_pattern 56: end
                rw [inc1]
                exact nx
          have h0 := loop n 0 (by omega)
          rw [pu_0] at h0
          unfold iP at h0
          rw [ax_id (M := md_m M (nI 0) bl ln dr al ru pv si (nI pt) cm os gm tk pl bh va iw od) (a := 175) h_pattern] at h0
          exact h0
        · refine s_bipush (-4) 52 rfl rfl (by decide) ?_
          -- Mod_pattern 52: ireturn
          exact s_ireturn rfl .int rfl rfl (h3 i hi rfl hr (nn_eq (b := 8) c3))
      · refine s_bipush (-10) 38 rfl rfl (by decide) ?_
        refine s_iload_n 39 rfl rfl rfl ?_
        refine s_isub 40 rfl rfl ?_
        -- Mod_pattern 40: ireturn
        exact s_ireturn rfl .int rfl rfl (h2 i r hi rfl hr c2)
    · exact absurd c1 (by decide)
  · rw [bi_f (in_nle (n := 10) (by omega) c)]
    refine s_if_ne 31 28 rfl rfl (by decide) (fun c6 => ?_) (fun c6 => ?_)
    -- Mod_pattern 28: branch 31 28
    · exact absurd rfl c6
    · refine s_bipush (-2) 30 rfl rfl (by decide) ?_
      -- Mod_pattern 30: ireturn
      exact s_ireturn rfl .int rfl rfl (h1 c)
end FAULT
