/-! doFit: the reference -/
abbrev zP (M : ax_M) (a N : Nat) (f : Nat → Int32) : ax_M := ax_put M a (.inl (2, N, .inl f))
section MFIT
variable {g : ax_Y} {M : ax_M} {Q : Option Value → ax_M → Prop} {h : Nat} {nn bl ln dr al ru pv si pa cm os gm tk pl bh : Int32} {va : Int64} {iw od : Int32} {pt tz ps pz P X : Nat → Int32} {m0 n0 k f : Nat}
theorem m_Mod_patternAt {i : Nat} (h_this : oC M 143 12 (md_f nn bl ln dr al ru pv si pa cm os gm tk pl bh va iw od)) (h_pattern : iA M 175 192 pt) (h_patternSize : iA M 176 8 tz) (hk : k < 8) (hz : tz k = nI m0) (hm : m0 ≤ 24) (hP : ∀ j, j < m0 → pt (24 * k + j) = P j) (hP2 : ∀ j, m0 ≤ j → P j = 47) (hi : i < 65536) (hq : Q (some (.int (P i))) M) : ax_G g mt_Mod_patternAt h 0 0 0 [.ref 143, .int (nI k), .int (nI i)] [] M Q := by
  refine s_iload_n 1 rfl rfl rfl ?_
  refine s_aload_n 2 rfl rfl rfl ?_
  refine s_getfield 12 47 5 rfl rfl fl_Mod_107 h_this rfl ?_
  refine s_iload_n 6 rfl rfl rfl ?_
  refine s_iaload (k) 7 rfl rfl h_patternSize rfl (by omega) (by decide) ?_
  -- Mod_patternAt 7: end
  rw [hz]
  refine s_icmp_ge 24 10 rfl rfl (by decide) (fun c1 => ?_) (fun c1 => ?_)
  -- Mod_patternAt 10: branch 24 10
  · rw [hP2 i (nn_le c1)] at hq
    refine s_bipush 47 26 rfl rfl (by decide) ?_
    -- Mod_patternAt 26: ireturn
    exact s_ireturn rfl .int rfl rfl (hq)
  · have q := nn_nle c1
    rw [← hP i q] at hq
    refine s_aload_n 11 rfl rfl rfl ?_
    refine s_getfield 12 46 14 rfl rfl fl_Mod_104 h_this rfl ?_
    refine s_bipush 24 16 rfl rfl (by decide) ?_
    refine s_iload_n 17 rfl rfl rfl ?_
    refine s_imul 18 rfl rfl ?_
    -- Mod_patternAt 18: end
    rw [show (24 : Int32) * nI k = nI (24 * k) from pk_mul 24 k]
    refine s_iload_n 19 rfl rfl rfl ?_
    refine s_iadd 20 rfl rfl ?_
    -- Mod_patternAt 20: end
    rw [nI_add]
    refine s_iaload (24 * k + i) 21 rfl rfl h_pattern rfl (by omega) (by decide) ?_
    refine s_goto 26 rfl (by decide) ?_
    -- Mod_patternAt 26: ireturn
    exact s_ireturn rfl .int rfl rfl (hq)
theorem m_Mod_pathAt {j : Nat} (h_this : oC M 143 12 (md_f nn bl ln dr al ru pv si pa cm os gm tk pl bh va iw od)) (h_paths : iA M 173 144 ps) (h_pathSize : iA M 174 6 pz) (hf : f < 6) (hz : pz f = nI n0) (hm : n0 ≤ 24) (hX : ∀ j, j < n0 → ps (24 * f + j) = X j) (hX2 : ∀ j, n0 ≤ j → X j = 47) (hj : j < 65536) (hq : Q (some (.int (X j))) M) : ax_G g mt_Mod_pathAt h 0 0 0 [.ref 143, .int (nI f), .int (nI j)] [] M Q := by
  refine s_iload_n 1 rfl rfl rfl ?_
  refine s_aload_n 2 rfl rfl rfl ?_
  refine s_getfield 12 44 5 rfl rfl fl_Mod_101 h_this rfl ?_
  refine s_iload_n 6 rfl rfl rfl ?_
  refine s_iaload (f) 7 rfl rfl h_pathSize rfl (by omega) (by decide) ?_
  -- Mod_pathAt 7: end
  rw [hz]
  refine s_icmp_ge 24 10 rfl rfl (by decide) (fun c1 => ?_) (fun c1 => ?_)
  -- Mod_pathAt 10: branch 24 10
  · rw [hX2 j (nn_le c1)] at hq
    refine s_bipush 47 26 rfl rfl (by decide) ?_
    -- Mod_pathAt 26: ireturn
    exact s_ireturn rfl .int rfl rfl (hq)
  · have q := nn_nle c1
    rw [← hX j q] at hq
    refine s_aload_n 11 rfl rfl rfl ?_
    refine s_getfield 12 43 14 rfl rfl fl_Mod_98 h_this rfl ?_
    refine s_bipush 24 16 rfl rfl (by decide) ?_
    refine s_iload_n 17 rfl rfl rfl ?_
    refine s_imul 18 rfl rfl ?_
    -- Mod_pathAt 18: end
    rw [show (24 : Int32) * nI f = nI (24 * f) from pk_mul 24 f]
    refine s_iload_n 19 rfl rfl rfl ?_
    refine s_iadd 20 rfl rfl ?_
    -- Mod_pathAt 20: end
    rw [nI_add]
    refine s_iaload (24 * f + j) 21 rfl rfl h_paths rfl (by omega) (by decide) ?_
    refine s_goto 26 rfl (by decide) ?_
    -- Mod_pathAt 26: ireturn
    exact s_ireturn rfl .int rfl rfl (hq)
theorem m_Mod_isAny {i : Nat} (h_this : oC M 143 12 (md_f nn bl ln dr al ru pv si pa cm os gm tk pl bh va iw od)) (h_pattern : iA M 175 192 pt) (h_patternSize : iA M 176 8 tz) (hk : k < 8) (hz : tz k = nI m0) (hm : m0 ≤ 24) (hP : ∀ j, j < m0 → pt (24 * k + j) = P j) (hP2 : ∀ j, m0 ≤ j → P j = 47) (hi : i < 60000) (hq : ∀ r : Bool, (r = true ↔ any_ P m0 i) → Q (some (.int (if r then 1 else 0))) M) : ax_G g mt_Mod_isAny (h + 1) 0 0 0 [.ref 143, .int (nI k), .int (nI i)] [] M Q := by
  unfold any_ at hq
  have no : ¬ ((i = 0 ∨ P (i - 1) = 47) ∧ i + 1 < m0 ∧ P i = 42 ∧ P (i + 1) = 42) → ax_G g mt_Mod_isAny (h + 1) 0 0 57 [.ref 143, .int (nI k), .int (nI i)] [] M Q := by
    intro q
    refine s_iconst 0 58 rfl rfl (by decide) ?_
    -- Mod_isAny 58: ireturn
    exact s_ireturn rfl .boolean rfl rfl (hq false ⟨fun q => (by cases q), fun w => absurd w q⟩)
  have rest : (i = 0 ∨ P (i - 1) = 47) → ax_G g mt_Mod_isAny (h + 1) 0 0 17 [.ref 143, .int (nI k), .int (nI i)] [] M Q := by
    intro q0
    refine s_iload_n 18 rfl rfl rfl ?_
    refine s_iconst 1 19 rfl rfl (by decide) ?_
    refine s_iadd 20 rfl rfl ?_
    -- Mod_isAny 20: end
    rw [nI_1]
    refine s_aload_n 21 rfl rfl rfl ?_
    refine s_getfield 12 47 24 rfl rfl fl_Mod_107 h_this rfl ?_
    refine s_iload_n 25 rfl rfl rfl ?_
    refine s_iaload (k) 26 rfl rfl h_patternSize rfl (by omega) (by decide) ?_
    -- Mod_isAny 26: end
    rw [hz]
    refine s_icmp_ge 57 29 rfl rfl (by decide) (fun c1 => ?_) (fun c1 => ?_)
    -- Mod_isAny 29: branch 57 29
    · exact no (fun q => absurd (nn_le c1) (by omega))
    · have c1 := nn_nle c1
      refine s_aload_n 30 rfl rfl rfl ?_
      refine s_iload_n 31 rfl rfl rfl ?_
      refine s_iload_n 32 rfl rfl rfl ?_
      refine c_callV2 h 35 rfl rfl mv_Mod_309 (by omega) (Nat.le_of_ble_eq_true rfl) (Nat.le_of_ble_eq_true rfl) h_this rfl rfl ?_
      -- Mod_isAny 35: call Mod_patternAt
      refine m_Mod_patternAt h_this h_pattern h_patternSize hk hz hm hP hP2 (by omega) ?_
      dsimp only [ax_rs]
      refine s_bipush 42 37 rfl rfl (by decide) ?_
      refine s_icmp_ne 57 40 rfl rfl (by decide) (fun c2 => ?_) (fun c2 => ?_)
      -- Mod_isAny 40: branch 57 40
      · exact no (fun q => c2 q.2.2.1)
      · refine s_aload_n 41 rfl rfl rfl ?_
        refine s_iload_n 42 rfl rfl rfl ?_
        refine s_iload_n 43 rfl rfl rfl ?_
        refine s_iconst 1 44 rfl rfl (by decide) ?_
        refine s_iadd 45 rfl rfl ?_
        -- Mod_isAny 45: end
        rw [nI_1]
        refine c_callV2 h 48 rfl rfl mv_Mod_309 (by omega) (Nat.le_of_ble_eq_true rfl) (Nat.le_of_ble_eq_true rfl) h_this rfl rfl ?_
        -- Mod_isAny 48: call Mod_patternAt
        refine m_Mod_patternAt h_this h_pattern h_patternSize hk hz hm hP hP2 (by omega) ?_
        dsimp only [ax_rs]
        refine s_bipush 42 50 rfl rfl (by decide) ?_
        refine s_icmp_ne 57 53 rfl rfl (by decide) (fun c3 => ?_) (fun c3 => ?_)
        -- Mod_isAny 53: branch 57 53
        · exact no (fun q => c3 q.2.2.2)
        · refine s_iconst 1 54 rfl rfl (by decide) ?_
          refine s_goto 58 rfl (by decide) ?_
          -- Mod_isAny 58: ireturn
          exact s_ireturn rfl .boolean rfl rfl (hq true ⟨fun _ => ⟨q0, c1, c2, c3⟩, fun _ => rfl⟩)
  refine s_iload_n 1 rfl rfl rfl ?_
  refine s_if_eq 17 4 rfl rfl (by decide) (fun c4 => ?_) (fun c4 => ?_)
  -- Mod_isAny 4: branch 17 4
  · exact rest (Or.inl (nn_eq (b := 0) c4))
  · have c4 : i ≠ 0 := fun q => c4 (by rw [q]; rfl)
    refine s_aload_n 5 rfl rfl rfl ?_
    refine s_iload_n 6 rfl rfl rfl ?_
    refine s_iload_n 7 rfl rfl rfl ?_
    refine s_iconst 1 8 rfl rfl (by decide) ?_
    refine s_isub 9 rfl rfl ?_
    -- Mod_isAny 9: end
    rw [show nI i = nI (i - 1 + 1) by rw [show i - 1 + 1 = i by omega], nI_pred]
    refine c_callV2 h 12 rfl rfl mv_Mod_309 (by omega) (Nat.le_of_ble_eq_true rfl) (Nat.le_of_ble_eq_true rfl) h_this rfl rfl ?_
    -- Mod_isAny 12: call Mod_patternAt
    refine m_Mod_patternAt h_this h_pattern h_patternSize hk hz hm hP hP2 (by omega) ?_
    dsimp only [ax_rs]
    rw [show i - 1 + 1 = i by omega]
    refine s_bipush 47 14 rfl rfl (by decide) ?_
    refine s_icmp_ne 57 17 rfl rfl (by decide) (fun c5 => ?_) (fun c5 => ?_)
    -- Mod_isAny 17: branch 57 17
    · exact no (fun q => q.1.elim c4 c5)
    · exact rest (Or.inr c5)
theorem m_Mod_isFit {i j n : Nat} {F : Nat → Int32} (h_this : oC M 143 12 (md_f nn bl ln dr al ru pv si pa cm os gm tk pl bh va iw od)) (h_pattern : iA M 175 192 pt) (h_patternSize : iA M 176 8 tz) (hk : k < 8) (hz : tz k = nI m0) (hm : m0 ≤ 24) (hP : ∀ j, j < m0 → pt (24 * k + j) = P j) (hP2 : ∀ j, m0 ≤ j → P j = 47) (h_paths : iA M 173 144 ps) (h_pathSize : iA M 174 6 pz) (hf : f < 6) (hzp : pz f = nI n0) (hmp : n0 ≤ 24) (hX : ∀ j, j < n0 → ps (24 * f + j) = X j) (hX2 : ∀ j, n0 ≤ j → X j = 47) (h_fits : zA M 178 676 F) (hn : n ≤ 25) (hi : i ≤ m0 + 1) (hj : j ≤ n) (hF : ∀ i' j', i' ≤ m0 + 1 → j' ≤ n → (i < i' ∨ (i = i' ∧ j < j')) → (F (26 * i' + j') ≠ 0 ↔ gF P X m0 n i' j')) (hq : ∀ r : Bool, (r = true ↔ gF P X m0 n i j) → Q (some (.int (if r then 1 else 0))) M) : ax_G g mt_Mod_isFit (h + 2) 0 0 0 [.ref 143, .int (nI k), .int (nI f), .int (nI i), .int (nI j), .int (nI (m0 + 1)), .int (nI n), .float 0] [] M Q := by
  refine s_iload_n 1 rfl rfl rfl ?_
  refine s_iload 3 rfl rfl rfl ?_
  refine s_icmp_ne 19 6 rfl rfl (by decide) (fun c1 => ?_) (fun c1 => ?_)
  -- Mod_isFit 6: branch 19 6
  · have c1 := nn_ne c1
    refine s_aload_n 20 rfl rfl rfl ?_
    refine s_iload_n 21 rfl rfl rfl ?_
    refine s_iload_n 22 rfl rfl rfl ?_
    refine c_callV2 (h+1) 25 rfl rfl mv_Mod_316 (by omega) (Nat.le_of_ble_eq_true rfl) (Nat.le_of_ble_eq_true rfl) h_this rfl rfl ?_
    -- Mod_isFit 25: call Mod_isAny
    refine m_Mod_isAny (h := h) h_this h_pattern h_patternSize hk hz hm hP hP2 (by omega) (fun r hr => ?_)
    dsimp only [ax_rs]
    refine s_if_eq 106 28 rfl rfl (by decide) (fun c2 => ?_) (fun c2 => ?_)
    -- Mod_isFit 28: branch 106 28
    · rw [i01] at c2
      have na : ¬ any_ P m0 i := fun q => by rw [hr.mpr q] at c2; cases c2
      refine s_aload_n 107 rfl rfl rfl ?_
      refine s_iload_n 108 rfl rfl rfl ?_
      refine s_iload_n 109 rfl rfl rfl ?_
      refine c_callV2 (h+1) 112 rfl rfl mv_Mod_309 (by omega) (Nat.le_of_ble_eq_true rfl) (Nat.le_of_ble_eq_true rfl) h_this rfl rfl ?_
      -- Mod_isFit 112: call Mod_patternAt
      refine m_Mod_patternAt h_this h_pattern h_patternSize hk hz hm hP hP2 (by omega) ?_
      dsimp only [ax_rs]
      refine s_ist7 114 rfl rfl rfl ?_
      refine s_iload 116 rfl rfl rfl ?_
      refine s_bipush 42 118 rfl rfl (by decide) ?_
      refine s_icmp_ne 180 121 rfl rfl (by decide) (fun c3 => ?_) (fun c3 => ?_)
      -- Mod_isFit 121: branch 180 121
      · rw [gF_c (by omega) na c3] at hq
        have no : ¬ (j < n ∧ X j = P i ∧ gF P X m0 n (i + 1) (j + 1)) → ax_G g mt_Mod_isFit (h + 2) 0 0 222 [.ref 143, .int (nI k), .int (nI f), .int (nI i), .int (nI j), .int (nI (m0 + 1)), .int (nI n), .int (P i)] [] M Q := by
          intro q
          refine s_iconst 0 223 rfl rfl (by decide) ?_
          -- Mod_isFit 223: ireturn
          exact s_ireturn rfl .boolean rfl rfl (hq false ⟨fun q => (by cases q), fun w => absurd w q⟩)
        refine s_iload 182 rfl rfl rfl ?_
        refine s_iload 184 rfl rfl rfl ?_
        refine s_icmp_ge 222 187 rfl rfl (by decide) (fun c4 => ?_) (fun c4 => ?_)
        -- Mod_isFit 187: branch 222 187
        · exact no (fun q => absurd (nn_le c4) (by omega))
        · have c4 := nn_nle c4
          refine s_aload_n 188 rfl rfl rfl ?_
          refine s_iload_n 189 rfl rfl rfl ?_
          refine s_iload 191 rfl rfl rfl ?_
          refine c_callV2 (h+1) 194 rfl rfl mv_Mod_319 (by omega) (Nat.le_of_ble_eq_true rfl) (Nat.le_of_ble_eq_true rfl) h_this rfl rfl ?_
          -- Mod_isFit 194: call Mod_pathAt
          refine m_Mod_pathAt h_this h_paths h_pathSize hf hzp hmp hX hX2 (by omega) ?_
          dsimp only [ax_rs]
          refine s_iload 196 rfl rfl rfl ?_
          refine s_icmp_ne 222 199 rfl rfl (by decide) (fun c5 => ?_) (fun c5 => ?_)
          -- Mod_isFit 199: branch 222 199
          · exact no (fun q => c5 q.2.1)
          · have e := hF (i + 1) (j + 1) (by omega) (by omega) (Or.inl (by omega))
            refine s_aload_n 200 rfl rfl rfl ?_
            refine s_getfield 12 49 203 rfl rfl fl_Mod_113 h_this rfl ?_
            refine s_bipush 26 205 rfl rfl (by decide) ?_
            refine s_iload_n 206 rfl rfl rfl ?_
            refine s_iconst 1 207 rfl rfl (by decide) ?_
            refine s_iadd 208 rfl rfl ?_
            -- Mod_isFit 208: end
            rw [nI_1]
            refine s_imul 209 rfl rfl ?_
            -- Mod_isFit 209: end
            rw [show (26 : Int32) * nI (i + 1) = nI (26 * (i + 1)) from pk_mul 26 (i + 1)]
            refine s_iload 211 rfl rfl rfl ?_
            refine s_iadd 212 rfl rfl ?_
            -- Mod_isFit 212: end
            rw [nI_add]
            refine s_iconst 1 213 rfl rfl (by decide) ?_
            refine s_iadd 214 rfl rfl ?_
            -- Mod_isFit 214: end
            rw [nI_1]
            refine s_zaload (26 * (i + 1) + (j + 1)) 215 rfl rfl h_fits rfl (by omega) (by decide) ?_
            refine s_if_eq 222 218 rfl rfl (by decide) (fun c6 => ?_) (fun c6 => ?_)
            -- Mod_isFit 218: branch 222 218
            · exact no (fun q => e.mpr q.2.2 c6)
            · refine s_iconst 1 219 rfl rfl (by decide) ?_
              refine s_goto 223 rfl (by decide) ?_
              -- Mod_isFit 223: ireturn
              exact s_ireturn rfl .boolean rfl rfl (hq true ⟨fun _ => ⟨c4, c5, e.mp c6⟩, fun _ => rfl⟩)
      · rw [gF_s (by omega) na c3] at hq
        rw [c3]
        have no : ¬ (gF P X m0 n (i + 1) j ∨ (j < n ∧ X j ≠ 47 ∧ gF P X m0 n i (j + 1))) → ax_G g mt_Mod_isFit (h + 2) 0 0 178 [.ref 143, .int (nI k), .int (nI f), .int (nI i), .int (nI j), .int (nI (m0 + 1)), .int (nI n), .int 42] [] M Q := by
          intro q
          refine s_iconst 0 179 rfl rfl (by decide) ?_
          -- Mod_isFit 179: ireturn
          exact s_ireturn rfl .boolean rfl rfl (hq false ⟨fun q => (by cases q), fun w => absurd w q⟩)
        have e := hF (i + 1) j (by omega) (by omega) (Or.inl (by omega))
        refine s_aload_n 122 rfl rfl rfl ?_
        refine s_getfield 12 49 125 rfl rfl fl_Mod_113 h_this rfl ?_
        refine s_bipush 26 127 rfl rfl (by decide) ?_
        refine s_iload_n 128 rfl rfl rfl ?_
        refine s_iconst 1 129 rfl rfl (by decide) ?_
        refine s_iadd 130 rfl rfl ?_
        -- Mod_isFit 130: end
        rw [nI_1]
        refine s_imul 131 rfl rfl ?_
        -- Mod_isFit 131: end
        rw [show (26 : Int32) * nI (i + 1) = nI (26 * (i + 1)) from pk_mul 26 (i + 1)]
        refine s_iload 133 rfl rfl rfl ?_
        refine s_iadd 134 rfl rfl ?_
        -- Mod_isFit 134: end
        rw [nI_add]
        refine s_zaload (26 * (i + 1) + j) 135 rfl rfl h_fits rfl (by omega) (by decide) ?_
        refine s_if_ne 174 138 rfl rfl (by decide) (fun c7 => ?_) (fun c7 => ?_)
        -- Mod_isFit 138: branch 174 138
        · refine s_iconst 1 175 rfl rfl (by decide) ?_
          refine s_goto 179 rfl (by decide) ?_
          -- Mod_isFit 179: ireturn
          exact s_ireturn rfl .boolean rfl rfl (hq true ⟨fun _ => Or.inl (e.mp c7), fun _ => rfl⟩)
        · refine s_iload 140 rfl rfl rfl ?_
          refine s_iload 142 rfl rfl rfl ?_
          refine s_icmp_ge 178 145 rfl rfl (by decide) (fun c8 => ?_) (fun c8 => ?_)
          -- Mod_isFit 145: branch 178 145
          · exact no (fun q => q.elim (fun q => e.mpr q c7) (fun q => absurd (nn_le c8) (by omega)))
          · have c8 := nn_nle c8
            refine s_aload_n 146 rfl rfl rfl ?_
            refine s_iload_n 147 rfl rfl rfl ?_
            refine s_iload 149 rfl rfl rfl ?_
            refine c_callV2 (h+1) 152 rfl rfl mv_Mod_319 (by omega) (Nat.le_of_ble_eq_true rfl) (Nat.le_of_ble_eq_true rfl) h_this rfl rfl ?_
            -- Mod_isFit 152: call Mod_pathAt
            refine m_Mod_pathAt h_this h_paths h_pathSize hf hzp hmp hX hX2 (by omega) ?_
            dsimp only [ax_rs]
            refine s_bipush 47 154 rfl rfl (by decide) ?_
            refine s_icmp_eq 178 157 rfl rfl (by decide) (fun c9 => ?_) (fun c9 => ?_)
            -- Mod_isFit 157: branch 178 157
            · exact no (fun q => q.elim (fun q => e.mpr q c7) (fun q => q.2.1 c9))
            · have e2 := hF i (j + 1) (by omega) (by omega) (Or.inr ⟨rfl, by omega⟩)
              refine s_aload_n 158 rfl rfl rfl ?_
              refine s_getfield 12 49 161 rfl rfl fl_Mod_113 h_this rfl ?_
              refine s_bipush 26 163 rfl rfl (by decide) ?_
              refine s_iload_n 164 rfl rfl rfl ?_
              refine s_imul 165 rfl rfl ?_
              -- Mod_isFit 165: end
              rw [show (26 : Int32) * nI i = nI (26 * i) from pk_mul 26 i]
              refine s_iload 167 rfl rfl rfl ?_
              refine s_iadd 168 rfl rfl ?_
              -- Mod_isFit 168: end
              rw [nI_add]
              refine s_iconst 1 169 rfl rfl (by decide) ?_
              refine s_iadd 170 rfl rfl ?_
              -- Mod_isFit 170: end
              rw [nI_1]
              refine s_zaload (26 * i + (j + 1)) 171 rfl rfl h_fits rfl (by omega) (by decide) ?_
              refine s_if_eq 178 174 rfl rfl (by decide) (fun c10 => ?_) (fun c10 => ?_)
              -- Mod_isFit 174: branch 178 174
              · exact no (fun q => q.elim (fun q => e.mpr q c7) (fun q => e2.mpr q.2.2 c10))
              · refine s_iconst 1 175 rfl rfl (by decide) ?_
                refine s_goto 179 rfl (by decide) ?_
                -- Mod_isFit 179: ireturn
                exact s_ireturn rfl .boolean rfl rfl (hq true ⟨fun _ => Or.inr ⟨c8, c9, e2.mp c10⟩, fun _ => rfl⟩)
    · rw [i01] at c2
      have an := hr.mp (by simpa using c2)
      have an2 := an.2.1
      rw [gF_a (by omega) an] at hq
      have e := hF (i + 3) j (by omega) (by omega) (Or.inl (by omega))
      refine s_aload_n 29 rfl rfl rfl ?_
      refine s_getfield 12 49 32 rfl rfl fl_Mod_113 h_this rfl ?_
      refine s_bipush 26 34 rfl rfl (by decide) ?_
      refine s_iload_n 35 rfl rfl rfl ?_
      refine s_iconst 3 36 rfl rfl (by decide) ?_
      refine s_iadd 37 rfl rfl ?_
      -- Mod_isFit 37: end
      rw [show nI i + 3 = nI (i + 3) from nI_add i 3]
      refine s_imul 38 rfl rfl ?_
      -- Mod_isFit 38: end
      rw [show (26 : Int32) * nI (i + 3) = nI (26 * (i + 3)) from pk_mul 26 (i + 3)]
      refine s_iload 40 rfl rfl rfl ?_
      refine s_iadd 41 rfl rfl ?_
      -- Mod_isFit 41: end
      rw [nI_add]
      refine s_zaload (26 * (i + 3) + j) 42 rfl rfl h_fits rfl (by omega) (by decide) ?_
      refine s_if_eq 47 45 rfl rfl (by decide) (fun c11 => ?_) (fun c11 => ?_)
      -- Mod_isFit 45: branch 47 45
      · refine s_iload 49 rfl rfl rfl ?_
        refine s_ist7 51 rfl rfl rfl ?_
        -- Mod_isFit 51: end
        have loop : ∀ (d t : Nat), t + d = n → j ≤ t → (∀ c, j ≤ c → c < t → X c ≠ 47) → ax_G g mt_Mod_isFit (h + 2) 0 0 51 [.ref 143, .int (nI k), .int (nI f), .int (nI i), .int (nI j), .int (nI (m0 + 1)), .int (nI n), .int (nI t)] [] M Q := by
          intro d
          induction d with
          | zero =>
            intro t ht hjt hc
            obtain rfl : t = n := by omega
            have no : ¬ (gF P X m0 t (i + 3) j ∨ ∃ u, (j ≤ u ∧ u < t) ∧ X u = 47 ∧ (∀ c, j ≤ c → c < u → X c ≠ 47) ∧ gF P X m0 t i (u + 1)) := fun q => q.elim (fun q => e.mpr q c11) (fun ⟨u, q1, q2, q3⟩ => hc u q1.1 q1.2 q2)
            refine s_iload 53 rfl rfl rfl ?_
            refine s_iload 55 rfl rfl rfl ?_
            refine s_icmp_ge 76 58 rfl rfl (by decide) (fun c12 => ?_) (fun c12 => ?_)
            -- Mod_isFit 58: branch 76 58
            · refine s_iload 78 rfl rfl rfl ?_
              refine s_iload 80 rfl rfl rfl ?_
              refine s_icmp_ge 104 83 rfl rfl (by decide) (fun c13 => ?_) (fun c13 => ?_)
              -- Mod_isFit 83: branch 104 83
              · refine s_iconst 0 105 rfl rfl (by decide) ?_
                -- Mod_isFit 105: ireturn
                exact s_ireturn rfl .boolean rfl rfl (hq false ⟨fun q => (by cases q), fun w => absurd w no⟩)
              · exact absurd (nn_nle c13) (by omega)
            · exact absurd (nn_nle c12) (by omega)
          | succ d ih =>
            intro t ht hjt hc
            refine s_iload 53 rfl rfl rfl ?_
            refine s_iload 55 rfl rfl rfl ?_
            refine s_icmp_ge 76 58 rfl rfl (by decide) (fun c14 => ?_) (fun c14 => ?_)
            -- Mod_isFit 58: branch 76 58
            · exact absurd (nn_le c14) (by omega)
            · refine s_aload_n 59 rfl rfl rfl ?_
              refine s_iload_n 60 rfl rfl rfl ?_
              refine s_iload 62 rfl rfl rfl ?_
              refine c_callV2 (h+1) 65 rfl rfl mv_Mod_319 (by omega) (Nat.le_of_ble_eq_true rfl) (Nat.le_of_ble_eq_true rfl) h_this rfl rfl ?_
              -- Mod_isFit 65: call Mod_pathAt
              refine m_Mod_pathAt h_this h_paths h_pathSize hf hzp hmp hX hX2 (by omega) ?_
              dsimp only [ax_rs]
              refine s_bipush 47 67 rfl rfl (by decide) ?_
              refine s_icmp_eq 76 70 rfl rfl (by decide) (fun c15 => ?_) (fun c15 => ?_)
              -- Mod_isFit 70: branch 76 70
              · have e2 := hF i (t + 1) (by omega) (by omega) (Or.inr ⟨rfl, by omega⟩)
                refine s_iload 78 rfl rfl rfl ?_
                refine s_iload 80 rfl rfl rfl ?_
                refine s_icmp_ge 104 83 rfl rfl (by decide) (fun c16 => ?_) (fun c16 => ?_)
                -- Mod_isFit 83: branch 104 83
                · exact absurd (nn_le c16) (by omega)
                · refine s_aload_n 84 rfl rfl rfl ?_
                  refine s_getfield 12 49 87 rfl rfl fl_Mod_113 h_this rfl ?_
                  refine s_bipush 26 89 rfl rfl (by decide) ?_
                  refine s_iload_n 90 rfl rfl rfl ?_
                  refine s_imul 91 rfl rfl ?_
                  -- Mod_isFit 91: end
                  rw [show (26 : Int32) * nI i = nI (26 * i) from pk_mul 26 i]
                  refine s_iload 93 rfl rfl rfl ?_
                  refine s_iadd 94 rfl rfl ?_
                  -- Mod_isFit 94: end
                  rw [nI_add]
                  refine s_iconst 1 95 rfl rfl (by decide) ?_
                  refine s_iadd 96 rfl rfl ?_
                  -- Mod_isFit 96: end
                  rw [nI_1]
                  refine s_zaload (26 * i + (t + 1)) 97 rfl rfl h_fits rfl (by omega) (by decide) ?_
                  refine s_if_eq 104 100 rfl rfl (by decide) (fun c17 => ?_) (fun c17 => ?_)
                  -- Mod_isFit 100: branch 104 100
                  · have no : ¬ (gF P X m0 n (i + 3) j ∨ ∃ u, (j ≤ u ∧ u < n) ∧ X u = 47 ∧ (∀ c, j ≤ c → c < u → X c ≠ 47) ∧ gF P X m0 n i (u + 1)) := fun q => q.elim (fun q => e.mpr q c11) (fun ⟨u, q1, q2, q3, q4⟩ => by
                      have eu : u = t := by
                        rcases Nat.lt_trichotomy u t with w | w | w
                        · exact absurd q2 (hc u q1.1 w)
                        · exact w
                        · exact absurd c15 (q3 t hjt w)
                      subst eu
                      exact e2.mpr q4 c17)
                    refine s_iconst 0 105 rfl rfl (by decide) ?_
                    -- Mod_isFit 105: ireturn
                    exact s_ireturn rfl .boolean rfl rfl (hq false ⟨fun q => (by cases q), fun w => absurd w no⟩)
                  · refine s_iconst 1 101 rfl rfl (by decide) ?_
                    refine s_goto 105 rfl (by decide) ?_
                    -- Mod_isFit 105: ireturn
                    exact s_ireturn rfl .boolean rfl rfl (hq true ⟨fun _ => Or.inr ⟨t, ⟨hjt, by omega⟩, c15, hc, e2.mp c17⟩, fun _ => rfl⟩)
              · refine s_inc7 _ 73 rfl rfl rfl rfl ?_
                refine s_goto 51 rfl (by decide) ?_
                -- Mod_isFit 51: end
                rw [inc1]
                refine ih (t + 1) (by omega) (by omega) (fun c h1 h2 => ?_)
                by_cases w : c = t
                · subst w; exact c15
                · exact hc c h1 (by omega)
        exact loop (n - j) j (by omega) (Nat.le_refl j) (fun c h1 h2 => by omega)
      · refine s_iconst 1 46 rfl rfl (by decide) ?_
        -- Mod_isFit 46: ireturn
        exact s_ireturn rfl .boolean rfl rfl (hq true ⟨fun _ => Or.inl (e.mp c11), fun _ => rfl⟩)
  · have c1 := nn_eq c1
    subst c1
    rw [gF_e (by omega)] at hq
    refine s_iload 8 rfl rfl rfl ?_
    refine s_iload 10 rfl rfl rfl ?_
    refine s_icmp_ne 17 13 rfl rfl (by decide) (fun c18 => ?_) (fun c18 => ?_)
    -- Mod_isFit 13: branch 17 13
    · refine s_iconst 0 18 rfl rfl (by decide) ?_
      -- Mod_isFit 18: ireturn
      exact s_ireturn rfl .boolean rfl rfl (hq false ⟨fun q => (by cases q), fun w => absurd (by rw [w]) c18⟩)
    · refine s_iconst 1 14 rfl rfl (by decide) ?_
      refine s_goto 18 rfl (by decide) ?_
      -- Mod_isFit 18: ireturn
      exact s_ireturn rfl .boolean rfl rfl (hq true ⟨fun _ => nn_eq c18, fun _ => rfl⟩)
theorem z01 (r : Bool) : (if r then 1 else 0 : Int32) &&& 1 = if r then 1 else 0 := by cases r <;> decide
theorem m_Mod_doFit {F0 : Nat → Int32} (h_this : oC M 143 12 (md_f nn bl ln dr al ru pv si pa cm os gm tk pl bh va iw od)) (h_pattern : iA M 175 192 pt) (h_patternSize : iA M 176 8 tz) (hk : k < 8) (hz : tz k = nI m0) (hm : m0 ≤ 24) (hP : ∀ j, j < m0 → pt (24 * k + j) = P j) (hP2 : ∀ j, m0 ≤ j → P j = 47) (h_paths : iA M 173 144 ps) (h_pathSize : iA M 174 6 pz) (hf : f < 6) (hzp : pz f = nI n0) (hmp : n0 ≤ 24) (hX : ∀ j, j < n0 → ps (24 * f + j) = X j) (hX2 : ∀ j, n0 ≤ j → X j = 47) (h_fits : zA M 178 676 F0) (hq : ∀ (r : Int32) (F : Nat → Int32), (r ≠ 0 ↔ gF P X m0 (if n0 = 0 then 0 else n0 + 1) 0 0) → narrow .boolean (.int r) = .int r → Q (some (.int r)) (zP M 178 676 F)) : ax_G g mt_Mod_doFit (h + 3) 0 0 0 [.ref 143, .int (nI k), .int (nI f), .float 0, .float 0, .float 0, .float 0] [] M Q := by
  generalize hN : (if n0 = 0 then 0 else n0 + 1) = n at hq
  have hn : n ≤ 25 := by rw [← hN]; split <;> omega
  have main : ax_G g mt_Mod_doFit (h + 3) 0 0 30 [.ref 143, .int (nI k), .int (nI f), .int (nI (m0 + 1)), .float 0, .float 0, .float 0] [.int (nI n)] M Q := by
    refine s_ist4 32 rfl rfl rfl ?_
    refine s_iload_n 33 rfl rfl rfl ?_
    refine s_ist5 35 rfl rfl rfl ?_
    -- Mod_doFit 35: end
    have outer : ∀ (c : Nat) (F : Nat → Int32) (z6 : Value), z6.category = 1 → c ≤ m0 + 2 → (∀ i j, c ≤ i → i ≤ m0 + 1 → j ≤ n → (F (26 * i + j) = 0 ∨ F (26 * i + j) = 1) ∧ (F (26 * i + j) ≠ 0 ↔ gF P X m0 n i j)) → ax_G g mt_Mod_doFit (h + 3) 0 0 35 [.ref 143, .int (nI k), .int (nI f), .int (nI (m0 + 1)), .int (nI n), .int (nI c - 1), z6] [] (zP M 178 676 F) Q := by
      intro c
      induction c with
      | zero =>
        intro F z6 _ _ hF
        obtain ⟨e1, e2⟩ := hF 0 0 (by omega) (by omega) (by omega)
        refine s_iload 37 rfl rfl rfl ?_
        refine s_if_lt 87 40 rfl rfl (by decide) (fun c1 => ?_) (fun c1 => ?_)
        -- Mod_doFit 40: branch 87 40
        · refine s_aload_n 88 rfl rfl rfl ?_
          refine s_getfield 12 49 91 rfl rfl fl_Mod_113 h_this rfl ?_
          refine s_iconst 0 92 rfl rfl (by decide) ?_
          refine s_zaload (0) 93 rfl rfl rfl rfl (by omega) (by decide) ?_
          -- Mod_doFit 93: ireturn
          have nr : narrow .boolean (.int (F 0)) = .int (F 0) := by
            rcases e1 with e1 | e1 <;> rw [show F 0 = F (26 * 0 + 0) from rfl, e1] <;> rfl
          exact s_ireturn rfl .boolean rfl nr (hq (F 0) F e2 nr)
        · exact absurd (by decide) c1
      | succ i ih =>
        intro F z6 _ hc hF
        rw [nI_pred]
        refine s_iload 37 rfl rfl rfl ?_
        refine s_if_lt 87 40 rfl rfl (by decide) (fun c2 => ?_) (fun c2 => ?_)
        -- Mod_doFit 40: branch 87 40
        · exact absurd c2 (nI_pos (by omega))
        · refine s_iload 42 rfl rfl rfl ?_
          refine s_ist6 44 rfl rfl rfl ?_
          -- Mod_doFit 44: end
          have inner : ∀ (c : Nat) (F : Nat → Int32), c ≤ n + 1 → (∀ i' j, i' ≤ m0 + 1 → j ≤ n → (i < i' ∨ (i = i' ∧ c ≤ j)) → (F (26 * i' + j) = 0 ∨ F (26 * i' + j) = 1) ∧ (F (26 * i' + j) ≠ 0 ↔ gF P X m0 n i' j)) → ax_G g mt_Mod_doFit (h + 3) 0 0 44 [.ref 143, .int (nI k), .int (nI f), .int (nI (m0 + 1)), .int (nI n), .int (nI i), .int (nI c - 1)] [] (zP M 178 676 F) Q := by
            intro c
            induction c with
            | zero =>
              intro F _ hF
              refine s_iload 46 rfl rfl rfl ?_
              refine s_if_lt 81 49 rfl rfl (by decide) (fun c3 => ?_) (fun c3 => ?_)
              -- Mod_doFit 49: branch 81 49
              · refine s_inc5 _ 84 rfl rfl rfl rfl ?_
                refine s_goto 35 rfl (by decide) ?_
                -- Mod_doFit 35: end
                rw [dec1]
                exact ih F _ rfl (by omega) (fun i' j h1 h2 h3 => hF i' j h2 h3 (by omega))
              · exact absurd (by decide) c3
            | succ j ih2 =>
              intro F hc2 hF
              rw [nI_pred]
              refine s_iload 46 rfl rfl rfl ?_
              refine s_if_lt 81 49 rfl rfl (by decide) (fun c4 => ?_) (fun c4 => ?_)
              -- Mod_doFit 49: branch 81 49
              · exact absurd c4 (nI_pos (by omega))
              · refine s_aload_n 50 rfl rfl rfl ?_
                refine s_getfield 12 49 53 rfl rfl fl_Mod_113 h_this rfl ?_
                refine s_bipush 26 55 rfl rfl (by decide) ?_
                refine s_iload 57 rfl rfl rfl ?_
                refine s_imul 58 rfl rfl ?_
                -- Mod_doFit 58: end
                rw [show (26 : Int32) * nI i = nI (26 * i) from pk_mul 26 i]
                refine s_iload 60 rfl rfl rfl ?_
                refine s_iadd 61 rfl rfl ?_
                -- Mod_doFit 61: end
                rw [nI_add]
                refine s_aload_n 62 rfl rfl rfl ?_
                refine s_iload_n 63 rfl rfl rfl ?_
                refine s_iload_n 64 rfl rfl rfl ?_
                refine s_iload 66 rfl rfl rfl ?_
                refine s_iload 68 rfl rfl rfl ?_
                refine s_iload_n 69 rfl rfl rfl ?_
                refine s_iload 71 rfl rfl rfl ?_
                refine c_callV6 (h+2) 74 rfl rfl mv_Mod_312 (by omega) (Nat.le_of_ble_eq_true rfl) (Nat.le_of_ble_eq_true rfl) h_this rfl rfl ?_
                -- Mod_doFit 74: call Mod_isFit
                refine m_Mod_isFit (h := h) (M := zP M 178 676 F) h_this h_pattern h_patternSize hk hz hm hP hP2 h_paths h_pathSize hf hzp hmp hX hX2 rfl hn (by omega) (by omega) (fun i' j' h1 h2 h3 => (hF i' j' h1 h2 (by omega)).2) (fun r hr => ?_)
                dsimp only [ax_rs]
                refine s_zastore (26 * i + j) 75 rfl rfl rfl rfl (by omega) (by decide) ?_
                refine s_inc6 _ 78 rfl rfl rfl rfl ?_
                refine s_goto 44 rfl (by decide) ?_
                -- Mod_doFit 44: end
                unfold zP
                rw [ax_pp, dec1, z01]
                refine ih2 _ (by omega) (fun i' j' h1 h2 h3 => ?_)
                unfold upd
                by_cases w : i' = i ∧ j' = j
                · obtain ⟨w1, w2⟩ := w
                  subst w1; subst w2
                  rw [if_pos rfl]
                  refine ⟨?_, ?_⟩
                  · cases r
                    · exact Or.inl rfl
                    · exact Or.inr rfl
                  · rw [← hr, Ne, i01]
                    simp
                · rw [if_neg (by omega)]
                  exact hF i' j' h1 h2 (by omega)
          have h9 := inner (n + 1) F (Nat.le_refl _) (fun i' j h1 h2 h3 => hF i' j (by omega) h1 h2)
          rw [nI_pred] at h9
          exact h9
    have h0 := outer (m0 + 2) F0 (.float 0) rfl (Nat.le_refl _) (fun i j h1 h2 => by omega)
    unfold zP at h0
    rw [ax_id h_fits, show m0 + 2 = m0 + 1 + 1 from rfl, nI_pred] at h0
    exact h0
  refine s_aload_n 1 rfl rfl rfl ?_
  refine s_getfield 12 47 4 rfl rfl fl_Mod_107 h_this rfl ?_
  refine s_iload_n 5 rfl rfl rfl ?_
  refine s_iaload (k) 6 rfl rfl h_patternSize rfl (by omega) (by decide) ?_
  -- Mod_doFit 6: end
  rw [hz]
  refine s_iconst 1 7 rfl rfl (by decide) ?_
  refine s_iadd 8 rfl rfl ?_
  -- Mod_doFit 8: end
  rw [nI_1]
  refine s_ist3 9 rfl rfl rfl ?_
  refine s_aload_n 10 rfl rfl rfl ?_
  refine s_getfield 12 44 13 rfl rfl fl_Mod_101 h_this rfl ?_
  refine s_iload_n 14 rfl rfl rfl ?_
  refine s_iaload (f) 15 rfl rfl h_pathSize rfl (by omega) (by decide) ?_
  -- Mod_doFit 15: end
  rw [hzp]
  refine s_if_ne 22 18 rfl rfl (by decide) (fun c5 => ?_) (fun c5 => ?_)
  -- Mod_doFit 18: branch 22 18
  · have c5 : n0 ≠ 0 := fun q => c5 (by rw [q]; rfl)
    rw [if_neg c5] at hN
    subst hN
    refine s_aload_n 23 rfl rfl rfl ?_
    refine s_getfield 12 44 26 rfl rfl fl_Mod_101 h_this rfl ?_
    refine s_iload_n 27 rfl rfl rfl ?_
    refine s_iaload (f) 28 rfl rfl h_pathSize rfl (by omega) (by decide) ?_
    -- Mod_doFit 28: end
    rw [hzp]
    refine s_iconst 1 29 rfl rfl (by decide) ?_
    refine s_iadd 30 rfl rfl ?_
    -- Mod_doFit 30: end
    rw [nI_1]
    exact main
  · have c5 := nn_eq (b := 0) c5
    rw [if_pos c5] at hN
    subst hN
    refine s_iconst 0 19 rfl rfl (by decide) ?_
    refine s_goto 30 rfl (by decide) ?_
    -- Mod_doFit 30: end
    exact main
end MFIT
