/-! the reference: holds, hasLine, silencedBy, isOpen, trendOf -/
theorem l_c1' (b : Bool) : ((if b then 0 else -1 : Int32) = 0) ↔ b = true := by cases b <;> decide
section KMS
variable {g : ax_Y} {M : ax_M} {Q : Option Value → ax_M → Prop} {h : Nat} {s : Sta} {n dr pa cm os gm tk pl bh : Int32} {va : Int64} {iw od : Int32}
theorem m_Mod_holds {k : Nat} (hK : KM M s n dr pa cm os gm tk pl bh va iw od) (hk : k < 26) (hq : Q (some (.int (bi (sUn s k = -1 ∨ nI (sBl s) - 1 ≤ sUn s k)))) M) : ax_G g mt_Mod_holds h 0 0 0 [.ref 143, .int (nI k)] [] M Q := by
  refine s_aload_n 1 rfl rfl rfl ?_
  refine s_getfield 12 31 4 rfl rfl fl_Mod_76 hK.this rfl ?_
  refine s_iload_n 5 rfl rfl rfl ?_
  refine s_iaload (k) 6 rfl rfl hK.until_ rfl (by omega) (by decide) ?_
  refine s_iconst (-1) 7 rfl rfl (by decide) ?_
  refine s_icmp_eq 25 10 rfl rfl (by decide) (fun c1 => ?_) (fun c1 => ?_)
  -- Mod_holds 10: branch 25 10
  · rw [bi_t (Or.inl c1)] at hq
    refine s_iconst 1 26 rfl rfl (by decide) ?_
    refine s_goto 30 rfl (by decide) ?_
    -- Mod_holds 30: ireturn
    exact s_ireturn rfl .boolean rfl rfl (hq)
  · refine s_aload_n 11 rfl rfl rfl ?_
    refine s_getfield 12 2 14 rfl rfl fl_Mod_152 hK.this rfl ?_
    refine s_iconst 1 15 rfl rfl (by decide) ?_
    refine s_isub 16 rfl rfl ?_
    refine s_aload_n 17 rfl rfl rfl ?_
    refine s_getfield 12 31 20 rfl rfl fl_Mod_76 hK.this rfl ?_
    refine s_iload_n 21 rfl rfl rfl ?_
    refine s_iaload (k) 22 rfl rfl hK.until_ rfl (by omega) (by decide) ?_
    refine s_icmp_gt 29 25 rfl rfl (by decide) (fun c2 => ?_) (fun c2 => ?_)
    -- Mod_holds 25: branch 29 25
    · rw [bi_f (fun q => q.elim c1 (fun z => absurd c2 (Int32.not_lt.mpr z)))] at hq
      refine s_iconst 0 30 rfl rfl (by decide) ?_
      -- Mod_holds 30: ireturn
      exact s_ireturn rfl .boolean rfl rfl (hq)
    · rw [bi_t (Or.inr (Int32.not_lt.mp c2))] at hq
      refine s_iconst 1 26 rfl rfl (by decide) ?_
      refine s_goto 30 rfl (by decide) ?_
      -- Mod_holds 30: ireturn
      exact s_ireturn rfl .boolean rfl rfl (hq)
theorem m_Mod_hasLine {k l : Nat} (hK : KM M s n dr pa cm os gm tk pl bh va iw od) (hk : k < sSi s) (hl : l < 40) (hq : Q (some (.int (bi (hl_ (sWh s k) (sFi s k) (sLs s k) l (sLf s l) = true)))) M) : ax_G g mt_Mod_hasLine h 0 0 0 [.ref 143, .int (nI k), .int (nI l)] [] M Q := by
  obtain ⟨b1, b2, b3, b4, b5⟩ := hK.bd
  have hw := hK.whc k hk
  unfold hl_ at hq
  refine s_aload_n 1 rfl rfl rfl ?_
  refine s_getfield 12 33 4 rfl rfl fl_Mod_82 hK.this rfl ?_
  refine s_iload_n 5 rfl rfl rfl ?_
  refine s_iaload (k) 6 rfl rfl hK.where_ rfl (by omega) (by decide) ?_
  refine s_iconst 2 7 rfl rfl (by decide) ?_
  refine s_icmp_eq 59 10 rfl rfl (by decide) (fun c1 => ?_) (fun c1 => ?_)
  -- Mod_hasLine 10: branch 59 10
  · rw [if_pos c1, bi_t rfl] at hq
    refine s_iconst 1 60 rfl rfl (by decide) ?_
    refine s_goto 64 rfl (by decide) ?_
    -- Mod_hasLine 64: ireturn
    exact s_ireturn rfl .boolean rfl rfl (hq)
  · rw [if_neg c1] at hq
    refine s_aload_n 11 rfl rfl rfl ?_
    refine s_getfield 12 33 14 rfl rfl fl_Mod_82 hK.this rfl ?_
    refine s_iload_n 15 rfl rfl rfl ?_
    refine s_iaload (k) 16 rfl rfl hK.where_ rfl (by omega) (by decide) ?_
    refine s_iconst 1 17 rfl rfl (by decide) ?_
    refine s_icmp_ne 35 20 rfl rfl (by decide) (fun c2 => ?_) (fun c2 => ?_)
    -- Mod_hasLine 20: branch 35 20
    · rw [if_neg c2] at hq
      refine s_aload_n 36 rfl rfl rfl ?_
      refine s_getfield 12 33 39 rfl rfl fl_Mod_82 hK.this rfl ?_
      refine s_iload_n 40 rfl rfl rfl ?_
      refine s_iaload (k) 41 rfl rfl hK.where_ rfl (by omega) (by decide) ?_
      refine s_if_ne 63 44 rfl rfl (by decide) (fun c3 => ?_) (fun c3 => ?_)
      -- Mod_hasLine 44: branch 63 44
      · exact absurd hw (by simp [c1, c2, c3])
      · refine s_aload_n 45 rfl rfl rfl ?_
        refine s_getfield 12 35 48 rfl rfl fl_Mod_88 hK.this rfl ?_
        refine s_iload_n 49 rfl rfl rfl ?_
        refine s_laload (k) 50 rfl rfl hK.silenceLines rfl (by omega) (by decide) ?_
        refine s_iload_n 51 rfl rfl rfl ?_
        refine s_lshr 52 rfl rfl ?_
        -- Mod_hasLine 52: end
        refine s_lconst 1 53 rfl rfl (by decide) ?_
        refine s_land 54 rfl rfl ?_
        rw [l_tst _ (by omega)]
        refine s_lconst 1 55 rfl rfl (by decide) ?_
        refine s_lcmp 56 rfl rfl ?_
        -- Mod_hasLine 56: end
        rw [l_c1]
        refine s_if_ne 63 59 rfl rfl (by decide) (fun c4 => ?_) (fun c4 => ?_)
        -- Mod_hasLine 59: branch 63 59
        · rw [l_c1'] at c4
          rw [bi_f c4] at hq
          refine s_iconst 0 64 rfl rfl (by decide) ?_
          -- Mod_hasLine 64: ireturn
          exact s_ireturn rfl .boolean rfl rfl (hq)
        · rw [l_c1'] at c4
          rw [bi_t c4] at hq
          refine s_iconst 1 60 rfl rfl (by decide) ?_
          refine s_goto 64 rfl (by decide) ?_
          -- Mod_hasLine 64: ireturn
          exact s_ireturn rfl .boolean rfl rfl (hq)
    · rw [if_pos c2] at hq
      refine s_aload_n 21 rfl rfl rfl ?_
      refine s_getfield 12 4 24 rfl rfl fl_Mod_13 hK.this rfl ?_
      refine s_iload_n 25 rfl rfl rfl ?_
      refine s_iaload (l) 26 rfl rfl hK.fileOf rfl (by omega) (by decide) ?_
      refine s_aload_n 27 rfl rfl rfl ?_
      refine s_getfield 12 34 30 rfl rfl fl_Mod_85 hK.this rfl ?_
      refine s_iload_n 31 rfl rfl rfl ?_
      refine s_iaload (k) 32 rfl rfl hK.silenceFile rfl (by omega) (by decide) ?_
      refine s_icmp_eq 59 35 rfl rfl (by decide) (fun c5 => ?_) (fun c5 => ?_)
      -- Mod_hasLine 35: branch 59 35
      · rw [bi_t (by simpa using c5)] at hq
        refine s_iconst 1 60 rfl rfl (by decide) ?_
        refine s_goto 64 rfl (by decide) ?_
        -- Mod_hasLine 64: ireturn
        exact s_ireturn rfl .boolean rfl rfl (hq)
      · rw [bi_f (by simpa using c5)] at hq
        refine s_aload_n 36 rfl rfl rfl ?_
        refine s_getfield 12 33 39 rfl rfl fl_Mod_82 hK.this rfl ?_
        refine s_iload_n 40 rfl rfl rfl ?_
        refine s_iaload (k) 41 rfl rfl hK.where_ rfl (by omega) (by decide) ?_
        refine s_if_ne 63 44 rfl rfl (by decide) (fun c6 => ?_) (fun c6 => ?_)
        -- Mod_hasLine 44: branch 63 44
        · refine s_iconst 0 64 rfl rfl (by decide) ?_
          -- Mod_hasLine 64: ireturn
          exact s_ireturn rfl .boolean rfl rfl (hq)
        · exact absurd c6 (by rw [c2]; decide)
theorem m_Mod_silencedBy {a : Nat} (hK : KM M s n dr pa cm os gm tk pl bh va iw od) (ha : a < sAl s) (hq : Q (some (.int (sv_ s a))) M) : ax_G g mt_Mod_silencedBy (h + 1) 0 0 0 [.ref 143, .int (nI a), .float 0] [] M Q := by
  obtain ⟨b1, b2, b3, b4, b5⟩ := hK.bd
  unfold sv_ at hq
  refine s_iconst 0 1 rfl rfl (by decide) ?_
  refine s_ist2 2 rfl rfl rfl ?_
  -- Mod_silencedBy 2: end
  have loop : ∀ (d i : Nat), i + d = sSi s → (sSt s a = 0 → ∀ j, j < i → sl_b s (sLi s a).toNatClampNeg (sKi s a) j = false) → ax_G g mt_Mod_silencedBy (h + 1) 0 0 2 [.ref 143, .int (nI a), .int (nI i)] [] M Q := by
    intro d
    induction d with
    | zero =>
      intro i hi hb
      obtain rfl : i = sSi s := by omega
      have hq : Q (some (.int (-1))) M := by
        by_cases z : sSt s a = 0
        · rw [if_pos z, ff_no (hb z)] at hq
          exact hq
        · rw [if_neg z] at hq
          exact hq
      refine s_iload_n 3 rfl rfl rfl ?_
      refine s_aload_n 4 rfl rfl rfl ?_
      refine s_getfield 12 30 7 rfl rfl fl_Mod_166 hK.this rfl ?_
      refine s_icmp_ge 74 10 rfl rfl (by decide) (fun c1 => ?_) (fun c1 => ?_)
      -- Mod_silencedBy 10: branch 74 10
      · refine s_iconst (-1) 75 rfl rfl (by decide) ?_
        -- Mod_silencedBy 75: ireturn
        exact s_ireturn rfl .int rfl rfl (hq)
      · exact absurd (nn_nle c1) (by omega)
    | succ d ih =>
      intro i hi hb
      refine s_iload_n 3 rfl rfl rfl ?_
      refine s_aload_n 4 rfl rfl rfl ?_
      refine s_getfield 12 30 7 rfl rfl fl_Mod_166 hK.this rfl ?_
      refine s_icmp_ge 74 10 rfl rfl (by decide) (fun c2 => ?_) (fun c2 => ?_)
      -- Mod_silencedBy 10: branch 74 10
      · exact absurd (nn_le c2) (by omega)
      · refine s_aload_n 11 rfl rfl rfl ?_
        refine s_getfield 12 21 14 rfl rfl fl_Mod_58 hK.this rfl ?_
        refine s_iload_n 15 rfl rfl rfl ?_
        refine s_iaload (a) 16 rfl rfl hK.state rfl (by omega) (by decide) ?_
        refine s_if_ne 74 19 rfl rfl (by decide) (fun c3 => ?_) (fun c3 => ?_)
        -- Mod_silencedBy 19: branch 74 19
        · rw [if_neg c3] at hq
          refine s_iconst (-1) 75 rfl rfl (by decide) ?_
          -- Mod_silencedBy 75: ireturn
          exact s_ireturn rfl .int rfl rfl (hq)
        · rw [if_pos c3] at hq
          obtain ⟨c, hc, e⟩ := hK.told a ha c3
          have hb := hb c3
          rw [e, nI_clamp (by omega)] at hq hb
          have nx : sl_b s c (sKi s a) i = false → ax_G g mt_Mod_silencedBy (h + 1) 0 0 2 [.ref 143, .int (nI a), .int (nI (i + 1))] [] M Q := fun q => ih (i + 1) (by omega) (fun _ j hj => by
            rw [e, nI_clamp (by omega)]
            rcases Nat.lt_or_ge j i with z | z
            · exact hb j z
            · obtain rfl : j = i := by omega
              exact q)
          refine s_aload_n 20 rfl rfl rfl ?_
          refine s_iload_n 21 rfl rfl rfl ?_
          refine c_callV1 h 24 rfl rfl mv_Mod_219 (by omega) (Nat.le_of_ble_eq_true rfl) (Nat.le_of_ble_eq_true rfl) hK.this rfl rfl ?_
          -- Mod_silencedBy 24: call Mod_holds
          refine m_Mod_holds hK (by omega) ?_
          dsimp only [ax_rs]
          refine s_if_eq 68 27 rfl rfl (by decide) (fun c4 => ?_) (fun c4 => ?_)
          -- Mod_silencedBy 27: branch 68 27
          · rw [bi_0] at c4
            refine s_inc2 _ 71 rfl rfl rfl rfl ?_
            refine s_goto 2 rfl (by decide) ?_
            -- Mod_silencedBy 2: end
            rw [inc1]
            exact nx (by unfold sl_b; rw [decide_eq_false c4]; rfl)
          · rw [bi_0, Classical.not_not] at c4
            refine s_aload_n 28 rfl rfl rfl ?_
            refine s_iload_n 29 rfl rfl rfl ?_
            refine s_aload_n 30 rfl rfl rfl ?_
            refine s_getfield 12 16 33 rfl rfl fl_Mod_43 hK.this rfl ?_
            refine s_iload_n 34 rfl rfl rfl ?_
            refine s_iaload (a) 35 rfl rfl hK.lineOf rfl (by omega) (by decide) ?_
            -- Mod_silencedBy 35: end
            rw [e]
            refine c_callV2 h 38 rfl rfl mv_Mod_222 (by omega) (Nat.le_of_ble_eq_true rfl) (Nat.le_of_ble_eq_true rfl) hK.this rfl rfl ?_
            -- Mod_silencedBy 38: call Mod_hasLine
            refine m_Mod_hasLine hK (by omega) (by omega) ?_
            dsimp only [ax_rs]
            refine s_if_eq 68 41 rfl rfl (by decide) (fun c5 => ?_) (fun c5 => ?_)
            -- Mod_silencedBy 41: branch 68 41
            · rw [bi_0] at c5
              refine s_inc2 _ 71 rfl rfl rfl rfl ?_
              refine s_goto 2 rfl (by decide) ?_
              -- Mod_silencedBy 2: end
              rw [inc1]
              exact nx (by unfold sl_b; rw [Bool.eq_false_iff.mpr c5]; simp)
            · rw [bi_0, Classical.not_not] at c5
              refine s_aload_n 42 rfl rfl rfl ?_
              refine s_getfield 12 32 45 rfl rfl fl_Mod_79 hK.this rfl ?_
              refine s_iload_n 46 rfl rfl rfl ?_
              refine s_iaload (i) 47 rfl rfl hK.silenceKind rfl (by omega) (by decide) ?_
              refine s_iconst (-1) 48 rfl rfl (by decide) ?_
              refine s_icmp_eq 66 51 rfl rfl (by decide) (fun c6 => ?_) (fun c6 => ?_)
              -- Mod_silencedBy 51: branch 66 51
              · rw [ff_at (by unfold sl_b; rw [decide_eq_true c4, c5, decide_eq_true (Or.inl c6)]; rfl) hb (by omega) (by omega)] at hq
                refine s_iload_n 67 rfl rfl rfl ?_
                -- Mod_silencedBy 67: ireturn
                exact s_ireturn rfl .int rfl rfl (hq)
              · refine s_aload_n 52 rfl rfl rfl ?_
                refine s_getfield 12 32 55 rfl rfl fl_Mod_79 hK.this rfl ?_
                refine s_iload_n 56 rfl rfl rfl ?_
                refine s_iaload (i) 57 rfl rfl hK.silenceKind rfl (by omega) (by decide) ?_
                refine s_aload_n 58 rfl rfl rfl ?_
                refine s_getfield 12 17 61 rfl rfl fl_Mod_46 hK.this rfl ?_
                refine s_iload_n 62 rfl rfl rfl ?_
                refine s_iaload (a) 63 rfl rfl hK.kindOf rfl (by omega) (by decide) ?_
                refine s_icmp_ne 68 66 rfl rfl (by decide) (fun c7 => ?_) (fun c7 => ?_)
                -- Mod_silencedBy 66: branch 68 66
                · refine s_inc2 _ 71 rfl rfl rfl rfl ?_
                  refine s_goto 2 rfl (by decide) ?_
                  -- Mod_silencedBy 2: end
                  rw [inc1]
                  exact nx (by unfold sl_b; rw [decide_eq_false (p := sKd s i = -1 ∨ sKd s i = sKi s a) (fun q => q.elim c6 c7)]; simp)
                · rw [ff_at (by unfold sl_b; rw [decide_eq_true c4, c5, decide_eq_true (Or.inr c7)]; rfl) hb (by omega) (by omega)] at hq
                  refine s_iload_n 67 rfl rfl rfl ?_
                  -- Mod_silencedBy 67: ireturn
                  exact s_ireturn rfl .int rfl rfl (hq)
  exact loop (sSi s) 0 (by omega) (fun _ j hj => by omega)
theorem m_Mod_isOpen {a : Nat} (hK : KM M s n dr pa cm os gm tk pl bh va iw od) (ha : a < sAl s) (hq : Q (some (.int (bi (be_ s 3 a = true)))) M) : ax_G g mt_Mod_isOpen (h + 2) 0 0 0 [.ref 143, .int (nI a)] [] M Q := by
  obtain ⟨b1, b2, b3, b4, b5⟩ := hK.bd
  unfold be_ at hq
  simp only [show ¬ (3 = 0) by decide, show ¬ (3 = 1) by decide, show ¬ (3 = 2) by decide, if_false] at hq
  refine s_aload_n 1 rfl rfl rfl ?_
  refine s_getfield 12 21 4 rfl rfl fl_Mod_58 hK.this rfl ?_
  refine s_iload_n 5 rfl rfl rfl ?_
  refine s_iaload (a) 6 rfl rfl hK.state rfl (by omega) (by decide) ?_
  refine s_if_ne 38 9 rfl rfl (by decide) (fun c1 => ?_) (fun c1 => ?_)
  -- Mod_isOpen 9: branch 38 9
  · rw [bi_f (by simp [c1])] at hq
    refine s_iconst 0 39 rfl rfl (by decide) ?_
    -- Mod_isOpen 39: ireturn
    exact s_ireturn rfl .boolean rfl rfl (hq)
  · refine s_aload_n 10 rfl rfl rfl ?_
    refine s_iload_n 11 rfl rfl rfl ?_
    refine s_aload_n 12 rfl rfl rfl ?_
    refine s_aload_n 13 rfl rfl rfl ?_
    refine s_getfield 12 26 16 rfl rfl fl_Mod_182 hK.this rfl ?_
    refine c_callV1 (h+1) 19 rfl rfl mv_Mod_185 (by omega) (Nat.le_of_ble_eq_true rfl) (Nat.le_of_ble_eq_true rfl) hK.this rfl rfl ?_
    -- Mod_isOpen 19: call Mod_knownBy
    refine m_Mod_knownBy hK.this hK.ruleSet hK.ruleHead b2 ?_
    dsimp only [ax_rs]
    rw [hK.kn]
    refine c_callV2 (h+1) 22 rfl rfl mv_Mod_188 (by omega) (Nat.le_of_ble_eq_true rfl) (Nat.le_of_ble_eq_true rfl) hK.this rfl rfl ?_
    -- Mod_isOpen 22: call Mod_isClosed
    refine m_Mod_isClosed hK.this hK.wants (by omega) ?_
    dsimp only [ax_rs]
    refine s_if_ne 38 25 rfl rfl (by decide) (fun c2 => ?_) (fun c2 => ?_)
    -- Mod_isOpen 25: branch 38 25
    · rw [bi_0, Classical.not_not] at c2
      rw [bi_f (by simp [c2])] at hq
      refine s_iconst 0 39 rfl rfl (by decide) ?_
      -- Mod_isOpen 39: ireturn
      exact s_ireturn rfl .boolean rfl rfl (hq)
    · rw [bi_0] at c2
      refine s_aload_n 26 rfl rfl rfl ?_
      refine s_iload_n 27 rfl rfl rfl ?_
      refine c_callV1 (h+1) 30 rfl rfl mv_Mod_192 (by omega) (Nat.le_of_ble_eq_true rfl) (Nat.le_of_ble_eq_true rfl) hK.this rfl rfl ?_
      -- Mod_isOpen 30: call Mod_silencedBy
      refine m_Mod_silencedBy hK ha ?_
      dsimp only [ax_rs]
      refine s_iconst (-1) 31 rfl rfl (by decide) ?_
      refine s_icmp_ne 38 34 rfl rfl (by decide) (fun c3 => ?_) (fun c3 => ?_)
      -- Mod_isOpen 34: branch 38 34
      · rw [bi_f (by simp [c3])] at hq
        refine s_iconst 0 39 rfl rfl (by decide) ?_
        -- Mod_isOpen 39: ireturn
        exact s_ireturn rfl .boolean rfl rfl (hq)
      · rw [bi_t (by simp [c1, c2, c3])] at hq
        refine s_iconst 1 35 rfl rfl (by decide) ?_
        refine s_goto 39 rfl (by decide) ?_
        -- Mod_isOpen 39: ireturn
        exact s_ireturn rfl .boolean rfl rfl (hq)
theorem tr_st (s : Sta) (w a : Nat) (x : Bool) (hx : sSt s a = 0 → x = be_ s w a) : (x && decide (sSt s a = 0)) = be_ s w a := by
  by_cases z : sSt s a = 0
  · rw [hx z, decide_eq_true z, Bool.and_true]
  · unfold be_
    rw [decide_eq_false z]
    simp
theorem m_Mod_trendOf {w : Nat} (hK : KM M s n dr pa cm os gm tk pl bh va iw od) (hw : w < 4) (hq : Q (some (.int (nI (cnt (be_ s w) (sAl s))))) M) : ax_G g mt_Mod_trendOf (h + 3) 0 0 0 [.ref 143, .int (nI w), .float 0, .float 0, .float 0, .float 0] [] M Q := by
  obtain ⟨b1, b2, b3, b4, b5⟩ := hK.bd
  refine s_iconst 0 1 rfl rfl (by decide) ?_
  refine s_ist2 2 rfl rfl rfl ?_
  refine s_aload_n 3 rfl rfl rfl ?_
  refine s_aload_n 4 rfl rfl rfl ?_
  refine s_getfield 12 26 7 rfl rfl fl_Mod_182 hK.this rfl ?_
  refine c_callV1 (h+2) 10 rfl rfl mv_Mod_185 (by omega) (Nat.le_of_ble_eq_true rfl) (Nat.le_of_ble_eq_true rfl) hK.this rfl rfl ?_
  -- Mod_trendOf 10: call Mod_knownBy
  refine m_Mod_knownBy hK.this hK.ruleSet hK.ruleHead b2 ?_
  dsimp only [ax_rs]
  rw [hK.kn]
  refine s_ist3 11 rfl rfl rfl ?_
  refine s_iconst 0 12 rfl rfl (by decide) ?_
  refine s_ist4 14 rfl rfl rfl ?_
  -- Mod_trendOf 14: end
  have loop : ∀ (d i : Nat) (z : Value), z.category = 1 → i + d = sAl s → ax_G g mt_Mod_trendOf (h + 3) 0 0 14 [.ref 143, .int (nI w), .int (nI (cnt (be_ s w) i)), .int (sKn s), .int (nI i), z] [] M Q := by
    intro d
    induction d with
    | zero =>
      intro i z _ hi
      obtain rfl : i = sAl s := by omega
      refine s_iload 16 rfl rfl rfl ?_
      refine s_aload_n 17 rfl rfl rfl ?_
      refine s_getfield 12 15 20 rfl rfl fl_Mod_169 hK.this rfl ?_
      refine s_icmp_ge 107 23 rfl rfl (by decide) (fun c1 => ?_) (fun c1 => ?_)
      -- Mod_trendOf 23: branch 107 23
      · refine s_iload_n 108 rfl rfl rfl ?_
        -- Mod_trendOf 108: ireturn
        exact s_ireturn rfl .int rfl rfl (hq)
      · exact absurd (nn_nle c1) (by omega)
    | succ d ih =>
      intro i z hz hi
      have nx := fun z hz => ih (i + 1) z hz (by omega)
      rw [cnt] at nx
      have last : ∀ x : Bool, (sSt s i = 0 → x = be_ s w i) → ax_G g mt_Mod_trendOf (h + 3) 0 0 76 [.ref 143, .int (nI w), .int (nI (cnt (be_ s w) i)), .int (sKn s), .int (nI i), z] [.int (if x then 1 else 0)] M Q := by
        intro x hx
        have e := tr_st s w i x hx
        rw [← e] at nx
        refine s_ist5 78 rfl rfl rfl ?_
        refine s_iload_n 79 rfl rfl rfl ?_
        refine s_iload 81 rfl rfl rfl ?_
        refine s_if_eq 98 84 rfl rfl (by decide) (fun c2 => ?_) (fun c2 => ?_)
        -- Mod_trendOf 84: branch 98 84
        · rw [i01] at c2
          rw [if_neg (by simp [c2])] at nx
          refine s_iconst 0 99 rfl rfl (by decide) ?_
          refine s_iadd 100 rfl rfl ?_
          refine s_ist2 101 rfl rfl rfl ?_
          refine s_inc4 _ 104 rfl rfl rfl rfl ?_
          refine s_goto 14 rfl (by decide) ?_
          -- Mod_trendOf 14: end
          rw [inc1, show nI (cnt (be_ s w) i) + 0 = nI (cnt (be_ s w) i + 0) from nI_add _ 0]
          exact nx _ rfl
        · rw [i01] at c2
          have c2 : x = true := by simpa using c2
          refine s_aload_n 85 rfl rfl rfl ?_
          refine s_getfield 12 21 88 rfl rfl fl_Mod_58 hK.this rfl ?_
          refine s_iload 90 rfl rfl rfl ?_
          refine s_iaload (i) 91 rfl rfl hK.state rfl (by omega) (by decide) ?_
          refine s_if_ne 98 94 rfl rfl (by decide) (fun c3 => ?_) (fun c3 => ?_)
          -- Mod_trendOf 94: branch 98 94
          · rw [if_neg (by simp [c3])] at nx
            refine s_iconst 0 99 rfl rfl (by decide) ?_
            refine s_iadd 100 rfl rfl ?_
            refine s_ist2 101 rfl rfl rfl ?_
            refine s_inc4 _ 104 rfl rfl rfl rfl ?_
            refine s_goto 14 rfl (by decide) ?_
            -- Mod_trendOf 14: end
            rw [inc1, show nI (cnt (be_ s w) i) + 0 = nI (cnt (be_ s w) i + 0) from nI_add _ 0]
            exact nx _ rfl
          · rw [if_pos (by simp [c2, c3])] at nx
            refine s_iconst 1 95 rfl rfl (by decide) ?_
            refine s_goto 99 rfl (by decide) ?_
            refine s_iadd 100 rfl rfl ?_
            refine s_ist2 101 rfl rfl rfl ?_
            refine s_inc4 _ 104 rfl rfl rfl rfl ?_
            refine s_goto 14 rfl (by decide) ?_
            -- Mod_trendOf 14: end
            rw [inc1, show nI (cnt (be_ s w) i) + 1 = nI (cnt (be_ s w) i + 1) from nI_1 _]
            exact nx _ rfl
      refine s_iload 16 rfl rfl rfl ?_
      refine s_aload_n 17 rfl rfl rfl ?_
      refine s_getfield 12 15 20 rfl rfl fl_Mod_169 hK.this rfl ?_
      refine s_icmp_ge 107 23 rfl rfl (by decide) (fun c4 => ?_) (fun c4 => ?_)
      -- Mod_trendOf 23: branch 107 23
      · exact absurd (nn_le c4) (by omega)
      · rcases (by omega : w = 0 ∨ w = 1 ∨ w = 2 ∨ w = 3) with rfl | rfl | rfl | rfl
        · refine s_iload_n 24 rfl rfl rfl ?_
          refine s_if_eq 71 27 rfl rfl (by decide) (fun c5 => ?_) (fun c5 => ?_)
          -- Mod_trendOf 27: branch 71 27
          · refine s_iconst 1 72 rfl rfl (by decide) ?_
            refine s_goto 76 rfl (by decide) ?_
            -- Mod_trendOf 76: end
            exact last true (fun e => by unfold be_; simp [e])
          · exact absurd rfl c5
        · refine s_iload_n 24 rfl rfl rfl ?_
          refine s_if_eq 71 27 rfl rfl (by decide) (fun c6 => ?_) (fun c6 => ?_)
          -- Mod_trendOf 27: branch 71 27
          · exact absurd c6 (by decide)
          · refine s_iload_n 28 rfl rfl rfl ?_
            refine s_iconst 1 29 rfl rfl (by decide) ?_
            refine s_icmp_ne 42 32 rfl rfl (by decide) (fun c7 => ?_) (fun c7 => ?_)
            -- Mod_trendOf 32: branch 42 32
            · exact absurd rfl c7
            · refine s_aload_n 33 rfl rfl rfl ?_
              refine s_iload 35 rfl rfl rfl ?_
              refine s_iload_n 36 rfl rfl rfl ?_
              refine c_callV2 (h+2) 39 rfl rfl mv_Mod_188 (by omega) (Nat.le_of_ble_eq_true rfl) (Nat.le_of_ble_eq_true rfl) hK.this rfl rfl ?_
              -- Mod_trendOf 39: call Mod_isClosed
              refine m_Mod_isClosed hK.this hK.wants (by omega) ?_
              dsimp only [ax_rs]
              refine s_if_ne 71 42 rfl rfl (by decide) (fun c8 => ?_) (fun c8 => ?_)
              -- Mod_trendOf 42: branch 71 42
              · rw [bi_0, Classical.not_not] at c8
                refine s_iconst 1 72 rfl rfl (by decide) ?_
                refine s_goto 76 rfl (by decide) ?_
                -- Mod_trendOf 76: end
                exact last true (fun e => by unfold be_; simp [e, c8])
              · rw [bi_0] at c8
                refine s_iload_n 43 rfl rfl rfl ?_
                refine s_iconst 2 44 rfl rfl (by decide) ?_
                refine s_icmp_ne 57 47 rfl rfl (by decide) (fun c9 => ?_) (fun c9 => ?_)
                -- Mod_trendOf 47: branch 57 47
                · refine s_iload_n 58 rfl rfl rfl ?_
                  refine s_iconst 3 59 rfl rfl (by decide) ?_
                  refine s_icmp_ne 75 62 rfl rfl (by decide) (fun c10 => ?_) (fun c10 => ?_)
                  -- Mod_trendOf 62: branch 75 62
                  · refine s_iconst 0 76 rfl rfl (by decide) ?_
                    -- Mod_trendOf 76: end
                    exact last false (fun e => by unfold be_; simp [c8])
                  · exact absurd c10 (by decide)
                · exact absurd c9 (by decide)
        · refine s_iload_n 24 rfl rfl rfl ?_
          refine s_if_eq 71 27 rfl rfl (by decide) (fun c11 => ?_) (fun c11 => ?_)
          -- Mod_trendOf 27: branch 71 27
          · exact absurd c11 (by decide)
          · refine s_iload_n 28 rfl rfl rfl ?_
            refine s_iconst 1 29 rfl rfl (by decide) ?_
            refine s_icmp_ne 42 32 rfl rfl (by decide) (fun c12 => ?_) (fun c12 => ?_)
            -- Mod_trendOf 32: branch 42 32
            · refine s_iload_n 43 rfl rfl rfl ?_
              refine s_iconst 2 44 rfl rfl (by decide) ?_
              refine s_icmp_ne 57 47 rfl rfl (by decide) (fun c13 => ?_) (fun c13 => ?_)
              -- Mod_trendOf 47: branch 57 47
              · exact absurd rfl c13
              · refine s_aload_n 48 rfl rfl rfl ?_
                refine s_iload 50 rfl rfl rfl ?_
                refine c_callV1 (h+2) 53 rfl rfl mv_Mod_192 (by omega) (Nat.le_of_ble_eq_true rfl) (Nat.le_of_ble_eq_true rfl) hK.this rfl rfl ?_
                -- Mod_trendOf 53: call Mod_silencedBy
                refine m_Mod_silencedBy (h := h + 1) hK (by omega) ?_
                dsimp only [ax_rs]
                refine s_iconst (-1) 54 rfl rfl (by decide) ?_
                refine s_icmp_ne 71 57 rfl rfl (by decide) (fun c14 => ?_) (fun c14 => ?_)
                -- Mod_trendOf 57: branch 71 57
                · refine s_iconst 1 72 rfl rfl (by decide) ?_
                  refine s_goto 76 rfl (by decide) ?_
                  -- Mod_trendOf 76: end
                  exact last true (fun e => by unfold be_; simp [e, c14])
                · refine s_iload_n 58 rfl rfl rfl ?_
                  refine s_iconst 3 59 rfl rfl (by decide) ?_
                  refine s_icmp_ne 75 62 rfl rfl (by decide) (fun c15 => ?_) (fun c15 => ?_)
                  -- Mod_trendOf 62: branch 75 62
                  · refine s_iconst 0 76 rfl rfl (by decide) ?_
                    -- Mod_trendOf 76: end
                    exact last false (fun e => by unfold be_; simp [c14])
                  · exact absurd c15 (by decide)
            · exact absurd c12 (by decide)
        · refine s_iload_n 24 rfl rfl rfl ?_
          refine s_if_eq 71 27 rfl rfl (by decide) (fun c16 => ?_) (fun c16 => ?_)
          -- Mod_trendOf 27: branch 71 27
          · exact absurd c16 (by decide)
          · refine s_iload_n 28 rfl rfl rfl ?_
            refine s_iconst 1 29 rfl rfl (by decide) ?_
            refine s_icmp_ne 42 32 rfl rfl (by decide) (fun c17 => ?_) (fun c17 => ?_)
            -- Mod_trendOf 32: branch 42 32
            · refine s_iload_n 43 rfl rfl rfl ?_
              refine s_iconst 2 44 rfl rfl (by decide) ?_
              refine s_icmp_ne 57 47 rfl rfl (by decide) (fun c18 => ?_) (fun c18 => ?_)
              -- Mod_trendOf 47: branch 57 47
              · refine s_iload_n 58 rfl rfl rfl ?_
                refine s_iconst 3 59 rfl rfl (by decide) ?_
                refine s_icmp_ne 75 62 rfl rfl (by decide) (fun c19 => ?_) (fun c19 => ?_)
                -- Mod_trendOf 62: branch 75 62
                · exact absurd rfl c19
                · refine s_aload_n 63 rfl rfl rfl ?_
                  refine s_iload 65 rfl rfl rfl ?_
                  refine c_callV1 (h+2) 68 rfl rfl mv_Mod_208 (by omega) (Nat.le_of_ble_eq_true rfl) (Nat.le_of_ble_eq_true rfl) hK.this rfl rfl ?_
                  -- Mod_trendOf 68: call Mod_isOpen
                  refine m_Mod_isOpen (h := h) hK (by omega) ?_
                  dsimp only [ax_rs]
                  refine s_if_eq 75 71 rfl rfl (by decide) (fun c20 => ?_) (fun c20 => ?_)
                  -- Mod_trendOf 71: branch 75 71
                  · rw [bi_0] at c20
                    refine s_iconst 0 76 rfl rfl (by decide) ?_
                    -- Mod_trendOf 76: end
                    exact last false (fun _ => (Bool.eq_false_iff.mpr c20).symm)
                  · rw [bi_0, Classical.not_not] at c20
                    refine s_iconst 1 72 rfl rfl (by decide) ?_
                    refine s_goto 76 rfl (by decide) ?_
                    -- Mod_trendOf 76: end
                    exact last true (fun _ => c20.symm)
              · exact absurd c18 (by decide)
            · exact absurd c17 (by decide)
  exact loop (sAl s) 0 _ rfl (by omega)
end KMS
