/-! the reference: in, feed, cut; and both -/
theorem i64_le {x y : Int32} : x.toInt64 ≤ y.toInt64 ↔ x ≤ y := by
  rw [Int64.le_iff_toInt_le, Int32.le_iff_toInt_le, Int32.toInt_toInt64, Int32.toInt_toInt64]
abbrev md_m (M : ax_M) (n bl ln dr al ru pv si pa cm os gm tk pl bh : Int32) (va : Int64) (iw od : Int32) : ax_M := oP M 143 12 (md_f n bl ln dr al ru pv si pa cm os gm tk pl bh va iw od)
theorem ax_me {M1 M2 : ax_M} (h1 : M1.1 = M2.1) (h2 : ∀ k, M1.2 k = M2.2 k) : M1 = M2 := Prod.ext h1 (funext h2)
theorem ax_p4 {M : ax_M} {a b : Nat} {e1 e2 e3 e4 : ax_E} : ax_put (ax_put (ax_put (ax_put M a e1) b e2) a e3) b e4 = ax_put (ax_put M a e3) b e4 := by
  refine ax_me rfl (fun k => ?_)
  simp only [ax_put, va_up]
  by_cases h1 : k = b
  · simp [h1]
  · by_cases h2 : k = a
    · simp [h1, h2]
    · simp [h1, h2]
theorem ax_p3 {M : ax_M} {a b : Nat} {e1 e2 e3 : ax_E} (hab : a ≠ b) : ax_put (ax_put (ax_put M a e1) b e2) a e3 = ax_put (ax_put M a e3) b e2 := by
  refine ax_me rfl (fun k => ?_)
  simp only [ax_put, va_up]
  by_cases h1 : k = b
  · subst h1; simp [hab.symm]
  · by_cases h2 : k = a
    · simp [h2]; exact fun z => absurd z hab
    · simp [h1, h2]
section MTEXT
variable {g : ax_Y} {M : ax_M} {Q : Option Value → ax_M → Prop} {h n : Nat} {bl ln dr al ru pv si pa cm os gm tk pl bh : Int32} {va : Int64} {iw od : Int32} {f : Nat → Int32}
theorem m_Mod_in {a b c : Int64} (hq : Q (some (.int (bi (b ≤ a ∧ a ≤ c)))) M) : ax_G g mt_Mod_in h 0 0 0 [.long a, .float 0, .long b, .float 0, .long c, .float 0] [] M Q := by
  refine s_lload_n 1 rfl rfl rfl ?_
  refine s_lload_n 2 rfl rfl rfl ?_
  refine s_lcmp 3 rfl rfl ?_
  refine s_if_lt 17 6 rfl rfl (by decide) (fun c1 => ?_) (fun c1 => ?_)
  -- Mod_in 6: branch 17 6
  · rw [lg_cmp_lt] at c1
    rw [bi_f (fun q => absurd q.1 (Int64.not_le.mpr c1))] at hq
    refine s_iconst 0 18 rfl rfl (by decide) ?_
    -- Mod_in 18: ireturn
    exact s_ireturn rfl .boolean rfl rfl (hq)
  · rw [lg_cmp_lt] at c1
    refine s_lload_n 7 rfl rfl rfl ?_
    refine s_lload 9 rfl rfl rfl ?_
    refine s_lcmp 10 rfl rfl ?_
    refine s_if_gt 17 13 rfl rfl (by decide) (fun c2 => ?_) (fun c2 => ?_)
    -- Mod_in 13: branch 17 13
    · rw [lg_cmp_gt] at c2
      rw [bi_f (fun q => absurd q.2 (Int64.not_le.mpr c2))] at hq
      refine s_iconst 0 18 rfl rfl (by decide) ?_
      -- Mod_in 18: ireturn
      exact s_ireturn rfl .boolean rfl rfl (hq)
    · rw [lg_cmp_gt] at c2
      rw [bi_t ⟨Int64.not_lt.mp c1, Int64.not_lt.mp c2⟩] at hq
      refine s_iconst 1 14 rfl rfl (by decide) ?_
      refine s_goto 18 rfl (by decide) ?_
      -- Mod_in 18: ireturn
      exact s_ireturn rfl .boolean rfl rfl (hq)
/-- in over ints -/
theorem m_Mod_inI {x lo hi : Int32} {b c : Int64} (hb : b = lo.toInt64) (hc : c = hi.toInt64) (hq : Q (some (.int (bi (lo ≤ x ∧ x ≤ hi)))) M) : ax_G g mt_Mod_in h 0 0 0 [.long x.toInt64, .float 0, .long b, .float 0, .long c, .float 0] [] M Q := by
  subst hb
  subst hc
  refine m_Mod_in ?_
  rw [bi_c (show (lo.toInt64 ≤ x.toInt64 ∧ x.toInt64 ≤ hi.toInt64) ↔ (lo ≤ x ∧ x ≤ hi) by rw [i64_le, i64_le])]
  exact hq
theorem d_feed {x : Int32} {w : Int64} (h_this : oC M 143 12 (md_f (nI n) bl ln dr al ru pv si pa cm os gm tk pl bh va iw od)) (h_text : iA M 144 160 f) (hn : n ≤ 160) (hb : (x < 1 ∨ ¬ x ≤ 8) → Q (some (.int (-2))) M) (hr : ∀ k, 1 ≤ k → k ≤ 8 → x = nI k → 160 < n + k → Q (some (.int (-4))) M) (hg : ∀ k, 1 ≤ k → k ≤ 8 → x = nI k → n + k ≤ 160 → Q (some (.int (nI (n + k)))) (md_m (iP M 144 160 (fd_ (fd_B2 w) f n k k)) (nI (n + k)) bl ln dr al ru pv si pa cm os gm tk pl bh va iw od)) : ax_G g mt_Mod_feed (h + 1) 0 0 0 [.ref 143, .int x, .long w, .float 0, .float 0] [] M Q := by
  refine s_iload_n 1 rfl rfl rfl ?_
  refine s_i2l 2 rfl rfl ?_
  refine s_lconst 1 3 rfl rfl (by decide) ?_
  refine s_ldc2_w 8 6 rfl rfl kl_Mod_132 ?_
  refine c_callS3 h 9 rfl rfl mv_Mod_134 (by omega) (Nat.le_of_ble_eq_true rfl) (Nat.le_of_ble_eq_true rfl) ?_
  -- Mod_feed 9: call Mod_in
  refine m_Mod_inI (lo := 1) (hi := 8) (by decide) (by decide) ?_
  dsimp only [ax_rs]
  refine s_if_ne 15 12 rfl rfl (by decide) (fun c1 => ?_) (fun c1 => ?_)
  -- Mod_feed 12: branch 15 12
  · rw [bi_0, Classical.not_not] at c1
    obtain ⟨k, k1, k8, rfl⟩ := nI_ge0 x (Int32.not_lt.mpr c1.1) c1.2
    refine s_aload_n 16 rfl rfl rfl ?_
    refine s_getfield 12 1 19 rfl rfl fl_Mod_138 h_this rfl ?_
    refine s_iload_n 20 rfl rfl rfl ?_
    refine s_iadd 21 rfl rfl ?_
    -- Mod_feed 21: end
    rw [nI_add]
    refine s_sipush 160 24 rfl rfl (by decide) ?_
    refine s_icmp_le 30 27 rfl rfl (by decide) (fun c2 => ?_) (fun c2 => ?_)
    -- Mod_feed 27: branch 30 27
    · have hk := nn_le (b := 160) c2
      have hg := hg k k1 k8 rfl hk
      refine s_iload_n 31 rfl rfl rfl ?_
      refine s_iconst 1 32 rfl rfl (by decide) ?_
      refine s_isub 33 rfl rfl ?_
      refine s_ist4 35 rfl rfl rfl ?_
      -- Mod_feed 35: end
      have loop : ∀ (r : Nat), r ≤ k → ax_G g mt_Mod_feed (h + 1) 0 0 35 [.ref 143, .int (nI k), .long w, .float 0, .int (nI r - 1)] [] (md_m (iP M 144 160 (fd_ (fd_B2 w) f n k (k - r))) (nI (n + (k - r))) bl ln dr al ru pv si pa cm os gm tk pl bh va iw od) Q := by
        intro r
        induction r with
        | zero =>
          intro _
          refine s_iload 37 rfl rfl rfl ?_
          refine s_if_lt 77 40 rfl rfl (by decide) (fun c3 => ?_) (fun c3 => ?_)
          -- Mod_feed 40: branch 77 40
          · skip
            refine s_aload_n 78 rfl rfl rfl ?_
            refine s_getfield 12 1 81 rfl rfl fl_Mod_138 rfl rfl ?_
            -- Mod_feed 81: ireturn
            exact s_ireturn rfl .int rfl rfl (hg)
          · exact absurd (by decide) c3
        | succ r ih =>
          intro hr
          rw [nI_pred]
          refine s_iload 37 rfl rfl rfl ?_
          refine s_if_lt 77 40 rfl rfl (by decide) (fun c4 => ?_) (fun c4 => ?_)
          -- Mod_feed 40: branch 77 40
          · exact absurd c4 (nI_pos (by omega))
          · skip
            refine s_aload_n 41 rfl rfl rfl ?_
            refine s_getfield 12 0 44 rfl rfl fl_Mod_7 rfl rfl ?_
            refine s_aload_n 45 rfl rfl rfl ?_
            refine s_getfield 12 1 48 rfl rfl fl_Mod_138 rfl rfl ?_
            refine s_lload_n 49 rfl rfl rfl ?_
            refine s_bipush 8 51 rfl rfl (by decide) ?_
            refine s_iload 53 rfl rfl rfl ?_
            refine s_imul 54 rfl rfl ?_
            -- Mod_feed 54: end
            rw [show (8 : Int32) * nI r = nI (8 * r) from pk_mul 8 r]
            refine s_lshr 55 rfl rfl ?_
            refine s_ldc2_w 255 58 rfl rfl kl_Mod_142 ?_
            refine s_land 59 rfl rfl ?_
            refine s_l2i 60 rfl rfl ?_
            refine s_iastore (n + (k - (r + 1))) 61 rfl rfl rfl rfl (by omega) (by decide) ?_
            refine s_aload_n 62 rfl rfl rfl ?_
            refine s_dup 63 rfl rfl rfl ?_
            refine s_getfield 12 1 66 rfl rfl fl_Mod_138 rfl rfl ?_
            refine s_iconst 1 67 rfl rfl (by decide) ?_
            refine s_iadd 68 rfl rfl ?_
            refine s_putfield 12 1 (.int) 71 rfl rfl fp_Mod_138 rfl (Nat.le_of_ble_eq_true rfl) ⟨rfl, rfl⟩ (fun h => absurd h (by decide)) ?_
            refine s_inc4 _ 74 rfl rfl rfl rfl ?_
            refine s_goto 35 rfl (by decide) ?_
            -- Mod_feed 35: end
            rw [dec1, nI_1]
            have := ih (by omega)
            rw [show k - r = k - (r + 1) + 1 by omega, fd_, show k - 1 - (k - (r + 1)) = r by omega] at this
            unfold md_m iP oP at this
            unfold md_m iP oP
            rw [ax_p4]
            exact this
      have h0 := loop k (Nat.le_refl k)
      rw [show k - k = 0 by omega, fd_, show n + 0 = n from rfl] at h0
      unfold md_m iP oP at h0
      rw [ax_id h_text, ax_id h_this] at h0
      exact h0
    · refine s_bipush (-4) 29 rfl rfl (by decide) ?_
      -- Mod_feed 29: ireturn
      exact s_ireturn rfl .int rfl rfl (hr k k1 k8 rfl (nn_nle (b := 160) c2))
  · rw [bi_0] at c1
    refine s_bipush (-2) 14 rfl rfl (by decide) ?_
    -- Mod_feed 14: ireturn
    refine s_ireturn rfl .int rfl rfl (hb ?_)
    by_cases z : x < 1
    · exact Or.inl z
    · exact Or.inr (fun q => c1 ⟨Int32.not_lt.mp z, q⟩)
theorem d_cut {x : Int32} (h_this : oC M 143 12 (md_f (nI n) bl ln dr al ru pv si pa cm os gm tk pl bh va iw od)) (hn : n ≤ 160) (hb : (x < 0 ∨ ¬ x ≤ nI n) → Q (some (.int (-2))) M) (hg : ∀ k, k ≤ n → x = nI k → Q (some (.int (nI (n - k)))) (md_m M (nI k) bl ln dr al ru pv si pa cm os gm tk pl bh va iw od)) : ax_G g mt_Mod_cut (h + 1) 0 0 0 [.ref 143, .int x, .float 0] [] M Q := by
  refine s_iload_n 1 rfl rfl rfl ?_
  refine s_i2l 2 rfl rfl ?_
  refine s_lconst 0 3 rfl rfl (by decide) ?_
  refine s_aload_n 4 rfl rfl rfl ?_
  refine s_getfield 12 1 7 rfl rfl fl_Mod_138 h_this rfl ?_
  refine s_i2l 8 rfl rfl ?_
  refine c_callS3 h 11 rfl rfl mv_Mod_134 (by omega) (Nat.le_of_ble_eq_true rfl) (Nat.le_of_ble_eq_true rfl) ?_
  -- Mod_cut 11: call Mod_in
  refine m_Mod_inI (lo := 0) (hi := nI n) (by decide) rfl ?_
  dsimp only [ax_rs]
  refine s_if_ne 17 14 rfl rfl (by decide) (fun c1 => ?_) (fun c1 => ?_)
  -- Mod_cut 14: branch 17 14
  · rw [bi_0, Classical.not_not] at c1
    obtain ⟨k, hk, rfl⟩ := nI_of (Int32.not_lt.mpr c1.1)
    have hkn := nn_le c1.2
    refine s_aload_n 18 rfl rfl rfl ?_
    refine s_getfield 12 1 21 rfl rfl fl_Mod_138 h_this rfl ?_
    refine s_iload_n 22 rfl rfl rfl ?_
    refine s_isub 23 rfl rfl ?_
    -- Mod_cut 23: end
    rw [pk_sub hkn]
    refine s_ist2 24 rfl rfl rfl ?_
    refine s_aload_n 25 rfl rfl rfl ?_
    refine s_iload_n 26 rfl rfl rfl ?_
    refine s_putfield 12 1 (.int) 29 rfl rfl fp_Mod_138 h_this (Nat.le_of_ble_eq_true rfl) ⟨rfl, rfl⟩ (fun h => absurd h (by decide)) ?_
    refine s_iload_n 30 rfl rfl rfl ?_
    -- Mod_cut 30: ireturn
    exact s_ireturn rfl .int rfl rfl (hg k hkn rfl)
  · rw [bi_0] at c1
    refine s_bipush (-2) 16 rfl rfl (by decide) ?_
    -- Mod_cut 16: ireturn
    refine s_ireturn rfl .int rfl rfl (hb ?_)
    by_cases z : x < 0
    · exact Or.inl z
    · exact Or.inr (fun q => c1 ⟨Int32.not_lt.mp z, q⟩)
end MTEXT
