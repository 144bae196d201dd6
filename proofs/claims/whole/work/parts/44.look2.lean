/-! compare, silent, held, reason -/
theorem b01 {b : Bool} : bi (b = true) = 0 ↔ b = false := by cases b <;> simp [bi]
theorem isN_cg {p q : Nat → Bool} {n : Nat} {x r : Int32} (h : ∀ b, b < n → p b = q b) (hp : isN p n x r) : isN q n x r := by
  have eb : ∀ b, b ≤ n → cnt p b = cnt q b := fun b hb => cnt_cg (fun i hi => h i (by omega))
  rcases hp with ⟨a1, a2⟩ | ⟨b, a1, a2, a3, a4⟩ | ⟨a1, a2, a3⟩
  · exact Or.inl ⟨a1, by rw [a2, eb n (by omega)]⟩
  · exact Or.inr (Or.inl ⟨b, a1, by rw [← h b a1]; exact a2, by rw [← eb b (by omega)]; exact a3, a4⟩)
  · exact Or.inr (Or.inr ⟨a1, fun b hb hq => by rw [← eb b (by omega)]; exact a2 b hb (by rw [h b hb]; exact hq), a3⟩)
section LOOK2
variable {g : ax_Y} {M : ax_M} {Q : Option Value → ax_M → Prop} {h : Nat} {s : Sta} {dw nw : Nat} {gc pa : Int32} {sl : Nat → Option Nat} {n dr cm os gm tk pl bh : Int32} {va : Int64} {iw od : Int32}
theorem c_compare {x y w i : Int32} {pt : Nat → Int64} (hK : KC M s dw nw gc pa sl) (h_past : lA M 78 48 pt) (h1 : ((x < 0 ∨ nI (sBl s) ≤ x) ∨ (y < 0 ∨ nI (sBl s) ≤ y) ∨ (w < 0 ∨ nI 3 ≤ w)) → Q (some (.int (-2))) M) (h2 : ∀ b c k, b < sBl s → x = nI b → c < sBl s → y = nI c → k < 3 → w = nI k → ∀ r, isN (fun a => pc_ k (lb (so_ s pt b 0) a) (lb (so_ s pt c 0) a)) 64 i r → Q (some (.int r)) M) : ax_G g mt_Top_compare (h + 6) 0 0 0 [.ref 0, .int x, .int y, .int w, .int i, .float 0, .float 0, .float 0, .float 0] [] M Q := by
  obtain ⟨b1, b2, b3, b4, b5⟩ := hK.bd
  refine s_aload_n 1 rfl rfl rfl ?_
  refine s_iload_n 2 rfl rfl rfl ?_
  refine c_callV1 (h+5) 5 rfl rfl mv_Top_299 (by omega) (Nat.le_of_ble_eq_true rfl) (Nat.le_of_ble_eq_true rfl) hK.top rfl rfl ?_
  -- Top_compare 5: call Top_isBuild
  refine m_Top_isBuild hK ?_
  dsimp only [ax_rs]
  rcases in_or (x := x) (n := sBl s) (by omega) with ⟨b, hb, rfl⟩ | c
  · rw [bi_t (in_bi hb (by omega) rfl)]
    refine s_if_eq 16 8 rfl rfl (by decide) (fun c1 => ?_) (fun c1 => ?_)
    -- Top_compare 8: branch 16 8
    · exact absurd c1 (by decide)
    · refine s_aload_n 9 rfl rfl rfl ?_
      refine s_iload_n 10 rfl rfl rfl ?_
      refine c_callV1 (h+5) 13 rfl rfl mv_Top_299 (by omega) (Nat.le_of_ble_eq_true rfl) (Nat.le_of_ble_eq_true rfl) hK.top rfl rfl ?_
      -- Top_compare 13: call Top_isBuild
      refine m_Top_isBuild hK ?_
      dsimp only [ax_rs]
      rcases in_or (x := y) (n := sBl s) (by omega) with ⟨c, hc, rfl⟩ | c
      · rw [bi_t (in_bi hc (by omega) rfl)]
        refine s_if_ne 19 16 rfl rfl (by decide) (fun c2 => ?_) (fun c2 => ?_)
        -- Top_compare 16: branch 19 16
        · refine s_aload_n 20 rfl rfl rfl ?_
          refine s_iload_n 21 rfl rfl rfl ?_
          refine s_iconst 0 22 rfl rfl (by decide) ?_
          refine c_callV2 (h+5) 25 rfl rfl mv_Top_302 (by omega) (Nat.le_of_ble_eq_true rfl) (Nat.le_of_ble_eq_true rfl) hK.top rfl rfl ?_
          -- Top_compare 25: call Top_setOf
          refine m_Top_setOf (h := h) (w := 0) hK h_past hb (by omega) ?_
          dsimp only [ax_rs]
          refine s_lst5 27 rfl rfl rfl ?_
          refine s_aload_n 28 rfl rfl rfl ?_
          refine s_iload_n 29 rfl rfl rfl ?_
          refine s_iconst 0 30 rfl rfl (by decide) ?_
          refine c_callV2 (h+5) 33 rfl rfl mv_Top_302 (by omega) (Nat.le_of_ble_eq_true rfl) (Nat.le_of_ble_eq_true rfl) hK.top rfl rfl ?_
          -- Top_compare 33: call Top_setOf
          refine m_Top_setOf (h := h) (w := 0) hK h_past hc (by omega) ?_
          dsimp only [ax_rs]
          refine s_lst7 35 rfl rfl rfl ?_
          refine s_iload_n 36 rfl rfl rfl ?_
          -- Top_compare 36: end
          rcases in_or (x := w) (n := 3) (by omega) with ⟨k, hk, rfl⟩ | z
          · have h2 := h2 b c k hb rfl hc rfl hk rfl
            rcases (by omega : k = 0 ∨ k = 1 ∨ k = 2) with rfl | rfl | rfl
            · refine s_tabIn 64 rfl (by decide) (by decide) rfl (by decide) ?_
              -- to 64
              refine s_lload 66 rfl rfl rfl ?_
              refine s_lload 68 rfl rfl rfl ?_
              refine s_ldc2_w (-1) 71 rfl rfl kl_Top_306 ?_
              refine s_lxor 72 rfl rfl ?_
              refine s_land 73 rfl rfl ?_
              refine s_iload 75 rfl rfl rfl ?_
              refine c_callS2 (h+5) 78 rfl rfl mv_Top_191 (by omega) (Nat.le_of_ble_eq_true rfl) (Nat.le_of_ble_eq_true rfl) ?_
              -- Top_compare 78: call Top_member
              refine m_Top_member (fun r hr => ?_)
              dsimp only [ax_rs]
              refine s_ireturn rfl .int rfl rfl (h2 r ?_)
              rw [show (fun a => pc_ 0 (lb (so_ s pt b 0) a) (lb (so_ s pt c 0) a)) = fun a => (lb (so_ s pt c 0) a && !lb (so_ s pt b 0) a) from rfl]
              refine isN_cg (fun a ha => ?_) hr
              rw [l_and, l_xor, l_m1 a ha, Bool.xor_true]
            · refine s_tabIn 79 rfl (by decide) (by decide) rfl (by decide) ?_
              -- to 79
              refine s_lload 81 rfl rfl rfl ?_
              refine s_lload 83 rfl rfl rfl ?_
              refine s_ldc2_w (-1) 86 rfl rfl kl_Top_306 ?_
              refine s_lxor 87 rfl rfl ?_
              refine s_land 88 rfl rfl ?_
              refine s_iload 90 rfl rfl rfl ?_
              refine c_callS2 (h+5) 93 rfl rfl mv_Top_191 (by omega) (Nat.le_of_ble_eq_true rfl) (Nat.le_of_ble_eq_true rfl) ?_
              -- Top_compare 93: call Top_member
              refine m_Top_member (fun r hr => ?_)
              dsimp only [ax_rs]
              refine s_ireturn rfl .int rfl rfl (h2 r ?_)
              rw [show (fun a => pc_ 1 (lb (so_ s pt b 0) a) (lb (so_ s pt c 0) a)) = fun a => (lb (so_ s pt b 0) a && !lb (so_ s pt c 0) a) from rfl]
              refine isN_cg (fun a ha => ?_) hr
              rw [l_and, l_xor, l_m1 a ha, Bool.xor_true]
            · refine s_tabIn 94 rfl (by decide) (by decide) rfl (by decide) ?_
              -- to 94
              refine s_lload 96 rfl rfl rfl ?_
              refine s_lload 98 rfl rfl rfl ?_
              refine s_land 99 rfl rfl ?_
              refine s_iload 101 rfl rfl rfl ?_
              refine c_callS2 (h+5) 104 rfl rfl mv_Top_191 (by omega) (Nat.le_of_ble_eq_true rfl) (Nat.le_of_ble_eq_true rfl) ?_
              -- Top_compare 104: call Top_member
              refine m_Top_member (fun r hr => ?_)
              dsimp only [ax_rs]
              refine s_ireturn rfl .int rfl rfl (h2 r ?_)
              rw [show (fun a => pc_ 2 (lb (so_ s pt b 0) a) (lb (so_ s pt c 0) a)) = fun a => (lb (so_ s pt b 0) a && lb (so_ s pt c 0) a) from rfl]
              refine isN_cg (fun a ha => ?_) hr
              rw [l_and]
          · refine s_tabOut 105 rfl ((by have := in_ti (by omega) z; omega)) (by decide) ?_
            -- to 105
            refine s_bipush (-2) 107 rfl rfl (by decide) ?_
            -- Top_compare 107: ireturn
            exact s_ireturn rfl .int rfl rfl (h1 (Or.inr (Or.inr z)))
        · exact absurd c2 (by decide)
      · rw [bi_f (in_no c)]
        refine s_if_ne 19 16 rfl rfl (by decide) (fun c3 => ?_) (fun c3 => ?_)
        -- Top_compare 16: branch 19 16
        · exact absurd rfl c3
        · refine s_bipush (-2) 18 rfl rfl (by decide) ?_
          -- Top_compare 18: ireturn
          exact s_ireturn rfl .int rfl rfl (h1 (Or.inr (Or.inl c)))
  · rw [bi_f (in_no c)]
    refine s_if_eq 16 8 rfl rfl (by decide) (fun c4 => ?_) (fun c4 => ?_)
    -- Top_compare 8: branch 16 8
    · refine s_bipush (-2) 18 rfl rfl (by decide) ?_
      -- Top_compare 18: ireturn
      exact s_ireturn rfl .int rfl rfl (h1 (Or.inl c))
    · exact absurd rfl c4
theorem m_Mod_isOf {a b : Nat} {ob : Nat → Int32} (hK : KM M s n dr pa cm os gm tk pl bh va iw od) (h_ofBuilds : iA M 161 50 ob) (ha : a < 50) (hb : b < sBl s) (hq : Q (some (.int (bi (io_ s ob b a = true)))) M) : ax_G g mt_Mod_isOf h 0 0 0 [.ref 143, .int (nI a), .int (nI b)] [] M Q := by
  obtain ⟨b1, b2, b3, b4, b5⟩ := hK.bd
  unfold io_ at hq
  refine s_iload_n 1 rfl rfl rfl ?_
  refine s_aload_n 2 rfl rfl rfl ?_
  refine s_getfield 12 2 5 rfl rfl fl_Mod_152 hK.this rfl ?_
  refine s_iconst 1 6 rfl rfl (by decide) ?_
  refine s_isub 7 rfl rfl ?_
  refine s_icmp_ne 27 10 rfl rfl (by decide) (fun c1 => ?_) (fun c1 => ?_)
  -- Mod_isOf 10: branch 27 10
  · rw [nI_m1 (by omega) (by omega)] at c1
    rw [if_neg c1] at hq
    refine s_aload_n 28 rfl rfl rfl ?_
    refine s_getfield 12 22 31 rfl rfl fl_Mod_61 hK.this rfl ?_
    refine s_iload_n 32 rfl rfl rfl ?_
    refine s_iaload (a) 33 rfl rfl h_ofBuilds rfl (by omega) (by decide) ?_
    refine s_iload_n 34 rfl rfl rfl ?_
    refine s_ishr 35 rfl rfl ?_
    refine s_iconst 1 36 rfl rfl (by decide) ?_
    refine s_iand 37 rfl rfl ?_
    -- Mod_isOf 37: end
    rw [b_tst _ (by omega)]
    refine s_iconst 1 38 rfl rfl (by decide) ?_
    refine s_icmp_ne 45 41 rfl rfl (by decide) (fun c2 => ?_) (fun c2 => ?_)
    -- Mod_isOf 41: branch 45 41
    · rw [i011] at c2
      rw [bi_f c2] at hq
      refine s_iconst 0 46 rfl rfl (by decide) ?_
      -- Mod_isOf 46: ireturn
      exact s_ireturn rfl .boolean rfl rfl (hq)
    · rw [i011] at c2
      rw [bi_t c2] at hq
      refine s_iconst 1 42 rfl rfl (by decide) ?_
      refine s_goto 46 rfl (by decide) ?_
      -- Mod_isOf 46: ireturn
      exact s_ireturn rfl .boolean rfl rfl (hq)
  · rw [nI_m1 (by omega) (by omega)] at c1
    rw [if_pos c1] at hq
    refine s_aload_n 11 rfl rfl rfl ?_
    refine s_getfield 12 21 14 rfl rfl fl_Mod_58 hK.this rfl ?_
    refine s_iload_n 15 rfl rfl rfl ?_
    refine s_iaload (a) 16 rfl rfl hK.state rfl (by omega) (by decide) ?_
    refine s_if_ne 23 19 rfl rfl (by decide) (fun c3 => ?_) (fun c3 => ?_)
    -- Mod_isOf 19: branch 23 19
    · rw [bi_f (by simpa using c3)] at hq
      refine s_iconst 0 24 rfl rfl (by decide) ?_
      refine s_goto 46 rfl (by decide) ?_
      -- Mod_isOf 46: ireturn
      exact s_ireturn rfl .boolean rfl rfl (hq)
    · rw [bi_t (by simpa using c3)] at hq
      refine s_iconst 1 20 rfl rfl (by decide) ?_
      refine s_goto 46 rfl (by decide) ?_
      -- Mod_isOf 46: ireturn
      exact s_ireturn rfl .boolean rfl rfl (hq)
theorem d_compare {x y w i : Int32} {ob : Nat → Int32} (hK : KM M s n dr pa cm os gm tk pl bh va iw od) (h_ofBuilds : iA M 161 50 ob) (h1 : ((x < 0 ∨ nI (sBl s) ≤ x) ∨ (y < 0 ∨ nI (sBl s) ≤ y) ∨ (w < 0 ∨ nI 3 ≤ w)) → Q (some (.int (-2))) M) (h2 : ∀ b c k, b < sBl s → x = nI b → c < sBl s → y = nI c → k < 3 → w = nI k → ∀ r, isN (fun a => pc_ k (io_ s ob b a) (io_ s ob c a)) (sAl s) i r → Q (some (.int r)) M) : ax_G g mt_Mod_compare (h + 1) 0 0 0 [.ref 143, .int x, .int y, .int w, .int i, .float 0, .float 0, .float 0, .float 0] [] M Q := by
  obtain ⟨b1, b2, b3, b4, b5⟩ := hK.bd
  refine s_iload_n 1 rfl rfl rfl ?_
  refine s_i2l 2 rfl rfl ?_
  refine s_lconst 0 3 rfl rfl (by decide) ?_
  refine s_aload_n 4 rfl rfl rfl ?_
  refine s_getfield 12 2 7 rfl rfl fl_Mod_152 hK.this rfl ?_
  refine s_iconst 1 8 rfl rfl (by decide) ?_
  refine s_isub 9 rfl rfl ?_
  refine s_i2l 10 rfl rfl ?_
  refine c_callS3 h 13 rfl rfl mv_Mod_134 (by omega) (Nat.le_of_ble_eq_true rfl) (Nat.le_of_ble_eq_true rfl) ?_
  -- Mod_compare 13: call Mod_in
  refine m_Mod_inI (lo := 0) (hi := nI (sBl s) - 1) (by decide) rfl ?_
  dsimp only [ax_rs]
  rcases in_or (x := x) (n := sBl s) (by omega) with ⟨b, hb, rfl⟩ | c
  · rw [bi_t (in_le hb (by omega) rfl)]
    refine s_if_eq 50 16 rfl rfl (by decide) (fun c1 => ?_) (fun c1 => ?_)
    -- Mod_compare 16: branch 50 16
    · exact absurd c1 (by decide)
    · refine s_iload_n 17 rfl rfl rfl ?_
      refine s_i2l 18 rfl rfl ?_
      refine s_lconst 0 19 rfl rfl (by decide) ?_
      refine s_aload_n 20 rfl rfl rfl ?_
      refine s_getfield 12 2 23 rfl rfl fl_Mod_152 hK.this rfl ?_
      refine s_iconst 1 24 rfl rfl (by decide) ?_
      refine s_isub 25 rfl rfl ?_
      refine s_i2l 26 rfl rfl ?_
      refine c_callS3 h 29 rfl rfl mv_Mod_134 (by omega) (Nat.le_of_ble_eq_true rfl) (Nat.le_of_ble_eq_true rfl) ?_
      -- Mod_compare 29: call Mod_in
      refine m_Mod_inI (lo := 0) (hi := nI (sBl s) - 1) (by decide) rfl ?_
      dsimp only [ax_rs]
      rcases in_or (x := y) (n := sBl s) (by omega) with ⟨c, hc, rfl⟩ | c
      · rw [bi_t (in_le hc (by omega) rfl)]
        refine s_if_eq 50 32 rfl rfl (by decide) (fun c2 => ?_) (fun c2 => ?_)
        -- Mod_compare 32: branch 50 32
        · exact absurd c2 (by decide)
        · refine s_iload_n 33 rfl rfl rfl ?_
          refine s_i2l 34 rfl rfl ?_
          refine s_lconst 0 35 rfl rfl (by decide) ?_
          refine s_ldc2_w 2 38 rfl rfl kl_Mod_340 ?_
          refine c_callS3 h 41 rfl rfl mv_Mod_134 (by omega) (Nat.le_of_ble_eq_true rfl) (Nat.le_of_ble_eq_true rfl) ?_
          -- Mod_compare 41: call Mod_in
          refine m_Mod_inI (lo := 0) (hi := nI 3 - 1) (by decide) (by decide) ?_
          dsimp only [ax_rs]
          rcases in_or (x := w) (n := 3) (by omega) with ⟨k, hk, rfl⟩ | z
          · rw [bi_t (in_le hk (by omega) rfl)]
            have h2 := h2 b c k hb rfl hc rfl hk rfl
            refine s_if_eq 50 44 rfl rfl (by decide) (fun c3 => ?_) (fun c3 => ?_)
            -- Mod_compare 44: branch 50 44
            · exact absurd c3 (by decide)
            · refine s_iload 46 rfl rfl rfl ?_
              refine s_iconst (-1) 47 rfl rfl (by decide) ?_
              refine s_icmp_ge 53 50 rfl rfl (by decide) (fun c4 => ?_) (fun c4 => ?_)
              -- Mod_compare 50: branch 53 50
              · refine s_iconst 0 54 rfl rfl (by decide) ?_
                refine s_ist5 56 rfl rfl rfl ?_
                refine s_iconst 0 57 rfl rfl (by decide) ?_
                refine s_ist6 59 rfl rfl rfl ?_
                -- Mod_compare 59: end
                have loop : ∀ (d a : Nat) (z1 z2 : Value), z1.category = 1 → z2.category = 1 → a + d = sAl s → (∀ e, e < a → pc_ k (io_ s ob b e) (io_ s ob c e) = true → i ≠ nI (cnt (fun a => pc_ k (io_ s ob b a) (io_ s ob c a)) e)) → ax_G g mt_Mod_compare (h + 1) 0 0 59 [.ref 143, .int (nI b), .int (nI c), .int (nI k), .int i, .int (nI (cnt (fun a => pc_ k (io_ s ob b a) (io_ s ob c a)) a)), .int (nI a), z1, z2] [] M Q := by
                  intro d
                  induction d with
                  | zero =>
                    intro a z1 z2 _ _ ha hc2
                    obtain rfl : a = sAl s := by omega
                    refine s_iload 61 rfl rfl rfl ?_
                    refine s_aload_n 62 rfl rfl rfl ?_
                    refine s_getfield 12 15 65 rfl rfl fl_Mod_169 hK.this rfl ?_
                    refine s_icmp_ge 150 68 rfl rfl (by decide) (fun c5 => ?_) (fun c5 => ?_)
                    -- Mod_compare 68: branch 150 68
                    · refine s_iload 152 rfl rfl rfl ?_
                      refine s_iconst (-1) 153 rfl rfl (by decide) ?_
                      refine s_icmp_ne 161 156 rfl rfl (by decide) (fun c6 => ?_) (fun c6 => ?_)
                      -- Mod_compare 156: branch 161 156
                      · refine s_bipush (-2) 163 rfl rfl (by decide) ?_
                        -- Mod_compare 163: ireturn
                        exact s_ireturn rfl .int rfl rfl (h2 _ (Or.inr (Or.inr ⟨c6, hc2, rfl⟩)))
                      · refine s_iload 158 rfl rfl rfl ?_
                        refine s_goto 163 rfl (by decide) ?_
                        -- Mod_compare 163: ireturn
                        exact s_ireturn rfl .int rfl rfl (h2 _ (Or.inl ⟨c6, rfl⟩))
                    · exact absurd (nn_nle c5) (by omega)
                  | succ d ih =>
                    intro a z1 z2 hz1 hz2 ha hc2
                    have nx := fun z1 z2 h1 h2 => ih (a + 1) z1 z2 h1 h2 (by omega)
                    rw [cnt] at nx
                    have bq := cnt_le (fun a => pc_ k (io_ s ob b a) (io_ s ob c a)) a
                    refine s_iload 61 rfl rfl rfl ?_
                    refine s_aload_n 62 rfl rfl rfl ?_
                    refine s_getfield 12 15 65 rfl rfl fl_Mod_169 hK.this rfl ?_
                    refine s_icmp_ge 150 68 rfl rfl (by decide) (fun c7 => ?_) (fun c7 => ?_)
                    -- Mod_compare 68: branch 150 68
                    · exact absurd (nn_le c7) (by omega)
                    · refine s_aload_n 69 rfl rfl rfl ?_
                      refine s_iload 71 rfl rfl rfl ?_
                      refine s_iload_n 72 rfl rfl rfl ?_
                      refine c_callV2 h 75 rfl rfl mv_Mod_342 (by omega) (Nat.le_of_ble_eq_true rfl) (Nat.le_of_ble_eq_true rfl) hK.this rfl rfl ?_
                      -- Mod_compare 75: call Mod_isOf
                      refine m_Mod_isOf hK h_ofBuilds (by omega) hb ?_
                      dsimp only [ax_rs]
                      refine s_ist7 77 rfl rfl rfl ?_
                      refine s_aload_n 78 rfl rfl rfl ?_
                      refine s_iload 80 rfl rfl rfl ?_
                      refine s_iload_n 81 rfl rfl rfl ?_
                      refine c_callV2 h 84 rfl rfl mv_Mod_342 (by omega) (Nat.le_of_ble_eq_true rfl) (Nat.le_of_ble_eq_true rfl) hK.this rfl rfl ?_
                      -- Mod_compare 84: call Mod_isOf
                      refine m_Mod_isOf hK h_ofBuilds (by omega) hc ?_
                      dsimp only [ax_rs]
                      refine s_ist8 86 rfl rfl rfl ?_
                      -- Mod_compare 86: end
                      have yes : pc_ k (io_ s ob b a) (io_ s ob c a) = true → ax_G g mt_Mod_compare (h + 1) 0 0 131 [.ref 143, .int (nI b), .int (nI c), .int (nI k), .int i, .int (nI (cnt (fun a => pc_ k (io_ s ob b a) (io_ s ob c a)) a)), .int (nI a), .int (bi (io_ s ob b a = true)), .int (bi (io_ s ob c a = true))] [] M Q := by
                        intro hp
                        rw [if_pos hp] at nx
                        refine s_iload 133 rfl rfl rfl ?_
                        refine s_iload 135 rfl rfl rfl ?_
                        refine s_icmp_ne 141 138 rfl rfl (by decide) (fun c8 => ?_) (fun c8 => ?_)
                        -- Mod_compare 138: branch 141 138
                        · refine s_inc5 _ 144 rfl rfl rfl rfl ?_
                          refine s_inc6 _ 147 rfl rfl rfl rfl ?_
                          refine s_goto 59 rfl (by decide) ?_
                          -- Mod_compare 59: end
                          rw [inc1, inc1]
                          refine nx _ _ rfl rfl (fun e he hpe => ?_)
                          rcases Nat.lt_or_ge e a with z | z
                          · exact hc2 e z hpe
                          · obtain rfl : e = a := by omega
                            exact fun q => c8 q.symm
                        · refine s_iload 140 rfl rfl rfl ?_
                          -- Mod_compare 140: ireturn
                          exact s_ireturn rfl .int rfl rfl (h2 _ (Or.inr (Or.inl ⟨a, by omega, hp, c8.symm, rfl⟩)))
                      have no : pc_ k (io_ s ob b a) (io_ s ob c a) = false → ax_G g mt_Mod_compare (h + 1) 0 0 144 [.ref 143, .int (nI b), .int (nI c), .int (nI k), .int i, .int (nI (cnt (fun a => pc_ k (io_ s ob b a) (io_ s ob c a)) a)), .int (nI a), .int (bi (io_ s ob b a = true)), .int (bi (io_ s ob c a = true))] [] M Q := by
                        intro hp
                        rw [if_neg (by rw [hp]; decide)] at nx
                        refine s_inc6 _ 147 rfl rfl rfl rfl ?_
                        refine s_goto 59 rfl (by decide) ?_
                        -- Mod_compare 59: end
                        rw [inc1]
                        refine nx _ _ rfl rfl (fun e he hpe => ?_)
                        rcases Nat.lt_or_ge e a with z | z
                        · exact hc2 e z hpe
                        · obtain rfl : e = a := by omega
                          rw [hp] at hpe
                          cases hpe
                      rcases (by omega : k = 0 ∨ k = 1 ∨ k = 2) with rfl | rfl | rfl
                      · refine s_iload_n 87 rfl rfl rfl ?_
                        refine s_if_ne 103 90 rfl rfl (by decide) (fun c9 => ?_) (fun c9 => ?_)
                        -- Mod_compare 90: branch 103 90
                        · exact absurd rfl c9
                        · refine s_iload 92 rfl rfl rfl ?_
                          refine s_if_eq 144 95 rfl rfl (by decide) (fun c10 => ?_) (fun c10 => ?_)
                          -- Mod_compare 95: branch 144 95
                          · rw [b01] at c10
                            exact no (by simp [pc_, c10])
                          · rw [b01] at c10
                            refine s_iload 97 rfl rfl rfl ?_
                            refine s_if_ne 144 100 rfl rfl (by decide) (fun c11 => ?_) (fun c11 => ?_)
                            -- Mod_compare 100: branch 144 100
                            · rw [b01] at c11
                              exact no (by simp [pc_, c11])
                            · rw [b01] at c11
                              refine s_goto 131 rfl (by decide) ?_
                              -- Mod_compare 131: end
                              exact yes (by simp [pc_, c11]; simpa using c10)
                      · refine s_iload_n 87 rfl rfl rfl ?_
                        refine s_if_ne 103 90 rfl rfl (by decide) (fun c12 => ?_) (fun c12 => ?_)
                        -- Mod_compare 90: branch 103 90
                        · refine s_iload_n 104 rfl rfl rfl ?_
                          refine s_iconst 1 105 rfl rfl (by decide) ?_
                          refine s_icmp_ne 121 108 rfl rfl (by decide) (fun c13 => ?_) (fun c13 => ?_)
                          -- Mod_compare 108: branch 121 108
                          · exact absurd rfl c13
                          · refine s_iload 110 rfl rfl rfl ?_
                            refine s_if_eq 144 113 rfl rfl (by decide) (fun c14 => ?_) (fun c14 => ?_)
                            -- Mod_compare 113: branch 144 113
                            · rw [b01] at c14
                              exact no (by simp [pc_, c14])
                            · rw [b01] at c14
                              refine s_iload 115 rfl rfl rfl ?_
                              refine s_if_ne 144 118 rfl rfl (by decide) (fun c15 => ?_) (fun c15 => ?_)
                              -- Mod_compare 118: branch 144 118
                              · rw [b01] at c15
                                exact no (by simp [pc_, c15])
                              · rw [b01] at c15
                                refine s_goto 131 rfl (by decide) ?_
                                -- Mod_compare 131: end
                                exact yes (by simp [pc_, c15]; simpa using c14)
                        · exact absurd c12 (by decide)
                      · refine s_iload_n 87 rfl rfl rfl ?_
                        refine s_if_ne 103 90 rfl rfl (by decide) (fun c16 => ?_) (fun c16 => ?_)
                        -- Mod_compare 90: branch 103 90
                        · refine s_iload_n 104 rfl rfl rfl ?_
                          refine s_iconst 1 105 rfl rfl (by decide) ?_
                          refine s_icmp_ne 121 108 rfl rfl (by decide) (fun c17 => ?_) (fun c17 => ?_)
                          -- Mod_compare 108: branch 121 108
                          · refine s_iload 123 rfl rfl rfl ?_
                            refine s_if_eq 144 126 rfl rfl (by decide) (fun c18 => ?_) (fun c18 => ?_)
                            -- Mod_compare 126: branch 144 126
                            · rw [b01] at c18
                              exact no (by simp [pc_, c18])
                            · rw [b01] at c18
                              refine s_iload 128 rfl rfl rfl ?_
                              refine s_if_eq 144 131 rfl rfl (by decide) (fun c19 => ?_) (fun c19 => ?_)
                              -- Mod_compare 131: branch 144 131
                              · rw [b01] at c19
                                exact no (by simp [pc_, c19])
                              · rw [b01] at c19
                                exact yes (by simp [pc_]; exact ⟨by simpa using c18, by simpa using c19⟩)
                          · exact absurd c17 (by decide)
                        · exact absurd c16 (by decide)
                exact loop (sAl s) 0 _ _ rfl rfl (by omega) (fun e he => by omega)
              · refine s_bipush (-2) 52 rfl rfl (by decide) ?_
                -- Mod_compare 52: ireturn
                exact s_ireturn rfl .int rfl rfl (h2 _ (Or.inr (Or.inr ⟨fun e => c4 (by rw [e]; decide), fun a ha hp e => c4 (e ▸ Int32.le_trans (by decide) (nI_pos' (by have := cnt_le (fun a => pc_ k (io_ s ob b a) (io_ s ob c a)) a; omega))), rfl⟩)))
          · rw [bi_f (in_nle (n := 3) (by omega) z)]
            refine s_if_eq 50 44 rfl rfl (by decide) (fun c20 => ?_) (fun c20 => ?_)
            -- Mod_compare 44: branch 50 44
            · refine s_bipush (-2) 52 rfl rfl (by decide) ?_
              -- Mod_compare 52: ireturn
              exact s_ireturn rfl .int rfl rfl (h1 (Or.inr (Or.inr z)))
            · exact absurd rfl c20
      · rw [bi_f (in_nle (by omega) c)]
        refine s_if_eq 50 32 rfl rfl (by decide) (fun c21 => ?_) (fun c21 => ?_)
        -- Mod_compare 32: branch 50 32
        · refine s_bipush (-2) 52 rfl rfl (by decide) ?_
          -- Mod_compare 52: ireturn
          exact s_ireturn rfl .int rfl rfl (h1 (Or.inr (Or.inl c)))
        · exact absurd rfl c21
  · rw [bi_f (in_nle (by omega) c)]
    refine s_if_eq 50 16 rfl rfl (by decide) (fun c22 => ?_) (fun c22 => ?_)
    -- Mod_compare 16: branch 50 16
    · refine s_bipush (-2) 52 rfl rfl (by decide) ?_
      -- Mod_compare 52: ireturn
      exact s_ireturn rfl .int rfl rfl (h1 (Or.inl c))
    · exact absurd rfl c22
theorem both_compare (x y w i : Int32) : BI g (Rel g) mt_Top_compare mt_Mod_compare [.int x, .int y, .int w, .int i] := by
  intro M hR
  have hR' := hR
  obtain ⟨s, t, dw, nw, gc, sl, n, pa, dr, cm, os, gm, tk, pl, bh, va, iw, od, hC, hM, hg, -, -, hA, -⟩ := hR.get
  obtain ⟨b1, b2, b3, b4, b5⟩ := hC.bd
  obtain ⟨li, ki, wa, pp, qq, st, l2, k2, w2, p2, q2, s3, ob, tr, ps, a1, a2, a3, a4, a5, a6, a7, a8, a9, a10, a11, a12, a13, a14, a15, a16, a17, a18, a19, a20, a21⟩ := hA
  have eb := hg.sc.2.2.2.2.1
  have ex1 : ∀ b c k, b < sBl s → x = nI b → c < sBl s → y = nI c → k < 3 → w = nI k → ¬ ((x < 0 ∨ nI (sBl s) ≤ x) ∨ (y < 0 ∨ nI (sBl s) ≤ y) ∨ (w < 0 ∨ nI 3 ≤ w)) := by
    intro b c k z1 z2 z3 z4 z5 z6 q
    rcases q with q | q | q
    · exact in_no q (in_bi z1 (by omega) z2)
    · exact in_no q (in_bi z3 (by omega) z4)
    · exact in_no q (in_bi z5 (by omega) z6)
  have so : ∀ b, b < sBl s → ∀ a, a < 64 → lb (so_ s ps b 0) a = (decide (a < sAl s) && io_ t ob b a) := by
    intro b hb a ha
    unfold so_ io_
    rw [eb]
    by_cases q : b + 1 = sBl s
    · rw [if_pos q, if_pos q, lset_b _ _ (by omega) a ha]
      by_cases z : a < sAl s
      · rw [(hg.al a z).2.2.2.2.2]
        simp [be_]
      · rw [decide_eq_false z]
        simp
    · rw [if_neg q, if_neg q]
      exact (a21 b (by omega)).1 a ha
  refine c_compare (h := 5) hC a8 (fun q => ?_) (fun b c k z1 z2 z3 z4 z5 z6 r hr => ?_)
  · refine ⟨_, rfl, ⟨_, hM.this⟩, d_compare (h := 10) hM a15 (fun _ => ⟨rfl, hR'⟩) (fun b c k z1 z2 z3 z4 z5 z6 => ?_)⟩
    rw [eb] at z1 z3
    exact absurd q (ex1 b c k z1 z2 z3 z4 z5 z6)
  · refine ⟨_, rfl, ⟨_, hM.this⟩, d_compare (h := 10) hM a15 (fun q => ?_) (fun b' c' k' d1 d2 d3 d4 d5 d6 r' hr' => ?_)⟩
    · rw [eb] at q
      exact absurd q (ex1 b c k z1 z2 z3 z4 z5 z6)
    · rw [eb] at d1 d3
      obtain rfl : b = b' := nn_eq (z2.symm.trans d2)
      obtain rfl : c = c' := nn_eq (z4.symm.trans d4)
      obtain rfl : k = k' := nn_eq (z6.symm.trans d6)
      rw [hg.sc.1] at hr'
      have e := isN_u (n := sAl s) (m := 64) (by omega) (by omega) (fun a ha => by
        rw [so b z1 a (by omega), so c z3 a (by omega), decide_eq_true ha, Bool.true_and, Bool.true_and]) (fun a h1 h2 => by
        rw [so b z1 a h2, so c z3 a h2, decide_eq_false (by omega), Bool.false_and, Bool.false_and]
        unfold pc_
        split
        · rfl
        · split <;> rfl) hr' hr
      rw [e]
      exact ⟨rfl, hR'⟩
end LOOK2
