/-! one silence: the class, its end -/
section ONE2
variable {g : ax_Y} {N : ax_M} {Q : Option Value → ax_M → Prop} {h n sz k a si : Nat} {f1 f2 so sa se : Nat → Int32} {un kd fo fi : Int32} {ls : Int64}
theorem m_Silences_takeWhere {ln : Nat} (ha : 30 ≤ a) (hln : ln ≤ 40) (hT : TK_ N f1 f2 n sz so sa se) (h22 : oC N 22 9 [.ref 23, .int (nI si), .ref 24]) (hk : k < sz) (h0 : (wh_ (tb_ f2 n) (nI ln - 1) k).1 = false → ∀ fo fi ls, Q (some (.int 0)) (tN (iN N a un kd fo fi ls) sz (wh_ (tb_ f2 n) (nI ln - 1) k).2.1)) (h1 : (wh_ (tb_ f2 n) (nI ln - 1) k).1 = true → (wh_ (tb_ f2 n) (nI ln - 1) k).2.1 < sz → Q (some (.int 1)) (tN (iN N a un kd (wh_ (tb_ f2 n) (nI ln - 1) k).2.2.1 (wh_ (tb_ f2 n) (nI ln - 1) k).2.2.2.1 (wh_ (tb_ f2 n) (nI ln - 1) k).2.2.2.2) sz (wh_ (tb_ f2 n) (nI ln - 1) k).2.1)) : ax_G g mt_Silences_takeWhere (h + 6) 0 0 0 [.ref 22, .ref a, .int (nI ln), .float 0] [] (tN (iN N a un kd 0 (-1) 0) sz k) Q := by
  unfold wh_ at h0 h1
  refine s_aload_n 1 rfl rfl rfl ?_
  refine s_getfield 9 2 4 rfl rfl fl_Silences_20 (i_22 ha h22) rfl ?_
  refine s_ldcS 1 6 rfl rfl rfl ?_
  refine c_callV1 (h+5) 9 rfl rfl mv_Silences_79 (by omega) (Nat.le_of_ble_eq_true rfl) (Nat.le_of_ble_eq_true rfl) ax_eq rfl rfl ?_
  -- Silences_takeWhere 9: call Tokens_takeWord
  refine m_Tokens_takeWord (h := h + 1) (i := 1) (by decide) ax_eq (hT.i ha) hk ?_
  dsimp only [ax_rs]
  rw [i_t]
  cases e1 : iw_ (tb_ f2 n) (ti_ (tb_ f2 n) k) 1 with
  | true =>
    have k1 := (hT.b hk).2.2 (by rw [iw_1 e1]; decide) (by rw [iw_1 e1]; decide)
    rw [if_pos e1] at h1
    rw [if_pos rfl, if_pos rfl]
    refine s_if_eq 19 12 rfl rfl (by decide) (fun c1 => ?_) (fun c1 => ?_)
    -- Silences_takeWhere 12: branch 19 12
    · exact absurd c1 (by decide)
    · refine s_aload_n 13 rfl rfl rfl ?_
      refine s_iconst 2 14 rfl rfl (by decide) ?_
      refine s_putfield 8 2 (.int) 17 rfl rfl fp_Silences_103 (i_a ha) (Nat.le_of_ble_eq_true rfl) ⟨rfl, rfl⟩ (fun h => absurd h (by decide)) ?_
      -- Silences_takeWhere 17: end
      have e := i_p (N := N) (a := a) (un := un) (kd := kd) (fo := 0) (fi := -1) (ls := 0) (sz := sz) (k := k + 1) (un2 := un) (kd2 := kd) (fo2 := 2) (fi2 := -1) (ls2 := 0) ha
      unfold oP at e
      show ax_G g mt_Silences_takeWhere (h + 6) 0 0 17 _ [] (ax_put (tN (iN N a un kd 0 (-1) 0) sz (k + 1)) a (.inr (8, [.int un, .int kd, .int 2, .int (-1), .long 0, .ref (a + 1)]))) Q
      rw [e]
      refine s_iconst 1 18 rfl rfl (by decide) ?_
      -- Silences_takeWhere 18: ireturn
      exact s_ireturn rfl .boolean rfl rfl (h1 rfl k1.1)
  | false =>
    rw [if_neg (by rw [e1]; decide)] at h0 h1
    rw [if_neg (by decide), if_neg (by decide)]
    refine s_if_eq 19 12 rfl rfl (by decide) (fun c2 => ?_) (fun c2 => ?_)
    -- Silences_takeWhere 12: branch 19 12
    · refine s_aload_n 20 rfl rfl rfl ?_
      refine s_getfield 9 2 23 rfl rfl fl_Silences_20 (i_22 ha h22) rfl ?_
      refine s_ldcS 2 25 rfl rfl rfl ?_
      refine c_callV1 (h+5) 28 rfl rfl mv_Silences_79 (by omega) (Nat.le_of_ble_eq_true rfl) (Nat.le_of_ble_eq_true rfl) ax_eq rfl rfl ?_
      -- Silences_takeWhere 28: call Tokens_takeWord
      refine m_Tokens_takeWord (h := h + 1) (i := 2) (by decide) ax_eq (hT.i ha) hk ?_
      dsimp only [ax_rs]
      rw [i_t]
      cases e2 : iw_ (tb_ f2 n) (ti_ (tb_ f2 n) k) 2 with
      | true =>
        have k1 := (hT.b hk).2.2 (by rw [iw_1 e2]; decide) (by rw [iw_1 e2]; decide)
        rw [if_pos e2] at h0 h1
        rw [if_pos rfl, if_pos rfl]
        refine s_if_eq 63 31 rfl rfl (by decide) (fun c3 => ?_) (fun c3 => ?_)
        -- Silences_takeWhere 31: branch 63 31
        · exact absurd c3 (by decide)
        · refine s_aload_n 32 rfl rfl rfl ?_
          refine s_iconst 1 33 rfl rfl (by decide) ?_
          refine s_putfield 8 2 (.int) 36 rfl rfl fp_Silences_103 (i_a ha) (Nat.le_of_ble_eq_true rfl) ⟨rfl, rfl⟩ (fun h => absurd h (by decide)) ?_
          -- Silences_takeWhere 36: end
          have e := i_p (N := N) (a := a) (un := un) (kd := kd) (fo := 0) (fi := -1) (ls := 0) (sz := sz) (k := k + 1) (un2 := un) (kd2 := kd) (fo2 := 1) (fi2 := -1) (ls2 := 0) ha
          unfold oP at e
          show ax_G g mt_Silences_takeWhere (h + 6) 0 0 36 _ [] (ax_put (tN (iN N a un kd 0 (-1) 0) sz (k + 1)) a (.inr (8, [.int un, .int kd, .int 1, .int (-1), .long 0, .ref (a + 1)]))) Q
          rw [e]
          refine s_aload_n 37 rfl rfl rfl ?_
          refine s_aload_n 38 rfl rfl rfl ?_
          refine s_getfield 9 2 41 rfl rfl fl_Silences_20 (i_22 ha h22) rfl ?_
          refine s_iconst 0 42 rfl rfl (by decide) ?_
          refine s_iconst 5 43 rfl rfl (by decide) ?_
          refine c_callV2 (h+5) 46 rfl rfl mv_Silences_108 (by omega) (Nat.le_of_ble_eq_true rfl) (Nat.le_of_ble_eq_true rfl) ax_eq rfl rfl ?_
          -- Silences_takeWhere 46: call Tokens_takeNumber
          refine m_Tokens_takeNumber (h := h + 4) (lo := 0) (hi := 5) ax_eq (hT.i ha) k1.1 ?_
          dsimp only [ax_rs]
          rw [i_t]
          cases e3 : nu_ (tb_ f2 n) (ti_ (tb_ f2 n) (k + 1)) 0 5 with
          | false =>
            rw [if_neg (by rw [e3]; decide)] at h0
            rw [if_neg (by decide), if_neg (by decide)]
            refine s_putfield 8 3 (.int) 49 rfl rfl fp_Silences_111 (i_a ha) (Nat.le_of_ble_eq_true rfl) ⟨rfl, rfl⟩ (fun h => absurd h (by decide)) ?_
            -- Silences_takeWhere 49: end
            have e := i_p (N := N) (a := a) (un := un) (kd := kd) (fo := 1) (fi := -1) (ls := 0) (sz := sz) (k := k + 1) (un2 := un) (kd2 := kd) (fo2 := 1) (fi2 := -1) (ls2 := 0) ha
            unfold oP at e
            show ax_G g mt_Silences_takeWhere (h + 6) 0 0 49 _ [] (ax_put (tN (iN N a un kd 1 (-1) 0) sz (k + 1)) a (.inr (8, [.int un, .int kd, .int 1, .int (-1), .long 0, .ref (a + 1)]))) Q
            rw [e]
            refine s_aload_n 50 rfl rfl rfl ?_
            refine s_getfield 8 3 53 rfl rfl fl_Silences_111 (i_a ha) rfl ?_
            refine s_iconst (-1) 54 rfl rfl (by decide) ?_
            refine s_icmp_eq 61 57 rfl rfl (by decide) (fun c4 => ?_) (fun c4 => ?_)
            -- Silences_takeWhere 57: branch 61 57
            · refine s_iconst 0 62 rfl rfl (by decide) ?_
              -- Silences_takeWhere 62: ireturn
              exact s_ireturn rfl .boolean rfl rfl (h0 rfl _ _ _)
            · exact absurd rfl c4
          | true =>
            have k2 := (hT.b k1.1).2.2 (by rw [(nu_2 e3).1]; decide) (by rw [(nu_2 e3).1]; decide)
            rw [if_pos e3] at h1
            rw [if_pos rfl, if_pos rfl]
            refine s_putfield 8 3 (.int) 49 rfl rfl fp_Silences_111 (i_a ha) (Nat.le_of_ble_eq_true rfl) ⟨rfl, rfl⟩ (fun h => absurd h (by decide)) ?_
            -- Silences_takeWhere 49: end
            have e := i_p (N := N) (a := a) (un := un) (kd := kd) (fo := 1) (fi := -1) (ls := 0) (sz := sz) (k := k + 1 + 1) (un2 := un) (kd2 := kd) (fo2 := 1) (fi2 := vt_ (tb_ f2 n) (ti_ (tb_ f2 n) (k + 1))) (ls2 := 0) ha
            unfold oP at e
            show ax_G g mt_Silences_takeWhere (h + 6) 0 0 49 _ [] (ax_put (tN (iN N a un kd 1 (-1) 0) sz (k + 1 + 1)) a (.inr (8, [.int un, .int kd, .int 1, .int (vt_ (tb_ f2 n) (ti_ (tb_ f2 n) (k + 1))), .long 0, .ref (a + 1)]))) Q
            rw [e]
            refine s_aload_n 50 rfl rfl rfl ?_
            refine s_getfield 8 3 53 rfl rfl fl_Silences_111 (i_a ha) rfl ?_
            refine s_iconst (-1) 54 rfl rfl (by decide) ?_
            refine s_icmp_eq 61 57 rfl rfl (by decide) (fun c5 => ?_) (fun c5 => ?_)
            -- Silences_takeWhere 57: branch 61 57
            · exact absurd c5 (vt_m1 (by decide) e3)
            · refine s_iconst 1 58 rfl rfl (by decide) ?_
              refine s_goto 62 rfl (by decide) ?_
              -- Silences_takeWhere 62: ireturn
              exact s_ireturn rfl .boolean rfl rfl (h1 rfl k2.1)
      | false =>
        rw [if_neg (by rw [e2]; decide)] at h0 h1
        rw [if_neg (by decide), if_neg (by decide)]
        refine s_if_eq 63 31 rfl rfl (by decide) (fun c6 => ?_) (fun c6 => ?_)
        -- Silences_takeWhere 31: branch 63 31
        · refine s_aload_n 64 rfl rfl rfl ?_
          refine s_getfield 9 2 67 rfl rfl fl_Silences_20 (i_22 ha h22) rfl ?_
          refine s_ldcS 3 69 rfl rfl rfl ?_
          refine c_callV1 (h+5) 72 rfl rfl mv_Silences_79 (by omega) (Nat.le_of_ble_eq_true rfl) (Nat.le_of_ble_eq_true rfl) ax_eq rfl rfl ?_
          -- Silences_takeWhere 72: call Tokens_takeWord
          refine m_Tokens_takeWord (h := h + 1) (i := 3) (by decide) ax_eq (hT.i ha) hk ?_
          dsimp only [ax_rs]
          rw [i_t]
          cases e4 : iw_ (tb_ f2 n) (ti_ (tb_ f2 n) k) 3 with
          | true =>
            have k1 := (hT.b hk).2.2 (by rw [iw_1 e4]; decide) (by rw [iw_1 e4]; decide)
            rw [if_pos e4] at h0 h1
            rw [if_pos rfl, if_pos rfl]
            refine s_if_eq 94 75 rfl rfl (by decide) (fun c7 => ?_) (fun c7 => ?_)
            -- Silences_takeWhere 75: branch 94 75
            · exact absurd c7 (by decide)
            · refine s_aload_n 76 rfl rfl rfl ?_
              refine s_getfield 9 2 79 rfl rfl fl_Silences_20 (i_22 ha h22) rfl ?_
              refine s_iconst 0 80 rfl rfl (by decide) ?_
              refine s_iload_n 81 rfl rfl rfl ?_
              refine s_iconst 1 82 rfl rfl (by decide) ?_
              refine s_isub 83 rfl rfl ?_
              refine c_callV2 (h+5) 86 rfl rfl mv_Silences_108 (by omega) (Nat.le_of_ble_eq_true rfl) (Nat.le_of_ble_eq_true rfl) ax_eq rfl rfl ?_
              -- Silences_takeWhere 86: call Tokens_takeNumber
              refine m_Tokens_takeNumber (h := h + 4) (lo := 0) (hi := nI ln - 1) ax_eq (hT.i ha) k1.1 ?_
              dsimp only [ax_rs]
              rw [i_t]
              cases e5 : nu_ (tb_ f2 n) (ti_ (tb_ f2 n) (k + 1)) 0 (nI ln - 1) with
              | false =>
                rw [if_neg (by rw [e5]; decide)] at h0
                rw [if_neg (by decide), if_neg (by decide)]
                refine s_ist3 87 rfl rfl rfl ?_
                refine s_aload_n 88 rfl rfl rfl ?_
                refine s_iload_n 89 rfl rfl rfl ?_
                refine s_iload_n 90 rfl rfl rfl ?_
                refine c_callS3 (h+5) 93 rfl rfl mv_Silences_115 (by omega) (Nat.le_of_ble_eq_true rfl) (Nat.le_of_ble_eq_true rfl) ?_
                -- Silences_takeWhere 93: call Silences_setLines
                refine m_Silences_setLines_no (Or.inl rfl) ?_
                dsimp only [ax_rs]
                exact s_ireturn rfl .boolean rfl rfl (h0 rfl _ _ _)
              | true =>
                have k2 := (hT.b k1.1).2.2 (by rw [(nu_2 e5).1]; decide) (by rw [(nu_2 e5).1]; decide)
                obtain ⟨v, hv, ev⟩ := nu_n (by decide) (by omega) e5
                rw [if_pos e5] at h1
                have h1 := h1 rfl k2.1
                rw [ev, nI_clamp (by omega)] at h1
                rw [if_pos rfl, if_pos rfl, ev]
                refine s_ist3 87 rfl rfl rfl ?_
                refine s_aload_n 88 rfl rfl rfl ?_
                refine s_iload_n 89 rfl rfl rfl ?_
                refine s_iload_n 90 rfl rfl rfl ?_
                refine c_callS3 (h+5) 93 rfl rfl mv_Silences_115 (by omega) (Nat.le_of_ble_eq_true rfl) (Nat.le_of_ble_eq_true rfl) ?_
                -- Silences_takeWhere 93: call Silences_setLines
                refine m_Silences_setLines (u := v) (v := v) ha (by omega) (by omega) ?_
                rw [show v + 1 - v = 1 by omega]
                dsimp only [ax_rs]
                exact s_ireturn rfl .boolean rfl rfl (h1)
          | false =>
            rw [if_neg (by rw [e4]; decide)] at h0 h1
            rw [if_neg (by decide), if_neg (by decide)]
            refine s_if_eq 94 75 rfl rfl (by decide) (fun c8 => ?_) (fun c8 => ?_)
            -- Silences_takeWhere 75: branch 94 75
            · refine s_aload_n 95 rfl rfl rfl ?_
              refine s_getfield 9 2 98 rfl rfl fl_Silences_20 (i_22 ha h22) rfl ?_
              refine s_ldcS 4 100 rfl rfl rfl ?_
              refine c_callV1 (h+5) 103 rfl rfl mv_Silences_79 (by omega) (Nat.le_of_ble_eq_true rfl) (Nat.le_of_ble_eq_true rfl) ax_eq rfl rfl ?_
              -- Silences_takeWhere 103: call Tokens_takeWord
              refine m_Tokens_takeWord (h := h + 1) (i := 4) (by decide) ax_eq (hT.i ha) hk ?_
              dsimp only [ax_rs]
              rw [i_t]
              cases e6 : iw_ (tb_ f2 n) (ti_ (tb_ f2 n) k) 4 with
              | false =>
                rw [if_neg (by rw [e6]; decide)] at h0
                rw [if_neg (by decide), if_neg (by decide)]
                refine s_if_eq 119 106 rfl rfl (by decide) (fun c9 => ?_) (fun c9 => ?_)
                -- Silences_takeWhere 106: branch 119 106
                · refine s_iconst 0 120 rfl rfl (by decide) ?_
                  -- Silences_takeWhere 120: ireturn
                  exact s_ireturn rfl .boolean rfl rfl (h0 rfl _ _ _)
                · exact absurd rfl c9
              | true =>
                have k1 := (hT.b hk).2.2 (by rw [iw_1 e6]; decide) (by rw [iw_1 e6]; decide)
                rw [if_pos e6] at h0 h1
                rw [if_pos rfl, if_pos rfl]
                have q0 : ∀ {W : ax_M}, Q (some (.int 0)) W → ax_G g mt_Silences_takeWhere (h + 6) 0 0 112 [.ref 22, .ref a, .int (nI ln), .float 0] [.int 0] W Q := by
                  intro W q
                  refine s_if_eq 119 115 rfl rfl (by decide) (fun c10 => ?_) (fun c10 => ?_)
                  -- Silences_takeWhere 115: branch 119 115
                  · refine s_iconst 0 120 rfl rfl (by decide) ?_
                    -- Silences_takeWhere 120: ireturn
                    exact s_ireturn rfl .boolean rfl rfl (q)
                  · exact absurd rfl c10
                refine s_if_eq 119 106 rfl rfl (by decide) (fun c11 => ?_) (fun c11 => ?_)
                -- Silences_takeWhere 106: branch 119 106
                · exact absurd c11 (by decide)
                · refine s_aload_n 107 rfl rfl rfl ?_
                  refine s_aload_n 108 rfl rfl rfl ?_
                  refine s_iload_n 109 rfl rfl rfl ?_
                  refine c_callV2 (h+5) 112 rfl rfl mv_Silences_119 (by omega) (Nat.le_of_ble_eq_true rfl) (Nat.le_of_ble_eq_true rfl) (i_22 ha h22) rfl rfl ?_
                  -- Silences_takeWhere 112: call Silences_takeSpan
                  refine m_Silences_takeSpan (h := h) ha hln hT h22 k1.1 ⟨fun e7 => ?_, fun e7 e8 => ?_, fun e7 e8 e9 => ?_⟩ (fun e7 e8 e9 => ?_)
                  · rw [if_neg (by rw [e7]; decide)] at h0
                    dsimp only [ax_rs]
                    exact q0 (h0 rfl _ _ _)
                  · rw [if_pos e7, if_neg (by rw [show k + 2 = k + 1 + 1 from rfl, e8]; decide)] at h0
                    dsimp only [ax_rs]
                    exact q0 (h0 rfl _ _ _)
                  · rw [if_pos e7, if_pos e8, if_neg (by rw [show k + 3 = k + 1 + 2 from rfl, e9]; decide)] at h0
                    dsimp only [ax_rs]
                    exact q0 (h0 rfl _ _ _)
                  · have k2 := (hT.b k1.1).2.2 (by rw [(nu_2 e7).1]; decide) (by rw [(nu_2 e7).1]; decide)
                    have k3 := (hT.b k2.1).2.2 (by rw [iw_1 e8]; decide) (by rw [iw_1 e8]; decide)
                    have k4 := (hT.b k3.1).2.2 (by rw [(nu_2 e9).1]; decide) (by rw [(nu_2 e9).1]; decide)
                    rw [if_pos e7, if_pos e8, if_pos e9] at h1
                    dsimp only [ax_rs]
                    refine s_if_eq 119 115 rfl rfl (by decide) (fun c12 => ?_) (fun c12 => ?_)
                    -- Silences_takeWhere 115: branch 119 115
                    · exact absurd c12 (by decide)
                    · refine s_iconst 1 116 rfl rfl (by decide) ?_
                      refine s_goto 120 rfl (by decide) ?_
                      -- Silences_takeWhere 120: ireturn
                      exact s_ireturn rfl .boolean rfl rfl (h1 rfl k4.1)
            · exact absurd rfl c8
        · exact absurd rfl c6
    · exact absurd rfl c2
theorem m_Silences_takeKind (ha : 30 ≤ a) (hT : TK_ N f1 f2 n sz so sa se) (h22 : oC N 22 9 [.ref 23, .int (nI si), .ref 24]) (hk : k < sz) (h0 : (on2_ (tb_ f2 n) 6 0 9 k).1 = false → ∀ kd, Q (some (.int 0)) (tN (iN N a un kd fo fi ls) sz (on2_ (tb_ f2 n) 6 0 9 k).2.1)) (h1 : (on2_ (tb_ f2 n) 6 0 9 k).1 = true → (on2_ (tb_ f2 n) 6 0 9 k).2.1 < sz → Q (some (.int 1)) (tN (iN N a un (on2_ (tb_ f2 n) 6 0 9 k).2.2 fo fi ls) sz (on2_ (tb_ f2 n) 6 0 9 k).2.1)) : ax_G g mt_Silences_takeKind (h + 5) 0 0 0 [.ref 22, .ref a] [] (tN (iN N a un (-1) fo fi ls) sz k) Q := by
  unfold on2_ at h0 h1
  refine s_aload_n 1 rfl rfl rfl ?_
  refine s_getfield 9 2 4 rfl rfl fl_Silences_20 (i_22 ha h22) rfl ?_
  refine s_ldcS 6 6 rfl rfl rfl ?_
  refine c_callV1 (h+4) 9 rfl rfl mv_Silences_79 (by omega) (Nat.le_of_ble_eq_true rfl) (Nat.le_of_ble_eq_true rfl) ax_eq rfl rfl ?_
  -- Silences_takeKind 9: call Tokens_takeWord
  refine m_Tokens_takeWord (h := h) (i := 6) (by decide) ax_eq (hT.i ha) hk ?_
  dsimp only [ax_rs]
  rw [i_t]
  cases e1 : iw_ (tb_ f2 n) (ti_ (tb_ f2 n) k) 6 with
  | false =>
    rw [if_neg (by rw [e1]; decide)] at h1
    rw [if_neg (by decide), if_neg (by decide)]
    refine s_if_ne 14 12 rfl rfl (by decide) (fun c1 => ?_) (fun c1 => ?_)
    -- Silences_takeKind 12: branch 14 12
    · exact absurd rfl c1
    · refine s_iconst 1 13 rfl rfl (by decide) ?_
      -- Silences_takeKind 13: ireturn
      exact s_ireturn rfl .boolean rfl rfl (h1 rfl hk)
  | true =>
    have k1 := (hT.b hk).2.2 (by rw [iw_1 e1]; decide) (by rw [iw_1 e1]; decide)
    rw [if_pos e1] at h0 h1
    rw [if_pos rfl, if_pos rfl]
    refine s_if_ne 14 12 rfl rfl (by decide) (fun c2 => ?_) (fun c2 => ?_)
    -- Silences_takeKind 12: branch 14 12
    · refine s_aload_n 15 rfl rfl rfl ?_
      refine s_aload_n 16 rfl rfl rfl ?_
      refine s_getfield 9 2 19 rfl rfl fl_Silences_20 (i_22 ha h22) rfl ?_
      refine s_iconst 0 20 rfl rfl (by decide) ?_
      refine s_bipush 9 22 rfl rfl (by decide) ?_
      refine c_callV2 (h+4) 25 rfl rfl mv_Silences_108 (by omega) (Nat.le_of_ble_eq_true rfl) (Nat.le_of_ble_eq_true rfl) ax_eq rfl rfl ?_
      -- Silences_takeKind 25: call Tokens_takeNumber
      refine m_Tokens_takeNumber (h := h + 3) (lo := 0) (hi := 9) ax_eq (hT.i ha) k1.1 ?_
      dsimp only [ax_rs]
      rw [i_t]
      cases e3 : nu_ (tb_ f2 n) (ti_ (tb_ f2 n) (k + 1)) 0 9 with
      | false =>
        rw [if_neg (by rw [e3]; decide)] at h0
        rw [if_neg (by decide), if_neg (by decide)]
        refine s_putfield 8 1 (.int) 28 rfl rfl fp_Silences_39 (i_a ha) (Nat.le_of_ble_eq_true rfl) ⟨rfl, rfl⟩ (fun h => absurd h (by decide)) ?_
        -- Silences_takeKind 28: end
        have e := i_p (N := N) (a := a) (un := un) (kd := -1) (fo := fo) (fi := fi) (ls := ls) (sz := sz) (k := k + 1) (un2 := un) (kd2 := -1) (fo2 := fo) (fi2 := fi) (ls2 := ls) ha
        unfold oP at e
        show ax_G g mt_Silences_takeKind (h + 5) 0 0 28 _ [] (ax_put (tN (iN N a un (-1) fo fi ls) sz (k + 1)) a (.inr (8, [.int un, .int (-1), .int fo, .int fi, .long ls, .ref (a + 1)]))) Q
        rw [e]
        refine s_aload_n 29 rfl rfl rfl ?_
        refine s_getfield 8 1 32 rfl rfl fl_Silences_39 (i_a ha) rfl ?_
        refine s_iconst (-1) 33 rfl rfl (by decide) ?_
        refine s_icmp_eq 40 36 rfl rfl (by decide) (fun c3 => ?_) (fun c3 => ?_)
        -- Silences_takeKind 36: branch 40 36
        · refine s_iconst 0 41 rfl rfl (by decide) ?_
          -- Silences_takeKind 41: ireturn
          exact s_ireturn rfl .boolean rfl rfl (h0 rfl _)
        · exact absurd rfl c3
      | true =>
        have k2 := (hT.b k1.1).2.2 (by rw [(nu_2 e3).1]; decide) (by rw [(nu_2 e3).1]; decide)
        rw [if_pos e3] at h1
        rw [if_pos rfl, if_pos rfl]
        refine s_putfield 8 1 (.int) 28 rfl rfl fp_Silences_39 (i_a ha) (Nat.le_of_ble_eq_true rfl) ⟨rfl, rfl⟩ (fun h => absurd h (by decide)) ?_
        -- Silences_takeKind 28: end
        have e := i_p (N := N) (a := a) (un := un) (kd := -1) (fo := fo) (fi := fi) (ls := ls) (sz := sz) (k := k + 1 + 1) (un2 := un) (kd2 := vt_ (tb_ f2 n) (ti_ (tb_ f2 n) (k + 1))) (fo2 := fo) (fi2 := fi) (ls2 := ls) ha
        unfold oP at e
        show ax_G g mt_Silences_takeKind (h + 5) 0 0 28 _ [] (ax_put (tN (iN N a un (-1) fo fi ls) sz (k + 1 + 1)) a (.inr (8, [.int un, .int (vt_ (tb_ f2 n) (ti_ (tb_ f2 n) (k + 1))), .int fo, .int fi, .long ls, .ref (a + 1)]))) Q
        rw [e]
        refine s_aload_n 29 rfl rfl rfl ?_
        refine s_getfield 8 1 32 rfl rfl fl_Silences_39 (i_a ha) rfl ?_
        refine s_iconst (-1) 33 rfl rfl (by decide) ?_
        refine s_icmp_eq 40 36 rfl rfl (by decide) (fun c4 => ?_) (fun c4 => ?_)
        -- Silences_takeKind 36: branch 40 36
        · exact absurd c4 (vt_m1 (by decide) e3)
        · refine s_iconst 1 37 rfl rfl (by decide) ?_
          refine s_goto 41 rfl (by decide) ?_
          -- Silences_takeKind 41: ireturn
          exact s_ireturn rfl .boolean rfl rfl (h1 rfl k2.1)
    · exact absurd c2 (by decide)
theorem m_Silences_takeUntil {x lo : Int32} (hx : (if x < 0 then 0 else x) = lo) (ha : 30 ≤ a) (hT : TK_ N f1 f2 n sz so sa se) (h22 : oC N 22 9 [.ref 23, .int (nI si), .ref 24]) (hk : k < sz) (h0 : (on2_ (tb_ f2 n) 7 lo 11 k).1 = false → ∀ un, Q (some (.int 0)) (tN (iN N a un kd fo fi ls) sz (on2_ (tb_ f2 n) 7 lo 11 k).2.1)) (h1 : (on2_ (tb_ f2 n) 7 lo 11 k).1 = true → (on2_ (tb_ f2 n) 7 lo 11 k).2.1 < sz → Q (some (.int 1)) (tN (iN N a (on2_ (tb_ f2 n) 7 lo 11 k).2.2 kd fo fi ls) sz (on2_ (tb_ f2 n) 7 lo 11 k).2.1)) : ax_G g mt_Silences_takeUntil (h + 5) 0 0 0 [.ref 22, .ref a, .int x] [] (tN (iN N a (-1) kd fo fi ls) sz k) Q := by
  have hl : 0 ≤ lo := by
    rw [← hx]
    by_cases z : x < 0
    · rw [if_pos z]; decide
    · rw [if_neg z]; exact Int32.not_lt.mp z
  unfold on2_ at h0 h1
  refine s_aload_n 1 rfl rfl rfl ?_
  refine s_getfield 9 2 4 rfl rfl fl_Silences_20 (i_22 ha h22) rfl ?_
  refine s_ldcS 7 6 rfl rfl rfl ?_
  refine c_callV1 (h+4) 9 rfl rfl mv_Silences_79 (by omega) (Nat.le_of_ble_eq_true rfl) (Nat.le_of_ble_eq_true rfl) ax_eq rfl rfl ?_
  -- Silences_takeUntil 9: call Tokens_takeWord
  refine m_Tokens_takeWord (h := h) (i := 7) (by decide) ax_eq (hT.i ha) hk ?_
  dsimp only [ax_rs]
  rw [i_t]
  cases e1 : iw_ (tb_ f2 n) (ti_ (tb_ f2 n) k) 7 with
  | false =>
    rw [if_neg (by rw [e1]; decide)] at h1
    rw [if_neg (by decide), if_neg (by decide)]
    refine s_if_ne 14 12 rfl rfl (by decide) (fun c1 => ?_) (fun c1 => ?_)
    -- Silences_takeUntil 12: branch 14 12
    · exact absurd rfl c1
    · refine s_iconst 1 13 rfl rfl (by decide) ?_
      -- Silences_takeUntil 13: ireturn
      exact s_ireturn rfl .boolean rfl rfl (h1 rfl hk)
  | true =>
    have k1 := (hT.b hk).2.2 (by rw [iw_1 e1]; decide) (by rw [iw_1 e1]; decide)
    rw [if_pos e1] at h0 h1
    rw [if_pos rfl, if_pos rfl]
    refine s_if_ne 14 12 rfl rfl (by decide) (fun c2 => ?_) (fun c2 => ?_)
    -- Silences_takeUntil 12: branch 14 12
    · refine s_aload_n 15 rfl rfl rfl ?_
      refine s_aload_n 16 rfl rfl rfl ?_
      refine s_getfield 9 2 19 rfl rfl fl_Silences_20 (i_22 ha h22) rfl ?_
      refine s_iload_n 20 rfl rfl rfl ?_
      refine s_iconst 0 21 rfl rfl (by decide) ?_
      refine s_mmax 24 rfl rfl mm_Silences_127 (by omega) (Nat.le_of_ble_eq_true rfl) ?_
      -- Silences_takeUntil 24: end
      rw [hx]
      refine s_bipush 11 26 rfl rfl (by decide) ?_
      refine c_callV2 (h+4) 29 rfl rfl mv_Silences_108 (by omega) (Nat.le_of_ble_eq_true rfl) (Nat.le_of_ble_eq_true rfl) ax_eq rfl rfl ?_
      -- Silences_takeUntil 29: call Tokens_takeNumber
      refine m_Tokens_takeNumber (h := h + 3) (lo := lo) (hi := 11) ax_eq (hT.i ha) k1.1 ?_
      dsimp only [ax_rs]
      rw [i_t]
      cases e3 : nu_ (tb_ f2 n) (ti_ (tb_ f2 n) (k + 1)) lo 11 with
      | false =>
        rw [if_neg (by rw [e3]; decide)] at h0
        rw [if_neg (by decide), if_neg (by decide)]
        refine s_putfield 8 0 (.int) 32 rfl rfl fp_Silences_130 (i_a ha) (Nat.le_of_ble_eq_true rfl) ⟨rfl, rfl⟩ (fun h => absurd h (by decide)) ?_
        -- Silences_takeUntil 32: end
        have e := i_p (N := N) (a := a) (un := -1) (kd := kd) (fo := fo) (fi := fi) (ls := ls) (sz := sz) (k := k + 1) (un2 := -1) (kd2 := kd) (fo2 := fo) (fi2 := fi) (ls2 := ls) ha
        unfold oP at e
        show ax_G g mt_Silences_takeUntil (h + 5) 0 0 32 _ [] (ax_put (tN (iN N a (-1) kd fo fi ls) sz (k + 1)) a (.inr (8, [.int (-1), .int kd, .int fo, .int fi, .long ls, .ref (a + 1)]))) Q
        rw [e]
        refine s_aload_n 33 rfl rfl rfl ?_
        refine s_getfield 8 0 36 rfl rfl fl_Silences_130 (i_a ha) rfl ?_
        refine s_iconst (-1) 37 rfl rfl (by decide) ?_
        refine s_icmp_eq 44 40 rfl rfl (by decide) (fun c3 => ?_) (fun c3 => ?_)
        -- Silences_takeUntil 40: branch 44 40
        · refine s_iconst 0 45 rfl rfl (by decide) ?_
          -- Silences_takeUntil 45: ireturn
          exact s_ireturn rfl .boolean rfl rfl (h0 rfl _)
        · exact absurd rfl c3
      | true =>
        have k2 := (hT.b k1.1).2.2 (by rw [(nu_2 e3).1]; decide) (by rw [(nu_2 e3).1]; decide)
        rw [if_pos e3] at h1
        rw [if_pos rfl, if_pos rfl]
        refine s_putfield 8 0 (.int) 32 rfl rfl fp_Silences_130 (i_a ha) (Nat.le_of_ble_eq_true rfl) ⟨rfl, rfl⟩ (fun h => absurd h (by decide)) ?_
        -- Silences_takeUntil 32: end
        have e := i_p (N := N) (a := a) (un := -1) (kd := kd) (fo := fo) (fi := fi) (ls := ls) (sz := sz) (k := k + 1 + 1) (un2 := vt_ (tb_ f2 n) (ti_ (tb_ f2 n) (k + 1))) (kd2 := kd) (fo2 := fo) (fi2 := fi) (ls2 := ls) ha
        unfold oP at e
        show ax_G g mt_Silences_takeUntil (h + 5) 0 0 32 _ [] (ax_put (tN (iN N a (-1) kd fo fi ls) sz (k + 1 + 1)) a (.inr (8, [.int (vt_ (tb_ f2 n) (ti_ (tb_ f2 n) (k + 1))), .int kd, .int fo, .int fi, .long ls, .ref (a + 1)]))) Q
        rw [e]
        refine s_aload_n 33 rfl rfl rfl ?_
        refine s_getfield 8 0 36 rfl rfl fl_Silences_130 (i_a ha) rfl ?_
        refine s_iconst (-1) 37 rfl rfl (by decide) ?_
        refine s_icmp_eq 44 40 rfl rfl (by decide) (fun c4 => ?_) (fun c4 => ?_)
        -- Silences_takeUntil 40: branch 44 40
        · exact absurd c4 (vt_m1 hl e3)
        · refine s_iconst 1 41 rfl rfl (by decide) ?_
          refine s_goto 45 rfl (by decide) ?_
          -- Silences_takeUntil 45: ireturn
          exact s_ireturn rfl .boolean rfl rfl (h1 rfl k2.1)
    · exact absurd c2 (by decide)
end ONE2
