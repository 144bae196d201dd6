/-! one silence: the class, the whole of it -/
theorem tk_3 {f : Nat → Int32} {n p : Nat} (hp : p ≤ n) (h : (tk_ (tb_ f n) p).1 = 3) : 2 ≤ (tk_ (tb_ f n) p).2.2 - (tk_ (tb_ f n) p).2.1 ∧ (tk_ (tb_ f n) p).2.2 - (tk_ (tb_ f n) p).2.1 ≤ 22 := by
  have a := ru_b (f := f) (n := n) (lo := 32) (hi := 32) (by decide) 200 p hp
  unfold tk_ at h ⊢
  generalize ru_ (tb_ f n) 32 32 200 p = q at a h
  by_cases c1 : 97 ≤ tb_ f n q ∧ tb_ f n q ≤ 122
  · rw [if_pos c1] at h
    exact absurd (show (1 : Nat) = 3 from h) (by decide)
  · rw [if_neg c1] at h ⊢
    by_cases c2 : 48 ≤ tb_ f n q ∧ tb_ f n q ≤ 57
    · rw [if_pos c2] at h
      exfalso
      have h : (if 6 < ru_ (tb_ f n) 48 57 200 q - q then 5 else 2) = 3 := h
      split at h <;> cases h
    · rw [if_neg c2] at h ⊢
      by_cases c3 : tb_ f n q = -1
      · rw [if_pos c3] at h
        exact absurd (show (0 : Nat) = 3 from h) (by decide)
      · rw [if_neg c3] at h ⊢
        by_cases c4 : tb_ f n q = 59
        · rw [if_pos c4] at h
          exact absurd (show (4 : Nat) = 3 from h) (by decide)
        · rw [if_neg c4] at h ⊢
          by_cases c5 : tb_ f n q = 39
          · rw [if_pos c5]
            have qn := tb_ge (f := f) (n := n) (lo := 39) (by decide) (by rw [c5]; decide : (39 : Int32) ≤ tb_ f n q)
            have b := qr_b (f := f) (n := n) 20 (q + 1) (by omega)
            show 2 ≤ qr_ (tb_ f n) 20 (q + 1) + 1 - q ∧ qr_ (tb_ f n) 20 (q + 1) + 1 - q ≤ 22
            omega
          · rw [if_neg c5] at h
            exact absurd (show (5 : Nat) = 3 from h) (by decide)
/-- a silence from token k on -/
def o1_ (T : Nat → Int32) (m lo : Int32) (k : Nat) : Bool × Nat × Int32 × Int32 × Int32 × Int32 × Int64 × Nat × Nat :=
  if iw_ T (ti_ T k) 0 = true then
    if (wh_ T m (k + 1)).1 = true then
      if (on2_ T 6 0 9 (wh_ T m (k + 1)).2.1).1 = true then
        if (on2_ T 7 lo 11 (on2_ T 6 0 9 (wh_ T m (k + 1)).2.1).2.1).1 = true then
          if (be2_ T (on2_ T 7 lo 11 (on2_ T 6 0 9 (wh_ T m (k + 1)).2.1).2.1).2.1).1 = true then
            if (ti_ T (be2_ T (on2_ T 7 lo 11 (on2_ T 6 0 9 (wh_ T m (k + 1)).2.1).2.1).2.1).2.1).1 = 4 then
              (true, (be2_ T (on2_ T 7 lo 11 (on2_ T 6 0 9 (wh_ T m (k + 1)).2.1).2.1).2.1).2.1 + 1, (on2_ T 7 lo 11 (on2_ T 6 0 9 (wh_ T m (k + 1)).2.1).2.1).2.2, (on2_ T 6 0 9 (wh_ T m (k + 1)).2.1).2.2, (wh_ T m (k + 1)).2.2.1, (wh_ T m (k + 1)).2.2.2.1, (wh_ T m (k + 1)).2.2.2.2, (be2_ T (on2_ T 7 lo 11 (on2_ T 6 0 9 (wh_ T m (k + 1)).2.1).2.1).2.1).2.2.1, (be2_ T (on2_ T 7 lo 11 (on2_ T 6 0 9 (wh_ T m (k + 1)).2.1).2.1).2.1).2.2.2)
            else (false, (be2_ T (on2_ T 7 lo 11 (on2_ T 6 0 9 (wh_ T m (k + 1)).2.1).2.1).2.1).2.1, 0, 0, 0, 0, 0, 0, 0)
          else (false, (be2_ T (on2_ T 7 lo 11 (on2_ T 6 0 9 (wh_ T m (k + 1)).2.1).2.1).2.1).2.1, 0, 0, 0, 0, 0, 0, 0)
        else (false, (on2_ T 7 lo 11 (on2_ T 6 0 9 (wh_ T m (k + 1)).2.1).2.1).2.1, 0, 0, 0, 0, 0, 0, 0)
      else (false, (on2_ T 6 0 9 (wh_ T m (k + 1)).2.1).2.1, 0, 0, 0, 0, 0, 0, 0)
    else (false, (wh_ T m (k + 1)).2.1, 0, 0, 0, 0, 0, 0, 0)
  else (false, k, 0, 0, 0, 0, 0, 0, 0)
section ONE3
variable {g : ax_Y} {N : ax_M} {Q : Option Value → ax_M → Prop} {h n sz k a si : Nat} {f1 f2 so sa se : Nat → Int32} {un kd fo fi : Int32} {ls : Int64}
theorem TK_.q (hT : TK_ N f1 f2 n sz so sa se) (hk : k < sz) (h : (ti_ (tb_ f2 n) k).1 = 3) : 2 ≤ (ti_ (tb_ f2 n) k).2.2 - (ti_ (tb_ f2 n) k).2.1 ∧ (ti_ (tb_ f2 n) k).2.2 - (ti_ (tb_ f2 n) k).2.1 ≤ 22 := by
  cases k with
  | zero => exact tk_3 (Nat.zero_le n) h
  | succ k =>
    obtain ⟨a1, a2, a3, a4, a5, a6, a7, a8, a9, a10, a11⟩ := id hT
    have := (hT.b (k := k) (by omega)).2.2 (a10 k hk).1 (a10 k hk).2
    exact tk_3 this.2.2 h
theorem i_w {F : Nat → Int32} {r k2 : Nat} (ha : 30 ≤ a) : tN (rw_m (tN (iN N a un kd fo fi ls) sz k) (a + 1) (a + 2) 20 F r) sz k2 = tN (iN (rw_m N (a + 1) (a + 2) 20 F r) a un kd fo fi ls) sz k2 := by
  unfold tN iN rw_m oP
  rw [ax_px (a := 24) (b := a + 2) _ _ (by omega), ax_px (a := 24) (b := a + 1) _ _ (by omega), ax_pp, ax_px (a := a) (b := a + 2) _ _ (by omega), ax_px (a := a) (b := a + 1) _ _ (by omega)]
theorem m_Silences_takeReason {f : Nat → Int32} (ha : 30 ≤ a) (hT : TK_ N f1 f2 n sz so sa se) (h22 : oC N 22 9 [.ref 23, .int (nI si), .ref 24]) (hr : oC N (a + 1) 7 [.ref (a + 2), .int (nI 0)]) (hrb : bA N (a + 2) 20 f) (hk : k < sz) (h0 : (be2_ (tb_ f2 n) k).1 = false → Q (some (.int 0)) (tN (iN N a un kd fo fi ls) sz (be2_ (tb_ f2 n) k).2.1)) (h1 : (be2_ (tb_ f2 n) k).1 = true → (be2_ (tb_ f2 n) k).2.1 < sz → (be2_ (tb_ f2 n) k).2.2.2 ≤ 20 → ((be2_ (tb_ f2 n) k).2.2.2 = 0 ∨ (be2_ (tb_ f2 n) k).2.2.1 + (be2_ (tb_ f2 n) k).2.2.2 ≤ n) → Q (some (.int 1)) (tN (iN (rw_m N (a + 1) (a + 2) 20 (rw_ap f 0 f1 (be2_ (tb_ f2 n) k).2.2.1 (be2_ (tb_ f2 n) k).2.2.2) (be2_ (tb_ f2 n) k).2.2.2) a un kd fo fi ls) sz (be2_ (tb_ f2 n) k).2.1)) : ax_G g mt_Silences_takeReason (h + 5) 0 0 0 [.ref 22, .ref a] [] (tN (iN N a un kd fo fi ls) sz k) Q := by
  unfold be2_ at h0 h1
  refine s_aload_n 1 rfl rfl rfl ?_
  refine s_getfield 9 2 4 rfl rfl fl_Silences_20 (i_22 ha h22) rfl ?_
  refine s_ldcS 8 6 rfl rfl rfl ?_
  refine c_callV1 (h+4) 9 rfl rfl mv_Silences_79 (by omega) (Nat.le_of_ble_eq_true rfl) (Nat.le_of_ble_eq_true rfl) ax_eq rfl rfl ?_
  -- Silences_takeReason 9: call Tokens_takeWord
  refine m_Tokens_takeWord (h := h) (i := 8) (by decide) ax_eq (hT.i ha) hk ?_
  dsimp only [ax_rs]
  rw [i_t]
  cases e1 : iw_ (tb_ f2 n) (ti_ (tb_ f2 n) k) 8 with
  | false =>
    rw [if_neg (by rw [e1]; decide)] at h1
    rw [if_neg (by decide), if_neg (by decide)]
    have h1 := h1 rfl hk (show (0 : Nat) ≤ 20 by decide) (Or.inl rfl)
    rw [show (true, k, 0, 0).2.2.1 = 0 from rfl, show (true, k, 0, 0).2.2.2 = 0 from rfl, rw_ap_0, rw_m_id hr hrb] at h1
    refine s_if_eq 26 12 rfl rfl (by decide) (fun c1 => ?_) (fun c1 => ?_)
    -- Silences_takeReason 12: branch 26 12
    · refine s_iconst 1 27 rfl rfl (by decide) ?_
      refine s_goto 31 rfl (by decide) ?_
      -- Silences_takeReason 31: ireturn
      exact s_ireturn rfl .boolean rfl rfl (h1)
    · exact absurd rfl c1
  | true =>
    have k1 := (hT.b hk).2.2 (by rw [iw_1 e1]; decide) (by rw [iw_1 e1]; decide)
    rw [if_pos e1] at h0 h1
    rw [if_pos rfl, if_pos rfl]
    refine s_if_eq 26 12 rfl rfl (by decide) (fun c2 => ?_) (fun c2 => ?_)
    -- Silences_takeReason 12: branch 26 12
    · exact absurd c2 (by decide)
    · refine s_aload_n 13 rfl rfl rfl ?_
      refine s_getfield 9 2 16 rfl rfl fl_Silences_20 (i_22 ha h22) rfl ?_
      refine s_aload_n 17 rfl rfl rfl ?_
      refine s_getfield 8 5 20 rfl rfl fl_Silences_134 (i_a ha) rfl ?_
      refine c_callV1 (h+4) 23 rfl rfl mv_Silences_138 (by omega) (Nat.le_of_ble_eq_true rfl) (Nat.le_of_ble_eq_true rfl) ax_eq rfl rfl ?_
      -- Silences_takeReason 23: call Tokens_takeQuoted
      have y1 : oC (tN (iN N a un kd fo fi ls) sz (k + 1)) (a + 1) 7 [.ref (a + 2), .int (nI 0)] := ax_ne (by omega) (ax_ne (by omega) hr)
      have y2 : bA (tN (iN N a un kd fo fi ls) sz (k + 1)) (a + 2) 20 f := ax_ne (by omega) (ax_ne (by omega) hrb)
      refine m_Tokens_takeQuoted (h := h + 2) (r := 0) ha y1 y2 ax_eq (hT.i ha) k1.1 (fun e => ⟨(hT.q k1.1 e).2, (hT.q k1.1 e).1⟩) (fun e => ?_) (fun e => ?_)
      · rw [if_neg e] at h0
        dsimp only [ax_rs]
        refine s_if_eq 30 26 rfl rfl (by decide) (fun c3 => ?_) (fun c3 => ?_)
        -- Silences_takeReason 26: branch 30 26
        · refine s_iconst 0 31 rfl rfl (by decide) ?_
          -- Silences_takeReason 31: ireturn
          exact s_ireturn rfl .boolean rfl rfl (h0 rfl)
        · exact absurd rfl c3
      · have k2 := (hT.b k1.1).2.2 (by rw [e]; decide) (by rw [e]; decide)
        have l := hT.q k1.1 e
        rw [if_pos e] at h1
        have h1 := h1 rfl k2.1 (by show _ - _ - 2 ≤ 20; omega) (Or.inr (by show _ + 1 + (_ - _ - 2) ≤ n; omega))
        dsimp only [ax_rs]
        rw [i_w ha]
        refine s_if_eq 30 26 rfl rfl (by decide) (fun c4 => ?_) (fun c4 => ?_)
        -- Silences_takeReason 26: branch 30 26
        · exact absurd c4 (by decide)
        · refine s_iconst 1 27 rfl rfl (by decide) ?_
          refine s_goto 31 rfl (by decide) ?_
          -- Silences_takeReason 31: ireturn
          exact s_ireturn rfl .boolean rfl rfl (h1)
theorem TK_.w (hT : TK_ N f1 f2 n sz so sa se) (hk : k < sz) {i : Nat} (h : iw_ (tb_ f2 n) (ti_ (tb_ f2 n) k) i = true) : k + 1 < sz := ((hT.b hk).2.2 (by rw [iw_1 h]; decide) (by rw [iw_1 h]; decide)).1
theorem TK_.u (hT : TK_ N f1 f2 n sz so sa se) (hk : k < sz) {lo hi : Int32} (h : nu_ (tb_ f2 n) (ti_ (tb_ f2 n) k) lo hi = true) : k + 1 < sz := ((hT.b hk).2.2 (by rw [(nu_2 h).1]; decide) (by rw [(nu_2 h).1]; decide)).1
theorem wh_sz {m : Int32} (hT : TK_ N f1 f2 n sz so sa se) (hk : k < sz) : (wh_ (tb_ f2 n) m k).2.1 < sz := by
  unfold wh_
  by_cases e1 : iw_ (tb_ f2 n) (ti_ (tb_ f2 n) k) 1 = true
  · rw [if_pos e1]
    exact hT.w hk e1
  · rw [if_neg e1]
    by_cases e2 : iw_ (tb_ f2 n) (ti_ (tb_ f2 n) k) 2 = true
    · rw [if_pos e2]
      have k1 := hT.w hk e2
      by_cases e3 : nu_ (tb_ f2 n) (ti_ (tb_ f2 n) (k + 1)) 0 5 = true
      · rw [if_pos e3]
        exact hT.u k1 e3
      · rw [if_neg e3]
        exact k1
    · rw [if_neg e2]
      by_cases e4 : iw_ (tb_ f2 n) (ti_ (tb_ f2 n) k) 3 = true
      · rw [if_pos e4]
        have k1 := hT.w hk e4
        by_cases e3 : nu_ (tb_ f2 n) (ti_ (tb_ f2 n) (k + 1)) 0 m = true
        · rw [if_pos e3]
          exact hT.u k1 e3
        · rw [if_neg e3]
          exact k1
      · rw [if_neg e4]
        by_cases e5 : iw_ (tb_ f2 n) (ti_ (tb_ f2 n) k) 4 = true
        · rw [if_pos e5]
          have k1 := hT.w hk e5
          by_cases e3 : nu_ (tb_ f2 n) (ti_ (tb_ f2 n) (k + 1)) 0 m = true
          · rw [if_pos e3]
            have k2 := hT.u k1 e3
            by_cases e6 : iw_ (tb_ f2 n) (ti_ (tb_ f2 n) (k + 2)) 5 = true
            · rw [if_pos e6]
              have k3 := hT.w k2 e6
              by_cases e7 : nu_ (tb_ f2 n) (ti_ (tb_ f2 n) (k + 3)) (vt_ (tb_ f2 n) (ti_ (tb_ f2 n) (k + 1))) m = true
              · rw [if_pos e7]
                exact hT.u k3 e7
              · rw [if_neg e7]
                exact k3
            · rw [if_neg e6]
              exact k2
          · rw [if_neg e3]
            exact k1
        · rw [if_neg e5]
          exact hk
theorem on2_sz {i : Nat} {lo hi : Int32} (hT : TK_ N f1 f2 n sz so sa se) (hk : k < sz) : (on2_ (tb_ f2 n) i lo hi k).2.1 < sz := by
  unfold on2_
  by_cases e2 : iw_ (tb_ f2 n) (ti_ (tb_ f2 n) k) i = true
  · rw [if_pos e2]
    have k1 := hT.w hk e2
    by_cases e3 : nu_ (tb_ f2 n) (ti_ (tb_ f2 n) (k + 1)) lo hi = true
    · rw [if_pos e3]
      exact hT.u k1 e3
    · rw [if_neg e3]
      exact k1
  · rw [if_neg e2]
    exact hk
theorem be2_sz (hT : TK_ N f1 f2 n sz so sa se) (hk : k < sz) : (be2_ (tb_ f2 n) k).2.1 < sz := by
  unfold be2_
  by_cases e2 : iw_ (tb_ f2 n) (ti_ (tb_ f2 n) k) 8 = true
  · rw [if_pos e2]
    have k1 := hT.w hk e2
    by_cases e3 : (ti_ (tb_ f2 n) (k + 1)).1 = 3
    · rw [if_pos e3]
      exact ((hT.b k1).2.2 (by rw [e3]; decide) (by rw [e3]; decide)).1
    · rw [if_neg e3]
      exact k1
  · rw [if_neg e2]
    exact hk
/-- a silence in cells a, a + 1, a + 2 -/
def sc_3 (N : ax_M) (a : Nat) (un kd fo fi : Int32) (ls : Int64) (r : Nat) (f : Nat → Int32) : Prop := oC N a 8 [.int un, .int kd, .int fo, .int fi, .long ls, .ref (a + 1)] ∧ oC N (a + 1) 7 [.ref (a + 2), .int (nI r)] ∧ bA N (a + 2) 20 f ∧ r ≤ 20
theorem m_Silence_reset {r : Nat} {f : Nat → Int32} (ha : 30 ≤ a) (hs : sc_3 N a un kd fo fi ls r f) (hq : Q none (tN (iN (oP N (a + 1) 7 [.ref (a + 2), .int (nI 0)]) a (-1) (-1) 0 (-1) 0) sz k)) : ax_G g mt_Silence_reset (h + 1) 0 0 0 [.ref a] [] (tN N sz k) Q := by
  obtain ⟨s1, s2, s3, s4⟩ := hs
  have h_this : oC (tN N sz k) a 8 [.int un, .int kd, .int fo, .int fi, .long ls, .ref (a + 1)] := ax_ne (by omega) s1
  have h_words : oC (tN N sz k) (a + 1) 7 [.ref (a + 2), .int (nI r)] := ax_ne (by omega) s2
  have n_words_this : a + 1 ≠ a := by omega
  refine s_aload_n 1 rfl rfl rfl ?_
  refine s_iconst (-1) 2 rfl rfl (by decide) ?_
  refine s_putfield 8 0 (.int) 5 rfl rfl fp_Silence_20 h_this (Nat.le_of_ble_eq_true rfl) ⟨rfl, rfl⟩ (fun h => absurd h (by decide)) ?_
  refine s_aload_n 6 rfl rfl rfl ?_
  refine s_iconst (-1) 7 rfl rfl (by decide) ?_
  refine s_putfield 8 1 (.int) 10 rfl rfl fp_Silence_24 ax_eq (Nat.le_of_ble_eq_true rfl) ⟨rfl, rfl⟩ (fun h => absurd h (by decide)) ?_
  refine s_aload_n 11 rfl rfl rfl ?_
  refine s_iconst 0 12 rfl rfl (by decide) ?_
  refine s_putfield 8 2 (.int) 15 rfl rfl fp_Silence_27 ax_eq (Nat.le_of_ble_eq_true rfl) ⟨rfl, rfl⟩ (fun h => absurd h (by decide)) ?_
  refine s_aload_n 16 rfl rfl rfl ?_
  refine s_iconst (-1) 17 rfl rfl (by decide) ?_
  refine s_putfield 8 3 (.int) 20 rfl rfl fp_Silence_30 ax_eq (Nat.le_of_ble_eq_true rfl) ⟨rfl, rfl⟩ (fun h => absurd h (by decide)) ?_
  refine s_aload_n 21 rfl rfl rfl ?_
  refine s_lconst 0 22 rfl rfl (by decide) ?_
  refine s_putfield 8 4 (.long) 25 rfl rfl fp_Silence_33 ax_eq (Nat.le_of_ble_eq_true rfl) ⟨rfl, rfl⟩ (fun h => absurd h (by decide)) ?_
  refine s_aload_n 26 rfl rfl rfl ?_
  -- Silence_reset 26: end
  rw [ax_pp, ax_pp, ax_pp, ax_pp]
  refine s_getfield 8 5 29 rfl rfl fl_Silence_14 ax_eq rfl ?_
  refine c_callV0 h 32 rfl rfl mv_Silence_37 (by omega) (Nat.le_of_ble_eq_true rfl) (Nat.le_of_ble_eq_true rfl) (ax_ne n_words_this h_words) rfl rfl ?_
  -- Silence_reset 32: call Row_clear
  refine m_Row_clear (a := a + 1) (b := a + 2) (n := r) (ax_ne n_words_this h_words) ?_
  dsimp only [ax_rs]
  have e : ax_put (ax_put (tN N sz k) a (.inr (8, [.int (-1), .int (-1), .int 0, .int (-1), .long 0, .ref (a + 1)]))) (a + 1) (.inr (7, [.ref (a + 2), .int (nI 0)])) = tN (iN (oP N (a + 1) 7 [.ref (a + 2), .int (nI 0)]) a (-1) (-1) 0 (-1) 0) sz k := by
    unfold tN iN oP
    rw [ax_px (a := 24) (b := a) _ _ (by omega), ax_px (a := 24) (b := a + 1) _ _ (by omega), ax_px (a := a) (b := a + 1) _ _ (by omega)]
  rw [← e] at hq
  exact s_return rfl rfl (hq)
theorem m_Silences_takeOne {ln r : Nat} {f : Nat → Int32} {x lo : Int32} (hx : (if x < 0 then 0 else x) = lo) (ha : 30 ≤ a) (ha2 : a ≤ 66) (hln : ln ≤ 40) (hT : TK_ N f1 f2 n sz so sa se) (h22 : oC N 22 9 [.ref 23, .int (nI si), .ref 24]) (hs : sc_3 N a un kd fo fi ls r f) (hk : k < sz) (h0 : (o1_ (tb_ f2 n) (nI ln - 1) lo k).1 = false → ∀ N2 un kd fo fi ls r f, fr_ N N2 (fun j => a ≤ j ∧ j ≤ a + 2) → sc_3 N2 a un kd fo fi ls r f → (o1_ (tb_ f2 n) (nI ln - 1) lo k).2.1 < sz → Q (some (.int 0)) (tN N2 sz (o1_ (tb_ f2 n) (nI ln - 1) lo k).2.1)) (h1 : (o1_ (tb_ f2 n) (nI ln - 1) lo k).1 = true → ∀ N2 f, fr_ N N2 (fun j => a ≤ j ∧ j ≤ a + 2) → sc_3 N2 a (o1_ (tb_ f2 n) (nI ln - 1) lo k).2.2.1 (o1_ (tb_ f2 n) (nI ln - 1) lo k).2.2.2.1 (o1_ (tb_ f2 n) (nI ln - 1) lo k).2.2.2.2.1 (o1_ (tb_ f2 n) (nI ln - 1) lo k).2.2.2.2.2.1 (o1_ (tb_ f2 n) (nI ln - 1) lo k).2.2.2.2.2.2.1 (o1_ (tb_ f2 n) (nI ln - 1) lo k).2.2.2.2.2.2.2.2 f → (∀ j, j < (o1_ (tb_ f2 n) (nI ln - 1) lo k).2.2.2.2.2.2.2.2 → f j &&& 255 = f2 ((o1_ (tb_ f2 n) (nI ln - 1) lo k).2.2.2.2.2.2.2.1 + j)) → (o1_ (tb_ f2 n) (nI ln - 1) lo k).2.1 < sz → Q (some (.int 1)) (tN N2 sz (o1_ (tb_ f2 n) (nI ln - 1) lo k).2.1)) : ax_G g mt_Silences_takeOne (h + 7) 0 0 0 [.ref 22, .ref a, .int (nI ln), .int x] [] (tN N sz k) Q := by
  have hs' := hs
  obtain ⟨s1, s2, s3, s4⟩ := hs
  generalize hN0 : oP N (a + 1) 7 [.ref (a + 2), .int (nI 0)] = N0
  have fr0 : fr_ N N0 (fun j => a ≤ j ∧ j ≤ a + 2) := by rw [← hN0]; exact fr_.r.put (by omega)
  have hT0 : TK_ N0 f1 f2 n sz so sa se := hT.mv (fun j hj => fr0 j (by omega))
  have h220 : oC N0 22 9 [.ref 23, .int (nI si), .ref 24] := (fr0 22 (by omega)).trans h22
  have r0 : oC N0 (a + 1) 7 [.ref (a + 2), .int (nI 0)] := by rw [← hN0]; exact ax_eq
  have rb0 : bA N0 (a + 2) 20 f := by rw [← hN0]; exact ax_ne (by omega) s3
  have z0 : ∀ un kd fo fi ls, fr_ N (iN N0 a un kd fo fi ls) (fun j => a ≤ j ∧ j ≤ a + 2) ∧ sc_3 (iN N0 a un kd fo fi ls) a un kd fo fi ls 0 f := fun un kd fo fi ls => ⟨fr0.put (by omega), ax_eq, ax_ne (by omega) r0, ax_ne (by omega) rb0, by omega⟩
  unfold o1_ at h0 h1
  have fail : ∀ {W : ax_M}, Q (some (.int 0)) W → ax_G g mt_Silences_takeOne (h + 7) 0 0 64 [.ref 22, .ref a, .int (nI ln), .int x] [] W Q := by
    intro W q
    refine s_iconst 0 65 rfl rfl (by decide) ?_
    -- Silences_takeOne 65: ireturn
    exact s_ireturn rfl .boolean rfl rfl (q)
  have y22 : oC (tN N sz k) 22 9 [.ref 23, .int (nI si), .ref 24] := ax_ne (by omega) h22
  have ya : oC (tN N sz k) a 8 [.int un, .int kd, .int fo, .int fi, .long ls, .ref (a + 1)] := ax_ne (by omega) s1
  refine s_aload_n 1 rfl rfl rfl ?_
  refine c_callV0 (h+6) 4 rfl rfl mv_Silences_74 (by omega) (Nat.le_of_ble_eq_true rfl) (Nat.le_of_ble_eq_true rfl) ya rfl rfl ?_
  -- Silences_takeOne 4: call Silence_reset
  refine m_Silence_reset (h := h + 5) ha hs' ?_
  dsimp only [ax_rs]
  rw [hN0]
  refine s_aload_n 5 rfl rfl rfl ?_
  refine s_getfield 9 2 8 rfl rfl fl_Silences_20 (i_22 ha h220) rfl ?_
  refine s_ldcS 0 10 rfl rfl rfl ?_
  refine c_callV1 (h+6) 13 rfl rfl mv_Silences_79 (by omega) (Nat.le_of_ble_eq_true rfl) (Nat.le_of_ble_eq_true rfl) ax_eq rfl rfl ?_
  -- Silences_takeOne 13: call Tokens_takeWord
  refine m_Tokens_takeWord (h := h + 2) (i := 0) (by decide) ax_eq (hT0.i ha) hk ?_
  dsimp only [ax_rs]
  rw [i_t]
  cases e1 : iw_ (tb_ f2 n) (ti_ (tb_ f2 n) k) 0 with
  | false =>
    rw [if_neg (by rw [e1]; decide)] at h0
    rw [if_neg (by decide), if_neg (by decide)]
    refine s_if_eq 64 16 rfl rfl (by decide) (fun c1 => ?_) (fun c1 => ?_)
    -- Silences_takeOne 16: branch 64 16
    · exact fail (h0 rfl _ _ _ _ _ _ _ _ (z0 _ _ _ _ _).1 (z0 _ _ _ _ _).2 hk)
    · exact absurd rfl c1
  | true =>
    have k1 := (hT.b hk).2.2 (by rw [iw_1 e1]; decide) (by rw [iw_1 e1]; decide)
    rw [if_pos e1] at h0 h1
    rw [if_pos rfl, if_pos rfl]
    refine s_if_eq 64 16 rfl rfl (by decide) (fun c2 => ?_) (fun c2 => ?_)
    -- Silences_takeOne 16: branch 64 16
    · exact absurd c2 (by decide)
    · refine s_aload_n 17 rfl rfl rfl ?_
      refine s_aload_n 18 rfl rfl rfl ?_
      refine s_iload_n 19 rfl rfl rfl ?_
      refine c_callV2 (h+6) 22 rfl rfl mv_Silences_83 (by omega) (Nat.le_of_ble_eq_true rfl) (Nat.le_of_ble_eq_true rfl) (i_22 ha h220) rfl rfl ?_
      -- Silences_takeOne 22: call Silences_takeWhere
      refine m_Silences_takeWhere (h := h) ha hln hT0 h220 k1.1 (fun e2 fo fi ls => ?_) (fun e2 kw => ?_)
      · rw [if_neg (by rw [e2]; decide)] at h0
        dsimp only [ax_rs]
        refine s_if_eq 64 25 rfl rfl (by decide) (fun c3 => ?_) (fun c3 => ?_)
        -- Silences_takeOne 25: branch 64 25
        · refine fail (h0 rfl _ _ _ _ _ _ _ _ (z0 _ _ _ _ _).1 (z0 _ _ _ _ _).2 ?_)
          exact wh_sz hT k1.1
        · exact absurd rfl c3
      · rw [if_pos e2] at h0 h1
        dsimp only [ax_rs]
        generalize wh_ (tb_ f2 n) (nI ln - 1) (k + 1) = w at h0 h1 kw ⊢
        refine s_if_eq 64 25 rfl rfl (by decide) (fun c4 => ?_) (fun c4 => ?_)
        -- Silences_takeOne 25: branch 64 25
        · exact absurd c4 (by decide)
        · refine s_aload_n 26 rfl rfl rfl ?_
          refine s_aload_n 27 rfl rfl rfl ?_
          refine c_callV1 (h+6) 30 rfl rfl mv_Silences_87 (by omega) (Nat.le_of_ble_eq_true rfl) (Nat.le_of_ble_eq_true rfl) (i_22 ha h220) rfl rfl ?_
          -- Silences_takeOne 30: call Silences_takeKind
          refine m_Silences_takeKind (h := h + 1) ha hT0 h220 kw (fun e3 kd => ?_) (fun e3 kc => ?_)
          · rw [if_neg (by rw [e3]; decide)] at h0
            dsimp only [ax_rs]
            refine s_if_eq 64 33 rfl rfl (by decide) (fun c5 => ?_) (fun c5 => ?_)
            -- Silences_takeOne 33: branch 64 33
            · refine fail (h0 rfl _ _ _ _ _ _ _ _ (z0 _ _ _ _ _).1 (z0 _ _ _ _ _).2 ?_)
              exact on2_sz hT kw
            · exact absurd rfl c5
          · rw [if_pos e3] at h0 h1
            dsimp only [ax_rs]
            generalize on2_ (tb_ f2 n) 6 0 9 w.2.1 = c at h0 h1 kc ⊢
            refine s_if_eq 64 33 rfl rfl (by decide) (fun c6 => ?_) (fun c6 => ?_)
            -- Silences_takeOne 33: branch 64 33
            · exact absurd c6 (by decide)
            · refine s_aload_n 34 rfl rfl rfl ?_
              refine s_aload_n 35 rfl rfl rfl ?_
              refine s_iload_n 36 rfl rfl rfl ?_
              refine c_callV2 (h+6) 39 rfl rfl mv_Silences_91 (by omega) (Nat.le_of_ble_eq_true rfl) (Nat.le_of_ble_eq_true rfl) (i_22 ha h220) rfl rfl ?_
              -- Silences_takeOne 39: call Silences_takeUntil
              refine m_Silences_takeUntil (h := h + 1) hx ha hT0 h220 kc (fun e4 un => ?_) (fun e4 ku => ?_)
              · rw [if_neg (by rw [e4]; decide)] at h0
                dsimp only [ax_rs]
                refine s_if_eq 64 42 rfl rfl (by decide) (fun c7 => ?_) (fun c7 => ?_)
                -- Silences_takeOne 42: branch 64 42
                · refine fail (h0 rfl _ _ _ _ _ _ _ _ (z0 _ _ _ _ _).1 (z0 _ _ _ _ _).2 ?_)
                  exact on2_sz hT kc
                · exact absurd rfl c7
              · rw [if_pos e4] at h0 h1
                dsimp only [ax_rs]
                generalize on2_ (tb_ f2 n) 7 lo 11 c.2.1 = u at h0 h1 ku ⊢
                refine s_if_eq 64 42 rfl rfl (by decide) (fun c8 => ?_) (fun c8 => ?_)
                -- Silences_takeOne 42: branch 64 42
                · exact absurd c8 (by decide)
                · refine s_aload_n 43 rfl rfl rfl ?_
                  refine s_aload_n 44 rfl rfl rfl ?_
                  refine c_callV1 (h+6) 47 rfl rfl mv_Silences_94 (by omega) (Nat.le_of_ble_eq_true rfl) (Nat.le_of_ble_eq_true rfl) (i_22 ha h220) rfl rfl ?_
                  -- Silences_takeOne 47: call Silences_takeReason
                  refine m_Silences_takeReason (h := h + 1) ha hT0 h220 r0 rb0 ku (fun e5 => ?_) (fun e5 kb l20 ln2 => ?_)
                  · rw [if_neg (by rw [e5]; decide)] at h0
                    dsimp only [ax_rs]
                    refine s_if_eq 64 50 rfl rfl (by decide) (fun c9 => ?_) (fun c9 => ?_)
                    -- Silences_takeOne 50: branch 64 50
                    · refine fail (h0 rfl _ _ _ _ _ _ _ _ (z0 _ _ _ _ _).1 (z0 _ _ _ _ _).2 ?_)
                      exact be2_sz hT ku
                    · exact absurd rfl c9
                  · rw [if_pos e5] at h0 h1
                    dsimp only [ax_rs]
                    generalize be2_ (tb_ f2 n) u.2.1 = b at h0 h1 kb l20 ln2 ⊢
                    generalize hF : rw_ap f 0 f1 b.2.2.1 b.2.2.2 = F
                    generalize hN1 : rw_m N0 (a + 1) (a + 2) 20 F b.2.2.2 = N1
                    have fr1 : fr_ N N1 (fun j => a ≤ j ∧ j ≤ a + 2) := by rw [← hN1]; unfold rw_m; exact (fr0.put (by omega)).put (by omega)
                    have hT1 : TK_ N1 f1 f2 n sz so sa se := hT.mv (fun j hj => fr1 j (by omega))
                    have h221 : oC N1 22 9 [.ref 23, .int (nI si), .ref 24] := (fr1 22 (by omega)).trans h22
                    have r1 : oC N1 (a + 1) 7 [.ref (a + 2), .int (nI b.2.2.2)] := by rw [← hN1]; exact ax_eq
                    have rb1 : bA N1 (a + 2) 20 F := by rw [← hN1]; exact ax_ne (by omega) ax_eq
                    have z1 : ∀ un kd fo fi ls, fr_ N (iN N1 a un kd fo fi ls) (fun j => a ≤ j ∧ j ≤ a + 2) ∧ sc_3 (iN N1 a un kd fo fi ls) a un kd fo fi ls b.2.2.2 F := fun un kd fo fi ls => ⟨fr1.put (by omega), ax_eq, ax_ne (by omega) r1, ax_ne (by omega) rb1, l20⟩
                    refine s_if_eq 64 50 rfl rfl (by decide) (fun c10 => ?_) (fun c10 => ?_)
                    -- Silences_takeOne 50: branch 64 50
                    · exact absurd c10 (by decide)
                    · refine s_aload_n 51 rfl rfl rfl ?_
                      refine s_getfield 9 2 54 rfl rfl fl_Silences_20 (i_22 ha h221) rfl ?_
                      refine c_callV0 (h+6) 57 rfl rfl mv_Silences_97 (by omega) (Nat.le_of_ble_eq_true rfl) (Nat.le_of_ble_eq_true rfl) ax_eq rfl rfl ?_
                      -- Silences_takeOne 57: call Tokens_takeSemicolon
                      refine m_Tokens_takeSemicolon (h := h + 5) ax_eq (hT1.i ha) kb ?_
                      dsimp only [ax_rs]
                      rw [i_t]
                      by_cases e6 : (ti_ (tb_ f2 n) b.2.1).1 = 4
                      · have k4 := (hT.b kb).2.2 (by rw [e6]; decide) (by rw [e6]; decide)
                        rw [if_pos e6] at h1
                        rw [if_pos e6, if_pos e6]
                        refine s_if_eq 64 60 rfl rfl (by decide) (fun c11 => ?_) (fun c11 => ?_)
                        -- Silences_takeOne 60: branch 64 60
                        · exact absurd c11 (by decide)
                        · refine s_iconst 1 61 rfl rfl (by decide) ?_
                          refine s_goto 65 rfl (by decide) ?_
                          -- Silences_takeOne 65: ireturn
                          refine s_ireturn rfl .boolean rfl rfl (h1 rfl _ F (z1 _ _ _ _ _).1 (z1 _ _ _ _ _).2 (fun j hj => ?_) k4.1)
                          have hj : j < b.2.2.2 := hj
                          show F j &&& 255 = f2 (b.2.2.1 + j)
                          obtain ⟨-, -, hb, -⟩ := hT
                          obtain ⟨w1, c, hc, w2⟩ := hb (b.2.2.1 + j) (by omega)
                          rw [← hF]
                          unfold rw_ap
                          rw [if_pos (by omega), bp_b, show b.2.2.1 + (j - 0) = b.2.2.1 + j by omega, w1, w2, pk_andN (by omega) 8 (by decide), Nat.mod_eq_of_lt (by omega)]
                      · rw [if_neg e6] at h0
                        rw [if_neg e6, if_neg e6]
                        refine s_if_eq 64 60 rfl rfl (by decide) (fun c12 => ?_) (fun c12 => ?_)
                        -- Silences_takeOne 60: branch 64 60
                        · exact fail (h0 rfl _ _ _ _ _ _ _ _ (z1 _ _ _ _ _).1 (z1 _ _ _ _ _).2 kb)
                        · exact absurd rfl c12
end ONE3
