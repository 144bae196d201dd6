/-! trend, count, compare, silent, held -/
theorem iA_j {M : ax_M} {a n : Nat} {f f2 : Nat → Int32} (h1 : iA M a n f) (h2 : iA M a n f2) : f = f2 := by
  have e := h1.symm.trans h2
  injection e with e
  injection e with e
  injection e with e e2
  injection e2 with e2 e3
  injection e3
theorem nI_m1 {b c : Nat} (hb : b < 65536) (hc : c < 65536) : nI b = nI c - 1 ↔ b + 1 = c := by
  constructor
  · intro e
    cases c with
    | zero => exact absurd e (nn_m1 (by omega))
    | succ c =>
      rw [nI_pred] at e
      have := nn_eq e
      omega
  · intro e
    subst e
    rw [nI_pred]
theorem in_ti {x : Int32} {n : Nat} (hn : n < 65536) (c : x < 0 ∨ nI n ≤ x) : x.toInt < 0 ∨ (n : Int) ≤ x.toInt := by
  rcases c with c | c
  · rw [Int32.lt_iff_toInt_lt] at c
    exact Or.inl c
  · rw [Int32.le_iff_toInt_le, nI_toInt (by omega)] at c
    exact Or.inr c
theorem cnt_l (p : Nat → Bool) {n : Nat} (hn : n ≤ 64) : cnt (lb (lset p n)) 64 = cnt p n := by
  refine cnt_x hn (fun b hb => ?_) (fun b h1 h2 => ?_)
  · rw [lset_b p n hn b (by omega), decide_eq_true hb, Bool.true_and]
  · rw [lset_b p n hn b h2, decide_eq_false (by omega), Bool.false_and]
/-- the set of a build -/
def so_ (s : Sta) (pt : Nat → Int64) (b w : Nat) : Int64 := if b + 1 = sBl s then lset (be_ s w) (sAl s) else pt (4 * b + w)
def io_ (s : Sta) (ob : Nat → Int32) (b a : Nat) : Bool := if b + 1 = sBl s then decide (sSt s a = 0) else bt (ob a) b
def pc_ (w : Nat) (x y : Bool) : Bool := if w = 0 then (y && !x) else if w = 1 then (x && !y) else (x && y)
section LOOK
variable {g : ax_Y} {M : ax_M} {Q : Option Value → ax_M → Prop} {h : Nat} {s : Sta} {dw nw : Nat} {gc pa : Int32} {sl : Nat → Option Nat} {n dr cm os gm tk pl bh : Int32} {va : Int64} {iw od : Int32}
theorem m_Top_isBuild {x : Int32} (hK : KC M s dw nw gc pa sl) (hq : Q (some (.int (bi (¬ x < 0 ∧ ¬ nI (sBl s) ≤ x)))) M) : ax_G g mt_Top_isBuild h 0 0 0 [.ref 0, .int x] [] M Q := by
  refine s_iload_n 1 rfl rfl rfl ?_
  refine s_if_lt 16 4 rfl rfl (by decide) (fun c1 => ?_) (fun c1 => ?_)
  -- Top_isBuild 4: branch 16 4
  · rw [bi_f (fun q => q.1 c1)] at hq
    refine s_iconst 0 17 rfl rfl (by decide) ?_
    -- Top_isBuild 17: ireturn
    exact s_ireturn rfl .boolean rfl rfl (hq)
  · refine s_iload_n 5 rfl rfl rfl ?_
    refine s_aload_n 6 rfl rfl rfl ?_
    refine s_getfield 11 14 9 rfl rfl fl_Top_114 hK.top rfl ?_
    refine s_icmp_ge 16 12 rfl rfl (by decide) (fun c2 => ?_) (fun c2 => ?_)
    -- Top_isBuild 12: branch 16 12
    · rw [bi_f (fun q => q.2 c2)] at hq
      refine s_iconst 0 17 rfl rfl (by decide) ?_
      -- Top_isBuild 17: ireturn
      exact s_ireturn rfl .boolean rfl rfl (hq)
    · rw [bi_t ⟨c1, c2⟩] at hq
      refine s_iconst 1 13 rfl rfl (by decide) ?_
      refine s_goto 17 rfl (by decide) ?_
      -- Top_isBuild 17: ireturn
      exact s_ireturn rfl .boolean rfl rfl (hq)
theorem m_Top_setOf {b w : Nat} {pt : Nat → Int64} (hK : KC M s dw nw gc pa sl) (h_past : lA M 78 48 pt) (hb : b < sBl s) (hw : w < 4) (hq : Q (some (.long (so_ s pt b w))) M) : ax_G g mt_Top_setOf (h + 5) 0 0 0 [.ref 0, .int (nI b), .int (nI w)] [] M Q := by
  obtain ⟨b1, b2, b3, b4, b5⟩ := hK.bd
  unfold so_ at hq
  refine s_iload_n 1 rfl rfl rfl ?_
  refine s_aload_n 2 rfl rfl rfl ?_
  refine s_getfield 11 14 5 rfl rfl fl_Top_114 hK.top rfl ?_
  refine s_iconst 1 6 rfl rfl (by decide) ?_
  refine s_isub 7 rfl rfl ?_
  refine s_icmp_ne 18 10 rfl rfl (by decide) (fun c1 => ?_) (fun c1 => ?_)
  -- Top_setOf 10: branch 18 10
  · rw [nI_m1 (by omega) (by omega)] at c1
    rw [if_neg c1] at hq
    refine s_aload_n 19 rfl rfl rfl ?_
    refine s_getfield 11 11 22 rfl rfl fl_Top_76 hK.top rfl ?_
    refine s_iload_n 23 rfl rfl rfl ?_
    refine s_iconst 4 24 rfl rfl (by decide) ?_
    refine s_imul 25 rfl rfl ?_
    -- Top_setOf 25: end
    rw [show nI b * 4 = nI (4 * b) by rw [show (4 : Int32) = nI 4 from rfl, pk_mul, Nat.mul_comm]]
    refine s_iload_n 26 rfl rfl rfl ?_
    refine s_iadd 27 rfl rfl ?_
    -- Top_setOf 27: end
    rw [nI_add]
    refine s_laload (4 * b + w) 28 rfl rfl h_past rfl (by omega) (by decide) ?_
    -- Top_setOf 28: lreturn
    exact s_lreturn rfl rfl (hq)
  · rw [nI_m1 (by omega) (by omega)] at c1
    rw [if_pos c1] at hq
    refine s_aload_n 11 rfl rfl rfl ?_
    refine s_iload_n 12 rfl rfl rfl ?_
    refine c_callV1 (h+4) 15 rfl rfl mv_Top_208 (by omega) (Nat.le_of_ble_eq_true rfl) (Nat.le_of_ble_eq_true rfl) hK.top rfl rfl ?_
    -- Top_setOf 15: call Top_setNow
    refine m_Top_setNow (h := h) hK hw ?_
    dsimp only [ax_rs]
    refine s_goto 28 rfl (by decide) ?_
    -- Top_setOf 28: lreturn
    exact s_lreturn rfl rfl (hq)
theorem c_trend {x y : Int32} {pt : Nat → Int64} (hK : KC M s dw nw gc pa sl) (h_past : lA M 78 48 pt) (h1 : ((x < 0 ∨ nI (sBl s) ≤ x) ∨ (y < 0 ∨ nI 4 ≤ y)) → Q (some (.int (-2))) M) (h2 : ∀ b w, b < sBl s → x = nI b → w < 4 → y = nI w → Q (some (.int (nI (cnt (lb (so_ s pt b w)) 64)))) M) : ax_G g mt_Top_trend (h + 6) 0 0 0 [.ref 0, .int x, .int y] [] M Q := by
  obtain ⟨b1, b2, b3, b4, b5⟩ := hK.bd
  refine s_aload_n 1 rfl rfl rfl ?_
  refine s_iload_n 2 rfl rfl rfl ?_
  refine c_callV1 (h+5) 5 rfl rfl mv_Top_299 (by omega) (Nat.le_of_ble_eq_true rfl) (Nat.le_of_ble_eq_true rfl) hK.top rfl rfl ?_
  -- Top_trend 5: call Top_isBuild
  refine m_Top_isBuild hK ?_
  dsimp only [ax_rs]
  rcases in_or (x := x) (n := sBl s) (by omega) with ⟨b, hb, rfl⟩ | c
  · rw [bi_t (in_bi hb (by omega) rfl)]
    refine s_if_eq 17 8 rfl rfl (by decide) (fun c1 => ?_) (fun c1 => ?_)
    -- Top_trend 8: branch 17 8
    · exact absurd c1 (by decide)
    · refine s_iload_n 9 rfl rfl rfl ?_
      refine s_if_lt 17 12 rfl rfl (by decide) (fun c2 => ?_) (fun c2 => ?_)
      -- Top_trend 12: branch 17 12
      · refine s_bipush (-2) 19 rfl rfl (by decide) ?_
        -- Top_trend 19: ireturn
        exact s_ireturn rfl .int rfl rfl (h1 (Or.inr (Or.inl c2)))
      · refine s_iload_n 13 rfl rfl rfl ?_
        refine s_iconst 4 14 rfl rfl (by decide) ?_
        refine s_icmp_lt 20 17 rfl rfl (by decide) (fun c3 => ?_) (fun c3 => ?_)
        -- Top_trend 17: branch 20 17
        · obtain ⟨w, hw, rfl⟩ := nI_of c2
          have hw4 := nn_lt (b := 4) c3
          refine s_aload_n 21 rfl rfl rfl ?_
          refine s_iload_n 22 rfl rfl rfl ?_
          refine s_iload_n 23 rfl rfl rfl ?_
          refine c_callV2 (h+5) 26 rfl rfl mv_Top_302 (by omega) (Nat.le_of_ble_eq_true rfl) (Nat.le_of_ble_eq_true rfl) hK.top rfl rfl ?_
          -- Top_trend 26: call Top_setOf
          refine m_Top_setOf (h := h) hK h_past hb hw4 ?_
          dsimp only [ax_rs]
          refine c_callS1 (h+5) 29 rfl rfl mv_Top_308 (by omega) (Nat.le_of_ble_eq_true rfl) (Nat.le_of_ble_eq_true rfl) ?_
          -- Top_trend 29: call Long_bitCount
          refine m_Long_bitCount ?_
          dsimp only [ax_rs]
          exact s_ireturn rfl .int rfl rfl (h2 b w hb rfl hw4 rfl)
        · refine s_bipush (-2) 19 rfl rfl (by decide) ?_
          -- Top_trend 19: ireturn
          exact s_ireturn rfl .int rfl rfl (h1 (Or.inr (Or.inr (Int32.not_lt.mp c3))))
  · rw [bi_f (in_no c)]
    refine s_if_eq 17 8 rfl rfl (by decide) (fun c4 => ?_) (fun c4 => ?_)
    -- Top_trend 8: branch 17 8
    · refine s_bipush (-2) 19 rfl rfl (by decide) ?_
      -- Top_trend 19: ireturn
      exact s_ireturn rfl .int rfl rfl (h1 (Or.inl c))
    · exact absurd rfl c4
theorem d_trend {x y : Int32} {tr : Nat → Int32} (hK : KM M s n dr pa cm os gm tk pl bh va iw od) (h_trends : iA M 154 48 tr) (h1 : ((x < 0 ∨ nI (sBl s) ≤ x) ∨ (y < 0 ∨ nI 4 ≤ y)) → Q (some (.int (-2))) M) (h2 : ∀ b w, b < sBl s → x = nI b → w < 4 → y = nI w → Q (some (.int (if b + 1 = sBl s then nI (cnt (be_ s w) (sAl s)) else tr (4 * b + w)))) M) : ax_G g mt_Mod_trend (h + 4) 0 0 0 [.ref 143, .int x, .int y] [] M Q := by
  obtain ⟨b1, b2, b3, b4, b5⟩ := hK.bd
  refine s_iload_n 1 rfl rfl rfl ?_
  refine s_i2l 2 rfl rfl ?_
  refine s_lconst 0 3 rfl rfl (by decide) ?_
  refine s_aload_n 4 rfl rfl rfl ?_
  refine s_getfield 12 2 7 rfl rfl fl_Mod_152 hK.this rfl ?_
  refine s_iconst 1 8 rfl rfl (by decide) ?_
  refine s_isub 9 rfl rfl ?_
  refine s_i2l 10 rfl rfl ?_
  refine c_callS3 (h+3) 13 rfl rfl mv_Mod_134 (by omega) (Nat.le_of_ble_eq_true rfl) (Nat.le_of_ble_eq_true rfl) ?_
  -- Mod_trend 13: call Mod_in
  refine m_Mod_inI (lo := 0) (hi := nI (sBl s) - 1) (by decide) rfl ?_
  dsimp only [ax_rs]
  rcases in_or (x := x) (n := sBl s) (by omega) with ⟨b, hb, rfl⟩ | c
  · rw [bi_t (in_le hb (by omega) rfl)]
    refine s_if_eq 28 16 rfl rfl (by decide) (fun c1 => ?_) (fun c1 => ?_)
    -- Mod_trend 16: branch 28 16
    · exact absurd c1 (by decide)
    · refine s_iload_n 17 rfl rfl rfl ?_
      refine s_i2l 18 rfl rfl ?_
      refine s_lconst 0 19 rfl rfl (by decide) ?_
      refine s_ldc2_w 3 22 rfl rfl kl_Mod_345 ?_
      refine c_callS3 (h+3) 25 rfl rfl mv_Mod_134 (by omega) (Nat.le_of_ble_eq_true rfl) (Nat.le_of_ble_eq_true rfl) ?_
      -- Mod_trend 25: call Mod_in
      refine m_Mod_inI (lo := 0) (hi := nI 4 - 1) (by decide) (by decide) ?_
      dsimp only [ax_rs]
      rcases in_or (x := y) (n := 4) (by omega) with ⟨w, hw, rfl⟩ | c
      · rw [bi_t (in_le hw (by omega) rfl)]
        have h2 := h2 b w hb rfl hw rfl
        refine s_if_ne 31 28 rfl rfl (by decide) (fun c2 => ?_) (fun c2 => ?_)
        -- Mod_trend 28: branch 31 28
        · refine s_iload_n 32 rfl rfl rfl ?_
          refine s_aload_n 33 rfl rfl rfl ?_
          refine s_getfield 12 2 36 rfl rfl fl_Mod_152 hK.this rfl ?_
          refine s_iconst 1 37 rfl rfl (by decide) ?_
          refine s_isub 38 rfl rfl ?_
          refine s_icmp_ne 49 41 rfl rfl (by decide) (fun c3 => ?_) (fun c3 => ?_)
          -- Mod_trend 41: branch 49 41
          · rw [nI_m1 (by omega) (by omega)] at c3
            rw [if_neg c3] at h2
            refine s_aload_n 50 rfl rfl rfl ?_
            refine s_getfield 12 14 53 rfl rfl fl_Mod_40 hK.this rfl ?_
            refine s_iconst 4 54 rfl rfl (by decide) ?_
            refine s_iload_n 55 rfl rfl rfl ?_
            refine s_imul 56 rfl rfl ?_
            -- Mod_trend 56: end
            rw [show (4 : Int32) * nI b = nI (4 * b) from pk_mul 4 b]
            refine s_iload_n 57 rfl rfl rfl ?_
            refine s_iadd 58 rfl rfl ?_
            -- Mod_trend 58: end
            rw [nI_add]
            refine s_iaload (4 * b + w) 59 rfl rfl h_trends rfl (by omega) (by decide) ?_
            -- Mod_trend 59: ireturn
            exact s_ireturn rfl .int rfl rfl (h2)
          · rw [nI_m1 (by omega) (by omega)] at c3
            rw [if_pos c3] at h2
            refine s_aload_n 42 rfl rfl rfl ?_
            refine s_iload_n 43 rfl rfl rfl ?_
            refine c_callV1 (h+3) 46 rfl rfl mv_Mod_155 (by omega) (Nat.le_of_ble_eq_true rfl) (Nat.le_of_ble_eq_true rfl) hK.this rfl rfl ?_
            -- Mod_trend 46: call Mod_trendOf
            refine m_Mod_trendOf (h := h) hK hw ?_
            dsimp only [ax_rs]
            refine s_goto 59 rfl (by decide) ?_
            -- Mod_trend 59: ireturn
            exact s_ireturn rfl .int rfl rfl (h2)
        · exact absurd c2 (by decide)
      · rw [bi_f (in_nle (n := 4) (by omega) c)]
        refine s_if_ne 31 28 rfl rfl (by decide) (fun c4 => ?_) (fun c4 => ?_)
        -- Mod_trend 28: branch 31 28
        · exact absurd rfl c4
        · refine s_bipush (-2) 30 rfl rfl (by decide) ?_
          -- Mod_trend 30: ireturn
          exact s_ireturn rfl .int rfl rfl (h1 (Or.inr c))
  · rw [bi_f (in_nle (by omega) c)]
    refine s_if_eq 28 16 rfl rfl (by decide) (fun c5 => ?_) (fun c5 => ?_)
    -- Mod_trend 16: branch 28 16
    · refine s_bipush (-2) 30 rfl rfl (by decide) ?_
      -- Mod_trend 30: ireturn
      exact s_ireturn rfl .int rfl rfl (h1 (Or.inl c))
    · exact absurd rfl c5
theorem both_trend (x y : Int32) : BI g (Rel g) mt_Top_trend mt_Mod_trend [.int x, .int y] := by
  intro M hR
  have hR' := hR
  obtain ⟨s, t, dw, nw, gc, sl, n, pa, dr, cm, os, gm, tk, pl, bh, va, iw, od, hC, hM, hg, -, -, hA, -⟩ := hR.get
  obtain ⟨b1, b2, b3, b4, b5⟩ := hC.bd
  obtain ⟨li, ki, wa, pp, qq, st, l2, k2, w2, p2, q2, s3, ob, tr, ps, a1, a2, a3, a4, a5, a6, a7, a8, a9, a10, a11, a12, a13, a14, a15, a16, a17, a18, a19, a20, a21⟩ := hA
  have ex1 : ∀ b w, b < sBl s → x = nI b → w < 4 → y = nI w → ¬ ((x < 0 ∨ nI (sBl s) ≤ x) ∨ (y < 0 ∨ nI 4 ≤ y)) := by
    intro b w z1 z2 z3 z4 q
    rcases q with q | q
    · exact in_no q (in_bi z1 (by omega) z2)
    · exact in_no q (in_bi z3 (by omega) z4)
  refine c_trend (h := 5) hC a8 (fun q => ?_) (fun b w z1 z2 z3 z4 => ?_)
  · refine ⟨_, rfl, ⟨_, hM.this⟩, d_trend (h := 7) hM a16 (fun _ => ⟨rfl, hR'⟩) (fun b w z1 z2 z3 z4 => absurd q (ex1 b w (by rw [← hg.sc.2.2.2.2.1]; exact z1) z2 z3 z4))⟩
  · refine ⟨_, rfl, ⟨_, hM.this⟩, d_trend (h := 7) hM a16 (fun q => absurd (by rw [hg.sc.2.2.2.2.1] at q; exact q) (ex1 b w z1 z2 z3 z4)) (fun b' w' d1 d2 d3 d4 => ?_)⟩
    rw [hg.sc.2.2.2.2.1] at d1
    obtain rfl : b = b' := nn_eq (z2.symm.trans d2)
    obtain rfl : w = w' := nn_eq (z4.symm.trans d4)
    have e : (if b + 1 = sBl t then nI (cnt (be_ t w) (sAl t)) else tr (4 * b + w)) = nI (cnt (lb (so_ s ps b w)) 64) := by
      rw [hg.sc.2.2.2.2.1]
      unfold so_
      by_cases q : b + 1 = sBl s
      · rw [if_pos q, if_pos q, cnt_l _ (by omega), hg.sc.1, cnt_cg (fun a ha => be_ag hg hC.told b4 w ha)]
      · rw [if_neg q, if_neg q]
        exact (a21 b (by omega)).2 w z3
    rw [e]
    exact ⟨rfl, hR'⟩
theorem c_count {x : Int32} {n dr os : Nat} {pat : Nat} (hK : KC M s dw nw gc (nI pat) sl) (h_text : oC M 1 7 [.ref 2, .int (nI n)]) (h_list : oC M 3 7 [.ref 4, .int (nI os)]) (h_draft : oC M dw 2 [.ref (dw + 1), .ref (dw + 2), .ref (dw + 3), .int (nI dr)]) (h1 : (x < 0 ∨ nI 10 ≤ x) → Q (some (.int (-2))) M) (h2 : ∀ w, w < 10 → x = nI w → Q (some (.int (nI (if w = 0 then sBl s else if w = 1 then sLn s else if w = 2 then sAl s else if w = 3 then sRu s else if w = 4 then sSi s else if w = 5 then pat else if w = 6 then n else if w = 7 then dr else if w = 8 then cnt (be_ s 3) (sAl s) else os)))) M) : ax_G g mt_Top_count (h + 5) 0 0 0 [.ref 0, .int x] [] M Q := by
  obtain ⟨b1, b2, b3, b4, b5⟩ := hK.bd
  refine s_iload_n 1 rfl rfl rfl ?_
  -- Top_count 1: end
  rcases in_or (x := x) (n := 10) (by omega) with ⟨w, hw, rfl⟩ | c
  · have h2 := h2 w hw rfl
    rcases (by omega : w = 0 ∨ w = 1 ∨ w = 2 ∨ w = 3 ∨ w = 4 ∨ w = 5 ∨ w = 6 ∨ w = 7 ∨ w = 8 ∨ w = 9) with rfl | rfl | rfl | rfl | rfl | rfl | rfl | rfl | rfl | rfl
    · refine s_tabIn 56 rfl (by decide) (by decide) rfl (by decide) ?_
      -- to 56
      refine s_aload_n 57 rfl rfl rfl ?_
      refine s_getfield 11 14 60 rfl rfl fl_Top_114 hK.top rfl ?_
      -- Top_count 60: ireturn
      exact s_ireturn rfl .int rfl rfl (h2)
    · refine s_tabIn 61 rfl (by decide) (by decide) rfl (by decide) ?_
      -- to 61
      refine s_aload_n 62 rfl rfl rfl ?_
      refine s_getfield 11 13 65 rfl rfl fl_Top_87 hK.top rfl ?_
      refine s_getfield 2 3 68 rfl rfl fl_Top_108 hK.now rfl ?_
      -- Top_count 68: ireturn
      exact s_ireturn rfl .int rfl rfl (h2)
    · refine s_tabIn 69 rfl (by decide) (by decide) rfl (by decide) ?_
      -- to 69
      refine s_aload_n 70 rfl rfl rfl ?_
      refine s_getfield 11 3 73 rfl rfl fl_Top_31 hK.top rfl ?_
      refine s_getfield 0 6 76 rfl rfl fl_Top_145 hK.alarms rfl ?_
      -- Top_count 76: ireturn
      exact s_ireturn rfl .int rfl rfl (h2)
    · refine s_tabIn 77 rfl (by decide) (by decide) rfl (by decide) ?_
      -- to 77
      refine s_aload_n 78 rfl rfl rfl ?_
      refine s_getfield 11 4 81 rfl rfl fl_Top_38 hK.top rfl ?_
      refine s_getfield 1 3 84 rfl rfl fl_Top_198 hK.facts rfl ?_
      -- Top_count 84: ireturn
      exact s_ireturn rfl .int rfl rfl (h2)
    · refine s_tabIn 85 rfl (by decide) (by decide) rfl (by decide) ?_
      -- to 85
      refine s_aload_n 86 rfl rfl rfl ?_
      refine s_getfield 11 5 89 rfl rfl fl_Top_45 hK.top rfl ?_
      refine s_getfield 9 1 92 rfl rfl fl_Top_269 hK.silences rfl ?_
      -- Top_count 92: ireturn
      exact s_ireturn rfl .int rfl rfl (h2)
    · refine s_tabIn 93 rfl (by decide) (by decide) rfl (by decide) ?_
      -- to 93
      refine s_aload_n 94 rfl rfl rfl ?_
      refine s_getfield 11 15 97 rfl rfl fl_Top_326 hK.top rfl ?_
      -- Top_count 97: ireturn
      exact s_ireturn rfl .int rfl rfl (h2)
    · refine s_tabIn 98 rfl (by decide) (by decide) rfl (by decide) ?_
      -- to 98
      refine s_aload_n 99 rfl rfl rfl ?_
      refine s_getfield 11 0 102 rfl rfl fl_Top_14 hK.top rfl ?_
      refine c_callV0 (h+4) 105 rfl rfl mv_Top_98 (by omega) (Nat.le_of_ble_eq_true rfl) (Nat.le_of_ble_eq_true rfl) h_text rfl rfl ?_
      -- Top_count 105: call Row_size
      refine m_Row_size h_text ?_
      dsimp only [ax_rs]
      exact s_ireturn rfl .int rfl rfl (h2)
    · refine s_tabIn 106 rfl (by decide) (by decide) rfl (by decide) ?_
      -- to 106
      refine s_aload_n 107 rfl rfl rfl ?_
      refine s_getfield 11 12 110 rfl rfl fl_Top_83 hK.top rfl ?_
      refine s_getfield 2 3 113 rfl rfl fl_Top_108 h_draft rfl ?_
      -- Top_count 113: ireturn
      exact s_ireturn rfl .int rfl rfl (h2)
    · refine s_tabIn 114 rfl (by decide) (by decide) rfl (by decide) ?_
      -- to 114
      refine s_aload_n 115 rfl rfl rfl ?_
      refine s_iconst 3 116 rfl rfl (by decide) ?_
      refine c_callV1 (h+4) 119 rfl rfl mv_Top_208 (by omega) (Nat.le_of_ble_eq_true rfl) (Nat.le_of_ble_eq_true rfl) hK.top rfl rfl ?_
      -- Top_count 119: call Top_setNow
      refine m_Top_setNow (h := h) (w := 3) hK (by omega) ?_
      dsimp only [ax_rs]
      refine c_callS1 (h+4) 122 rfl rfl mv_Top_308 (by omega) (Nat.le_of_ble_eq_true rfl) (Nat.le_of_ble_eq_true rfl) ?_
      -- Top_count 122: call Long_bitCount
      refine m_Long_bitCount ?_
      dsimp only [ax_rs]
      rw [cnt_l _ (by omega)]
      exact s_ireturn rfl .int rfl rfl (h2)
    · refine s_tabIn 123 rfl (by decide) (by decide) rfl (by decide) ?_
      -- to 123
      refine s_aload_n 124 rfl rfl rfl ?_
      refine s_getfield 11 1 127 rfl rfl fl_Top_18 hK.top rfl ?_
      refine c_callV0 (h+4) 130 rfl rfl mv_Top_98 (by omega) (Nat.le_of_ble_eq_true rfl) (Nat.le_of_ble_eq_true rfl) h_list rfl rfl ?_
      -- Top_count 130: call Row_size
      refine m_Row_size h_list ?_
      dsimp only [ax_rs]
      exact s_ireturn rfl .int rfl rfl (h2)
  · refine s_tabOut 131 rfl ((by have := in_ti (by omega) c; omega)) (by decide) ?_
    -- to 131
    refine s_bipush (-2) 133 rfl rfl (by decide) ?_
    -- Top_count 133: ireturn
    exact s_ireturn rfl .int rfl rfl (h1 c)
theorem d_count {x : Int32} {n dr os : Nat} {pat : Nat} (hK : KM M s (nI n) (nI dr) (nI pat) cm (nI os) gm tk pl bh va iw od) (h1 : (x < 0 ∨ nI 10 ≤ x) → Q (some (.int (-2))) M) (h2 : ∀ w, w < 10 → x = nI w → Q (some (.int (nI (if w = 0 then sBl s else if w = 1 then sLn s else if w = 2 then sAl s else if w = 3 then sRu s else if w = 4 then sSi s else if w = 5 then pat else if w = 6 then n else if w = 7 then dr else if w = 8 then cnt (be_ s 3) (sAl s) else os)))) M) : ax_G g mt_Mod_count (h + 4) 0 0 0 [.ref 143, .int x] [] M Q := by
  obtain ⟨b1, b2, b3, b4, b5⟩ := hK.bd
  refine s_iload_n 1 rfl rfl rfl ?_
  -- Mod_count 1: end
  rcases in_or (x := x) (n := 10) (by omega) with ⟨w, hw, rfl⟩ | c
  · have h2 := h2 w hw rfl
    rcases (by omega : w = 0 ∨ w = 1 ∨ w = 2 ∨ w = 3 ∨ w = 4 ∨ w = 5 ∨ w = 6 ∨ w = 7 ∨ w = 8 ∨ w = 9) with rfl | rfl | rfl | rfl | rfl | rfl | rfl | rfl | rfl | rfl
    · refine s_tabIn 56 rfl (by decide) (by decide) rfl (by decide) ?_
      -- to 56
      refine s_aload_n 57 rfl rfl rfl ?_
      refine s_getfield 12 2 60 rfl rfl fl_Mod_152 hK.this rfl ?_
      -- Mod_count 60: ireturn
      exact s_ireturn rfl .int rfl rfl (h2)
    · refine s_tabIn 61 rfl (by decide) (by decide) rfl (by decide) ?_
      -- to 61
      refine s_aload_n 62 rfl rfl rfl ?_
      refine s_getfield 12 3 65 rfl rfl fl_Mod_149 hK.this rfl ?_
      -- Mod_count 65: ireturn
      exact s_ireturn rfl .int rfl rfl (h2)
    · refine s_tabIn 66 rfl (by decide) (by decide) rfl (by decide) ?_
      -- to 66
      refine s_aload_n 67 rfl rfl rfl ?_
      refine s_getfield 12 15 70 rfl rfl fl_Mod_169 hK.this rfl ?_
      -- Mod_count 70: ireturn
      exact s_ireturn rfl .int rfl rfl (h2)
    · refine s_tabIn 71 rfl (by decide) (by decide) rfl (by decide) ?_
      -- to 71
      refine s_aload_n 72 rfl rfl rfl ?_
      refine s_getfield 12 23 75 rfl rfl fl_Mod_198 hK.this rfl ?_
      -- Mod_count 75: ireturn
      exact s_ireturn rfl .int rfl rfl (h2)
    · refine s_tabIn 76 rfl (by decide) (by decide) rfl (by decide) ?_
      -- to 76
      refine s_aload_n 77 rfl rfl rfl ?_
      refine s_getfield 12 30 80 rfl rfl fl_Mod_166 hK.this rfl ?_
      -- Mod_count 80: ireturn
      exact s_ireturn rfl .int rfl rfl (h2)
    · refine s_tabIn 81 rfl (by decide) (by decide) rfl (by decide) ?_
      -- to 81
      refine s_aload_n 82 rfl rfl rfl ?_
      refine s_getfield 12 45 85 rfl rfl fl_Mod_306 hK.this rfl ?_
      -- Mod_count 85: ireturn
      exact s_ireturn rfl .int rfl rfl (h2)
    · refine s_tabIn 86 rfl (by decide) (by decide) rfl (by decide) ?_
      -- to 86
      refine s_aload_n 87 rfl rfl rfl ?_
      refine s_getfield 12 1 90 rfl rfl fl_Mod_138 hK.this rfl ?_
      -- Mod_count 90: ireturn
      exact s_ireturn rfl .int rfl rfl (h2)
    · refine s_tabIn 91 rfl (by decide) (by decide) rfl (by decide) ?_
      -- to 91
      refine s_aload_n 92 rfl rfl rfl ?_
      refine s_getfield 12 7 95 rfl rfl fl_Mod_146 hK.this rfl ?_
      -- Mod_count 95: ireturn
      exact s_ireturn rfl .int rfl rfl (h2)
    · refine s_tabIn 96 rfl (by decide) (by decide) rfl (by decide) ?_
      -- to 96
      refine s_aload_n 97 rfl rfl rfl ?_
      refine s_iconst 3 98 rfl rfl (by decide) ?_
      refine c_callV1 (h+3) 101 rfl rfl mv_Mod_155 (by omega) (Nat.le_of_ble_eq_true rfl) (Nat.le_of_ble_eq_true rfl) hK.this rfl rfl ?_
      -- Mod_count 101: call Mod_trendOf
      refine m_Mod_trendOf (h := h) (w := 3) hK (by omega) ?_
      dsimp only [ax_rs]
      exact s_ireturn rfl .int rfl rfl (h2)
    · refine s_tabIn 102 rfl (by decide) (by decide) rfl (by decide) ?_
      -- to 102
      refine s_aload_n 103 rfl rfl rfl ?_
      refine s_getfield 12 56 106 rfl rfl fl_Mod_347 hK.this rfl ?_
      -- Mod_count 106: ireturn
      exact s_ireturn rfl .int rfl rfl (h2)
  · refine s_tabOut 107 rfl ((by have := in_ti (by omega) c; omega)) (by decide) ?_
    -- to 107
    refine s_bipush (-2) 109 rfl rfl (by decide) ?_
    -- Mod_count 109: ireturn
    exact s_ireturn rfl .int rfl rfl (h1 c)
theorem both_count (x : Int32) : BI g (Rel g) mt_Top_count mt_Mod_count [.int x] := by
  intro M hR
  have hR' := hR
  obtain ⟨s, t, dw, nw, gc, sl, n, pa, dr, cm, os, gm, tk, pl, bh, va, iw, od, hC, hM, hg, ⟨f1, f2, t1, -⟩, ⟨hw, nf, nm, nb, df, dm, db, mf, mm, mp, gf, gm2, l1, l2, l3, l4, l5, -⟩, -, -, -, -, ⟨o1, o2, u1, -⟩, -⟩ := hR.get
  obtain ⟨b1, b2, b3, b4, b5⟩ := hC.bd
  refine c_count (h := 6) hC t1 u1 l5 (fun q => ?_) (fun w z1 z2 => ?_)
  · exact ⟨_, rfl, ⟨_, hM.this⟩, d_count (h := 7) hM (fun _ => ⟨rfl, hR'⟩) (fun w z1 z2 => absurd (in_bi z1 (by omega) z2) (in_no q))⟩
  · refine ⟨_, rfl, ⟨_, hM.this⟩, d_count (h := 7) hM (fun q => absurd (in_bi z1 (by omega) z2) (in_no q)) (fun w' d1 d2 => ?_)⟩
    obtain rfl : w = w' := nn_eq (z2.symm.trans d2)
    obtain ⟨e1, e2, e3, e4, e5, -⟩ := hg.sc
    rw [e1, e2, e3, e4, e5, cnt_cg (p := be_ t 3) (fun a ha => be_ag hg hC.told b4 3 ha)]
    exact ⟨rfl, hR'⟩
end LOOK
