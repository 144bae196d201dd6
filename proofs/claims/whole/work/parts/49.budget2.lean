/-! the reference's budget; both -/
abbrev bd_m (M : ax_M) (s : Sta) (n dr pa os gm tk pl bh : Int32) (va : Int64) (iw : Int32) (row pf ch : Nat → Int32) (k cs : Nat) : ax_M := md_m (iP (iP (iP M 179 50 row) 181 6 pf) 180 50 ch) n (nI (sBl s)) (nI (sLn s)) dr (nI (sAl s)) (nI (sRu s)) (sPv s) (nI (sSi s)) pa (nI cs) os gm tk pl bh va iw (nI k)
section BUD2
variable {g : ax_Y} {M : ax_M} {Q : Option Value → ax_M → Prop} {h : Nat} {s : Sta} {n dr pa cm os gm tk pl bh : Int32} {va : Int64} {iw od : Int32}
theorem d_budget {x y : Int32} {f pf cr : Nat → Int32} (hK : KM M s n dr pa cm os gm tk pl bh va iw od) (hlf : ∀ l, l < sLn s → ∃ c, c < 6 ∧ sLf s l = nI c) (h_order : iA M 179 50 f) (h_chosen : iA M 180 50 cr) (h_ofFile : iA M 181 6 pf) (h1 : ((x < 0 ∨ nI 51 ≤ x) ∨ (y < 0 ∨ nI 51 ≤ y)) → Q (some (.int (-2))) M) (h2 : ∀ a b, a < 51 → x = nI a → b < 51 → y = nI b → ∀ R, R = od_ s true (be_ s 3) f (sAl s) → ∀ B, B = bu_ (fo_ s R.1) R.1 x y cr (fun j => if j < 6 then 0 else pf j) R.2 → Q (some (.int (nI B.2.2))) (bd_m M s n dr pa os gm tk pl bh va iw R.1 B.1 B.2.1 R.2 B.2.2)) : ax_G g mt_Mod_budget (h + 4) 0 0 0 [.ref 143, .int x, .int y, .float 0, .float 0] [] M Q := by
  obtain ⟨b1, b2, b3, b4, b5⟩ := hK.bd
  refine s_iload_n 1 rfl rfl rfl ?_
  refine s_i2l 2 rfl rfl ?_
  refine s_lconst 0 3 rfl rfl (by decide) ?_
  refine s_ldc2_w 50 6 rfl rfl kl_Mod_335 ?_
  refine c_callS3 (h+3) 9 rfl rfl mv_Mod_134 (by omega) (Nat.le_of_ble_eq_true rfl) (Nat.le_of_ble_eq_true rfl) ?_
  -- Mod_budget 9: call Mod_in
  refine m_Mod_inI (lo := 0) (hi := nI 51 - 1) (by decide) (by decide) ?_
  dsimp only [ax_rs]
  rcases in_or (x := x) (n := 51) (by omega) with ⟨a, ha, rfl⟩ | c
  · rw [bi_t (in_le ha (by omega) rfl)]
    refine s_if_eq 24 12 rfl rfl (by decide) (fun c1 => ?_) (fun c1 => ?_)
    -- Mod_budget 12: branch 24 12
    · exact absurd c1 (by decide)
    · refine s_iload_n 13 rfl rfl rfl ?_
      refine s_i2l 14 rfl rfl ?_
      refine s_lconst 0 15 rfl rfl (by decide) ?_
      refine s_ldc2_w 50 18 rfl rfl kl_Mod_335 ?_
      refine c_callS3 (h+3) 21 rfl rfl mv_Mod_134 (by omega) (Nat.le_of_ble_eq_true rfl) (Nat.le_of_ble_eq_true rfl) ?_
      -- Mod_budget 21: call Mod_in
      refine m_Mod_inI (lo := 0) (hi := nI 51 - 1) (by decide) (by decide) ?_
      dsimp only [ax_rs]
      rcases in_or (x := y) (n := 51) (by omega) with ⟨b, hb, rfl⟩ | c
      · rw [bi_t (in_le hb (by omega) rfl)]
        have h2 := h2 a b ha rfl hb rfl _ rfl _ rfl
        have ol := od_le s true (be_ s 3) f (sAl s)
        have oi := od_in s true (be_ s 3) f (sAl s)
        refine s_if_ne 27 24 rfl rfl (by decide) (fun c2 => ?_) (fun c2 => ?_)
        -- Mod_budget 24: branch 27 24
        · refine s_aload_n 28 rfl rfl rfl ?_
          refine s_iconst 1 29 rfl rfl (by decide) ?_
          refine c_callV1 (h+3) 32 rfl rfl mv_Mod_332 (by omega) (Nat.le_of_ble_eq_true rfl) (Nat.le_of_ble_eq_true rfl) hK.this rfl rfl ?_
          -- Mod_budget 32: call Mod_arrange
          refine m_Mod_arrange (h := h) (o := true) hK h_order ?_
          dsimp only [ax_rs]
          rw [show (if (true : Bool) = true then 3 else 0) = 3 from rfl]
          generalize od_ s true (be_ s 3) f (sAl s) = R at ol oi h2 ⊢
          refine s_aload_n 33 rfl rfl rfl ?_
          refine s_iconst 0 34 rfl rfl (by decide) ?_
          refine s_putfield 12 53 (.int) 37 rfl rfl fp_Mod_337 rfl (Nat.le_of_ble_eq_true rfl) ⟨rfl, rfl⟩ (fun h => absurd h (by decide)) ?_
          refine s_iconst 0 38 rfl rfl (by decide) ?_
          refine s_ist3 39 rfl rfl rfl ?_
          -- Mod_budget 39: end
          have loop1 : ∀ (d i : Nat), i + d = 6 → ax_G g mt_Mod_budget (h + 4) 0 0 39 [.ref 143, .int (nI a), .int (nI b), .int (nI i), .float 0] [] (md_m (iP (iP M 179 50 R.1) 181 6 (fun j => if j < i then 0 else pf j)) n (nI (sBl s)) (nI (sLn s)) dr (nI (sAl s)) (nI (sRu s)) (sPv s) (nI (sSi s)) pa (nI 0) os gm tk pl bh va iw (nI R.2)) Q := by
            intro d
            induction d with
            | zero =>
              intro i hi
              obtain rfl : i = 6 := by omega
              generalize (fun j => if j < 6 then (0 : Int32) else pf j) = p0 at h2 ⊢
              refine s_iload_n 40 rfl rfl rfl ?_
              refine s_bipush 6 42 rfl rfl (by decide) ?_
              refine s_icmp_ge 58 45 rfl rfl (by decide) (fun c3 => ?_) (fun c3 => ?_)
              -- Mod_budget 45: branch 58 45
              · refine s_iconst 0 59 rfl rfl (by decide) ?_
                refine s_ist3 60 rfl rfl rfl ?_
                -- Mod_budget 60: end
                have loop : ∀ (d i : Nat) (z : Value), z.category = 1 → i + d = R.2 → ax_G g mt_Mod_budget (h + 4) 0 0 60 [.ref 143, .int (nI a), .int (nI b), .int (nI i), z] [] (bd_m M s n dr pa os gm tk pl bh va iw R.1 (bu_ (fo_ s R.1) R.1 (nI a) (nI b) cr p0 i).1 (bu_ (fo_ s R.1) R.1 (nI a) (nI b) cr p0 i).2.1 R.2 (bu_ (fo_ s R.1) R.1 (nI a) (nI b) cr p0 i).2.2) Q := by
                  intro d
                  induction d with
                  | zero =>
                    intro i z _ hi
                    obtain rfl : i = R.2 := by omega
                    refine s_iload_n 61 rfl rfl rfl ?_
                    refine s_aload_n 62 rfl rfl rfl ?_
                    refine s_getfield 12 51 65 rfl rfl fl_Mod_325 rfl rfl ?_
                    refine s_icmp_ge 147 68 rfl rfl (by decide) (fun c4 => ?_) (fun c4 => ?_)
                    -- Mod_budget 68: branch 147 68
                    · refine s_aload_n 148 rfl rfl rfl ?_
                      refine s_getfield 12 53 151 rfl rfl fl_Mod_337 rfl rfl ?_
                      -- Mod_budget 151: ireturn
                      exact s_ireturn rfl .int rfl rfl (h2)
                    · exact absurd (nn_nle c4) (by omega)
                  | succ d ih =>
                    intro i z hz hi
                    have nx := fun z hz => ih (i + 1) z hz (by omega)
                    have bl := bu_le (fo := fo_ s R.1) (rw := R.1) (n := nI a) (m := nI b) (c0 := cr) (p0 := p0) i
                    refine s_iload_n 61 rfl rfl rfl ?_
                    refine s_aload_n 62 rfl rfl rfl ?_
                    refine s_getfield 12 51 65 rfl rfl fl_Mod_325 rfl rfl ?_
                    refine s_icmp_ge 147 68 rfl rfl (by decide) (fun c5 => ?_) (fun c5 => ?_)
                    -- Mod_budget 68: branch 147 68
                    · exact absurd (nn_le c5) (by omega)
                    · refine s_aload_n 69 rfl rfl rfl ?_
                      refine s_getfield 12 53 72 rfl rfl fl_Mod_337 rfl rfl ?_
                      refine s_iload_n 73 rfl rfl rfl ?_
                      refine s_icmp_ge 147 76 rfl rfl (by decide) (fun c6 => ?_) (fun c6 => ?_)
                      -- Mod_budget 76: branch 147 76
                      · have e := bu_stop (fo := fo_ s R.1) (rw := R.1) (n := nI a) (m := nI b) (c0 := cr) (p0 := p0) (k := i) (Int32.not_lt.mpr c6) (d + 1)
                        rw [hi] at e
                        rw [e] at h2
                        refine s_aload_n 148 rfl rfl rfl ?_
                        refine s_getfield 12 53 151 rfl rfl fl_Mod_337 rfl rfl ?_
                        -- Mod_budget 151: ireturn
                        exact s_ireturn rfl .int rfl rfl (h2)
                      · have c6 := Int32.not_le.mp c6
                        obtain ⟨c, hc, hbe, er⟩ := oi i (by omega)
                        have hst : sSt s c = 0 := by
                          unfold be_ at hbe
                          simp at hbe
                          exact hbe.1
                        obtain ⟨l, hl, el⟩ := hK.told c hc hst
                        obtain ⟨v, hv, ef⟩ := hlf l hl
                        have ev : fo_ s R.1 i = v := by
                          unfold fo_
                          rw [er, nI_clamp (by omega), el, nI_clamp (by omega), ef, nI_clamp (by omega)]
                        rw [bu_, ev] at nx
                        generalize (bu_ (fo_ s R.1) R.1 (nI a) (nI b) cr p0 i) = B at nx bl c6 ⊢
                        refine s_aload_n 77 rfl rfl rfl ?_
                        refine s_getfield 12 4 80 rfl rfl fl_Mod_13 rfl rfl ?_
                        refine s_aload_n 81 rfl rfl rfl ?_
                        refine s_getfield 12 16 84 rfl rfl fl_Mod_43 rfl rfl ?_
                        refine s_aload_n 85 rfl rfl rfl ?_
                        refine s_getfield 12 50 88 rfl rfl fl_Mod_117 rfl rfl ?_
                        refine s_iload_n 89 rfl rfl rfl ?_
                        refine s_iaload (i) 90 rfl rfl rfl rfl (by omega) (by decide) ?_
                        -- Mod_budget 90: end
                        rw [er]
                        refine s_iaload (c) 91 rfl rfl hK.lineOf rfl (by omega) (by decide) ?_
                        -- Mod_budget 91: end
                        rw [el]
                        refine s_iaload (l) 92 rfl rfl hK.fileOf rfl (by omega) (by decide) ?_
                        -- Mod_budget 92: end
                        rw [ef]
                        refine s_ist4 94 rfl rfl rfl ?_
                        refine s_aload_n 95 rfl rfl rfl ?_
                        refine s_getfield 12 54 98 rfl rfl fl_Mod_123 rfl rfl ?_
                        refine s_iload 100 rfl rfl rfl ?_
                        refine s_iaload (v) 101 rfl rfl rfl rfl (by omega) (by decide) ?_
                        refine s_iload_n 102 rfl rfl rfl ?_
                        refine s_icmp_ge 141 105 rfl rfl (by decide) (fun c7 => ?_) (fun c7 => ?_)
                        -- Mod_budget 105: branch 141 105
                        · rw [if_neg (fun q => absurd q.2 (Int32.not_lt.mpr c7))] at nx
                          refine s_inc3 _ 144 rfl rfl rfl rfl ?_
                          refine s_goto 60 rfl (by decide) ?_
                          -- Mod_budget 60: end
                          rw [inc1]
                          exact nx _ rfl
                        · rw [if_pos ⟨c6, Int32.not_le.mp c7⟩] at nx
                          refine s_aload_n 106 rfl rfl rfl ?_
                          refine s_getfield 12 54 109 rfl rfl fl_Mod_123 rfl rfl ?_
                          refine s_iload 111 rfl rfl rfl ?_
                          refine s_dup2 112 rfl rfl rfl rfl ?_
                          refine s_iaload (v) 113 rfl rfl rfl rfl (by omega) (by decide) ?_
                          refine s_iconst 1 114 rfl rfl (by decide) ?_
                          refine s_iadd 115 rfl rfl ?_
                          refine s_iastore (v) 116 rfl rfl rfl rfl (by omega) (by decide) ?_
                          refine s_aload_n 117 rfl rfl rfl ?_
                          refine s_getfield 12 52 120 rfl rfl fl_Mod_120 rfl rfl ?_
                          refine s_aload_n 121 rfl rfl rfl ?_
                          refine s_getfield 12 53 124 rfl rfl fl_Mod_337 rfl rfl ?_
                          refine s_aload_n 125 rfl rfl rfl ?_
                          refine s_getfield 12 50 128 rfl rfl fl_Mod_117 rfl rfl ?_
                          refine s_iload_n 129 rfl rfl rfl ?_
                          refine s_iaload (i) 130 rfl rfl rfl rfl (by omega) (by decide) ?_
                          refine s_iastore (B.2.2) 131 rfl rfl rfl rfl (by omega) (by decide) ?_
                          refine s_aload_n 132 rfl rfl rfl ?_
                          refine s_dup 133 rfl rfl rfl ?_
                          refine s_getfield 12 53 136 rfl rfl fl_Mod_337 rfl rfl ?_
                          refine s_iconst 1 137 rfl rfl (by decide) ?_
                          refine s_iadd 138 rfl rfl ?_
                          -- Mod_budget 138: end
                          rw [nI_1]
                          refine s_putfield 12 53 (.int) 141 rfl rfl fp_Mod_337 rfl (Nat.le_of_ble_eq_true rfl) ⟨rfl, rfl⟩ (fun h => absurd h (by decide)) ?_
                          refine s_inc3 _ 144 rfl rfl rfl rfl ?_
                          refine s_goto 60 rfl (by decide) ?_
                          -- Mod_budget 60: end
                          rw [inc1]
                          unfold bd_m md_m oP iP at nx ⊢
                          rw [ax_p6]
                          exact nx _ rfl
                have h0 := loop R.2 0 (.float 0) rfl (by omega)
                rw [bu_] at h0
                unfold bd_m iP at h0
                rw [ax_id (M := ax_put (ax_put M 179 (.inl (0, 50, .inl R.1))) 181 (.inl (0, 6, .inl p0))) (a := 180) h_chosen] at h0
                exact h0
              · exact absurd (by decide) c3
            | succ d ih =>
              intro i hi
              have nx := ih (i + 1) (by omega)
              refine s_iload_n 40 rfl rfl rfl ?_
              refine s_bipush 6 42 rfl rfl (by decide) ?_
              refine s_icmp_ge 58 45 rfl rfl (by decide) (fun c8 => ?_) (fun c8 => ?_)
              -- Mod_budget 45: branch 58 45
              · exact absurd (nn_le (a := 6) c8) (by omega)
              · refine s_aload_n 46 rfl rfl rfl ?_
                refine s_getfield 12 54 49 rfl rfl fl_Mod_123 rfl rfl ?_
                refine s_iload_n 50 rfl rfl rfl ?_
                refine s_iconst 0 51 rfl rfl (by decide) ?_
                refine s_iastore (i) 52 rfl rfl rfl rfl (by omega) (by decide) ?_
                refine s_inc3 _ 55 rfl rfl rfl rfl ?_
                refine s_goto 39 rfl (by decide) ?_
                -- Mod_budget 39: end
                rw [inc1]
                unfold md_m oP iP at nx ⊢
                rw [ax_p3 (by decide)]
                have e : upd (fun j => if j < i then 0 else pf j) i 0 = fun j => if j < i + 1 then 0 else pf j := by
                  funext j
                  show (if j = i then 0 else if j < i then 0 else pf j) = _
                  by_cases q : j = i
                  · rw [if_pos q, if_pos (by omega)]
                  · rw [if_neg q]
                    by_cases q2 : j < i
                    · rw [if_pos q2, if_pos (by omega)]
                    · rw [if_neg q2, if_neg (by omega)]
                rw [e]
                exact nx
          have h0 := loop1 6 0 (by omega)
          have e : (fun j => if j < 0 then 0 else pf j) = pf := by
            funext j
            rw [if_neg (by omega)]
          rw [e] at h0
          unfold md_m oP iP at h0
          unfold ar_m md_m oP iP
          rw [ax_id (M := ax_put M 179 (.inl (0, 50, .inl R.1))) (a := 181) h_ofFile] at h0
          rw [ax_pp]
          exact h0
        · exact absurd c2 (by decide)
      · rw [bi_f (in_nle (n := 51) (by omega) c)]
        refine s_if_ne 27 24 rfl rfl (by decide) (fun c9 => ?_) (fun c9 => ?_)
        -- Mod_budget 24: branch 27 24
        · exact absurd rfl c9
        · refine s_bipush (-2) 26 rfl rfl (by decide) ?_
          -- Mod_budget 26: ireturn
          exact s_ireturn rfl .int rfl rfl (h1 (Or.inr c))
  · rw [bi_f (in_nle (n := 51) (by omega) c)]
    refine s_if_eq 24 12 rfl rfl (by decide) (fun c10 => ?_) (fun c10 => ?_)
    -- Mod_budget 12: branch 24 12
    · refine s_bipush (-2) 26 rfl rfl (by decide) ?_
      -- Mod_budget 26: ireturn
      exact s_ireturn rfl .int rfl rfl (h1 (Or.inl c))
    · exact absurd rfl c10
theorem both_budget (x y : Int32) : BI g (Rel g) mt_Top_budget mt_Mod_budget [.int x, .int y] := by
  intro M hR
  have hR' := hR
  obtain ⟨s, t, dw, nw, gc, sl, n, pa, dr, cm, os, gm, tk, pl, bh, va, iw, od, hC, hM, hg, hT, hL, hA, hF, hS, hO, hU, ⟨sz, rw0, cr, pf, c2, x1, x2, x3, x4, x5, x6, x7⟩, hX, hz⟩ := hR.get
  obtain ⟨b1, b2, b3, b4, b5⟩ := hC.bd
  obtain ⟨q1, q2, q3, q4, q5, q6, q7⟩ := hg.sc
  obtain ⟨ki, rfl⟩ := nI_su sz
  obtain ⟨fo, h179⟩ := (hX.2.2.2.2.2.2.2.2.2.2.2.2.2.2.2.2.2.2.2.1 : sI M 179 50)
  obtain ⟨p2, h181⟩ := (hX.2.2.2.2.2.2.2.2.2.2.2.2.2.2.2.2.2.2.2.2.1 : sI M 181 6)
  have hL' := hL
  obtain ⟨hw, nf, nm, nb, df, dm, db, mf, mm, mp, gf, gm2, l1, l2, l3, l4, l5, l6, l7, l8, l9, l10, l11, l12, l13, l14, l15, l16, l17⟩ := hL
  have hlf : ∀ l, l < sLn s → ∃ c, c < 6 ∧ sLf s l = nI c := by
    intro l hl
    rw [iA_j hC.file l2, (l16 l hl).1]
    exact (l16 l hl).2.2.2.1
  have hlf2 : ∀ l, l < sLn t → ∃ c, c < 6 ∧ sLf t l = nI c := by
    intro l hl
    rw [q4] at hl
    rw [hg.ln l hl]
    exact hlf l hl
  have ex1 : ∀ b w, b < 51 → x = nI b → w < 51 → y = nI w → ¬ ((x < 0 ∨ nI 51 ≤ x) ∨ (y < 0 ∨ nI 51 ≤ y)) := by
    intro b w z1 z2 z3 z4 q
    rcases q with q | q
    · exact in_no q (in_bi z1 (by omega) z2)
    · exact in_no q (in_bi z3 (by omega) z4)
  obtain ⟨e1, e2⟩ := od_ag hg (o := true) b1 (p := be_ s 3) (q := be_ t 3) (fun a ha => be_ag hg hC.told b4 3 ha) rw0 fo (sAl s) (Nat.le_refl _)
  have oi := od_in s true (be_ s 3) rw0 (sAl s)
  have ol := od_le s true (be_ s 3) rw0 (sAl s)
  refine c_budget (h := 6) hC (by omega) hlf x1 x2 x3 x4 (fun c => ?_) (fun a b z1 z2 z3 z4 R hRe B hBe => ?_)
  · exact ⟨_, rfl, ⟨_, hM.this⟩, d_budget (h := 7) hM hlf2 h179 x5 h181 (fun _ => ⟨rfl, hR'⟩) (fun a b z1 z2 z3 z4 => absurd c (ex1 a b z1 z2 z3 z4))⟩
  · have hM2 : KM (ch_m (iP M 70 50 R.1) B.1 B.2.1 R.2 B.2.2) t (nI n) (nI dr) (nI pa) (nI cm) (nI os) gm tk pl bh va iw od := hM.mv hM.this (fun k hk => ax_ne (by omega) (ax_ne (by omega) (ax_ne (by omega) (ax_ne (by omega) rfl))))
    refine ⟨_, rfl, ⟨_, hM.this⟩, d_budget (h := 7) (M := ch_m (iP M 70 50 R.1) B.1 B.2.1 R.2 B.2.2) hM2 hlf2 h179 x5 h181 (fun c => absurd c (ex1 a b z1 z2 z3 z4)) (fun a' b' _ _ _ _ R2 hR2 B2 hB2 => ?_)⟩
    rw [q1] at hR2
    rw [← hRe] at e1 e2 oi ol
    rw [← hR2] at e1 e2
    have hba := bu_ag (fo := fo_ s R.1) (fo2 := fo_ t R2.1) (rw := R.1) (rw2 := R2.1) (n := x) (m := y) (c0 := cr) (c2 := c2) (p0 := fun j => if j < 6 then 0 else pf j) (p2 := fun j => if j < 6 then 0 else p2 j) (N := R.2) (fun j hj => by
      show (if j < 6 then _ else _) = (if j < 6 then _ else _)
      rw [if_pos hj, if_pos hj]) (fun k hk => by
      obtain ⟨c, hc, hbe, er⟩ := oi k hk
      have hst : sSt s c = 0 := by
        unfold be_ at hbe
        simp at hbe
        exact hbe.1
      obtain ⟨l, hl, el⟩ := hC.told c hc hst
      obtain ⟨v, hv, ef⟩ := hlf l hl
      have e3 := e2 k hk
      refine ⟨?_, ?_, e3⟩
      · unfold fo_
        rw [e3, er, nI_clamp (by omega), (hg.al c hc).1, el, nI_clamp (by omega), hg.ln l hl]
      · unfold fo_
        rw [er, nI_clamp (by omega), el, nI_clamp (by omega), ef, nI_clamp (by omega)]
        exact hv) R.2 (Nat.le_refl _)
    have bl := bu_le (fo := fo_ s R.1) (rw := R.1) (n := x) (m := y) (c0 := cr) (p0 := fun j => if j < 6 then 0 else pf j) R.2
    rw [← hBe] at bl hba
    rw [← e1, ← hB2] at hba
    obtain ⟨v1, v2, v3⟩ := hba
    rw [v1]
    refine ⟨rfl, ?_⟩
    have key : ∀ k, ¬ (k = 69 ∨ k = 70 ∨ k = 71 ∨ k = 72 ∨ k = 143 ∨ k = 179 ∨ k = 180 ∨ k = 181) → (bd_m (ch_m (iP M 70 50 R.1) B.1 B.2.1 R.2 B.2.2) t (nI n) (nI dr) (nI pa) (nI os) gm tk pl bh va iw R2.1 B2.1 B2.2.1 R2.2 B.2.2).2 k = M.2 k := fun k hk => ax_ne (by omega) (ax_ne (by omega) (ax_ne (by omega) (ax_ne (by omega) (ax_ne (by omega) (ax_ne (by omega) (ax_ne (by omega) (ax_ne (by omega) rfl)))))))
    refine Rel.mk2 hg hC.top rfl (hT.mv ?_) (hL'.mv ?_) (hA.mv ?_) (hF.mv ?_) (hS.mv ?_) (hO.mv ?_) (hU.mv ?_) ⟨_, _, B.2.1, _, B2.2.1, rfl, rfl, rfl, rfl, rfl, by omega, fun j hj => (v3 j hj).symm⟩ (hX.set (fun k hk => ?_)) hz
    case refine_8 =>
      by_cases z : k = 179
      · subst z
        exact Or.inr ⟨_, rfl⟩
      · by_cases z2 : k = 181
        · subst z2
          exact Or.inr ⟨_, rfl⟩
        · exact Or.inl (key k (by omega))
    all_goals exact fun k hk => key k (by omega)
end BUD2
