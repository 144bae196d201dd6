/-! both: build -/
theorem sq_ls {ln dr : Nat} {bf wt : Nat → Option Nat} {be : Nat → Int32} {w x : Int64} (hJ : J_ ln dr bf wt) (hr : rp_ be bf dr) (hln : ln ≤ 40) (hdr : dr ≤ 40) (h : sq_ wt ln w x) : x = ls_ be dr w := by
  refine l_ext (fun j hj => ?_)
  rw [Bool.eq_iff_iff, h j hj]
  unfold ls_
  rw [lset_b _ _ (by omega) j hj, Bool.and_eq_true_iff, Bool.and_eq_true_iff, decide_eq_true_eq, decide_eq_true_eq]
  constructor
  · rintro ⟨l, h1, h2, h3⟩
    obtain ⟨a1, a2⟩ := hJ.2 l h1 j h3
    have e : be j = nI l := by rw [hr j a1, a2]; rfl
    refine ⟨a1, ?_, ?_⟩
    · rw [e]; exact nI_pos (by omega)
    · rw [e, nI_clamp (by omega)]; exact h2
  · rintro ⟨h1, h2, h3⟩
    have e := hr j h1
    cases e2 : bf j with
    | none =>
      rw [e2] at e
      exact absurd (by rw [e]; decide) h2
    | some l =>
      rw [e2] at e
      have e : be j = nI l := e
      obtain ⟨a1, a2⟩ := hJ.1 j h1 l e2
      rw [e, nI_clamp (by omega)] at h3
      exact ⟨l, a1, h3, a2⟩
section BB
variable {g : ax_Y}
theorem both_build : BI g (Rel g) mt_Top_build mt_Mod_build [] := by
  intro M hR
  have hR' := hR
  obtain ⟨s, t, dw, nw, gc, sl, n, pa, dr, cm, os, gm, tk, pl, bh, va, iw, od, hC, hM, hg, hT, hL, hA, hF, hS, hO, hU, hH, hX, hz⟩ := hR.get
  obtain ⟨b1, b2, b3, b4, b5⟩ := hC.bd
  obtain ⟨q1, q2, q3, q4, q5, q6, q7⟩ := hg.sc
  obtain ⟨hd, nf, nm, nb, df, dm, db, mf, mm, mp, gf, gmm, l1, l2, l3, l4, l5, l6, l7, l8, l9, l10, l11, l12, l13, l14, l15, l16, l17⟩ := hL
  obtain ⟨li, ki, wa, pp, qq, st, li2, k2, w2, p2, qq2, st2, ob, trr, pst, a1, a2, a3, a4, a5, a6, a7, a8, a9, a10, a11, a12, a13, a14, a15, a16, a17, a18, a19, a20, a21⟩ := hA
  obtain ⟨sl', pm, un, kd, wh, fi, rz, rb, ls, s1, s2, s3, s4, s5, s6, s7, s8, s9, s10, s11, s12, s13⟩ := hS
  obtain rfl : sl = sl' := by
    have e := hC.slots.symm.trans s2
    simp at e
    exact e
  obtain ⟨⟨o0, n0, x5⟩, ⟨e6, x6⟩, ⟨e7, x7⟩, ⟨e8, x8⟩, -, -, -, -, -, -, -, -, ⟨e150, x150⟩, ⟨e151, x151⟩, ⟨e152, x152⟩, ⟨e153, x153⟩, -⟩ := id hX
  have el := iA_j hC.line a2
  have es := iA_j hC.state a7
  have els : ∀ k, k < sSi s → sLs t k = sLs s k := fun k hk => (hg.si k hk).2.2.2.2
  have elt : sLs t = ls := by
    have e := hM.silenceLines.symm.trans s9
    simp at e
    exact e
  have ho : ∀ i, i < sLn s → nf i = nI ((mf i).toNatClampNeg) ∧ (mf i).toNatClampNeg < 6 := by
    intro i hi
    obtain ⟨v1, -, -, ⟨c, hc, v4⟩, -⟩ := l16 i hi
    rw [v1, v4, nI_clamp (by omega)]
    exact ⟨rfl, hc⟩
  have hn : ∀ j, j < dr → df j = nI ((gf j).toNatClampNeg) ∧ (gf j).toNatClampNeg < 6 := by
    intro j hj
    obtain ⟨v1, -, -, c, hc, v4⟩ := l17 j hj
    rw [v1, v4, nI_clamp (by omega)]
    exact ⟨rfl, hc⟩
  have mk : ∀ i j, i < sLn s → j < dr → decide (mm i = gmm j) = decide (nm i = dm j) := by
    intro i j hi hj
    rw [(l16 i hi).2.1, (l17 j hj).2.1]
  have emt := mt_cg (fo := fun i => (mf i).toNatClampNeg) (fn := fun j => (gf j).toNatClampNeg) mk 6
  obtain ⟨hJ, -, -⟩ := mt_J (fun i => (mf i).toNatClampNeg) (fun j => (gf j).toNatClampNeg) (fun i j => decide (nm i = dm j)) (sLn s) dr 6
  have hts : ∀ a, a < sAl t → (sSt t a = 0 ∨ sSt t a = 1 ∨ sSt t a = 2) ∧ (sSt t a = 2 → sLi t a = -1) := by
    intro a ha
    rw [q1] at ha
    obtain ⟨d1, -, -, -, -, d6⟩ := hg.al a ha
    obtain ⟨-, u2, u3, -⟩ := a19 a ha
    rw [d1, d6, el, es]
    exact ⟨u2, u3⟩
  have ho2 : ∀ i, i < sLn t → mf i = nI ((mf i).toNatClampNeg) ∧ (mf i).toNatClampNeg < 6 := by
    intro i hi
    rw [q4] at hi
    obtain ⟨v1, -, -, ⟨c, hc, v4⟩, -⟩ := l16 i hi
    rw [v4, nI_clamp (by omega)]
    exact ⟨rfl, hc⟩
  have hn2 : ∀ j, j < dr → gf j = nI ((gf j).toNatClampNeg) ∧ (gf j).toNatClampNeg < 6 := by
    intro j hj
    obtain ⟨v1, -, -, c, hc, v4⟩ := l17 j hj
    rw [v4, nI_clamp (by omega)]
    exact ⟨rfl, hc⟩
  refine c_build (h := 5) (fo := fun i => (mf i).toNatClampNeg) (fn := fun j => (gf j).toNatClampNeg) (pm := pm) hC hd a8 x5 x6 x7 x8 l2 l3 l5 l6 l7 l8 l15 (fun j hj => (l17 j hj).2.2.1) ho hn s3 s4 (fun k hk => ?_) (fun q => ?_) (fun nq N o1 n1 y6 y7 y8 be l2c s2c fN c0 c5 c6 c7 c8 c78 cn cb cr c10 c15 cls csl => ?_)
  · obtain ⟨a, b, c, d, e, r, f, hh, -⟩ := s13 k hk
    exact ⟨a, b, c, d, e, r, f, hh⟩
  · exact ⟨_, rfl, ⟨_, hM.this⟩, d_build (h := 7) (fo := fun i => (mf i).toNatClampNeg) (fn := fun j => (gf j).toNatClampNeg) hM l9 l10 l11 l12 l13 x150 x151 x152 x153 a16 a15 l15 (by rw [q4, q5]; exact hz) hts ho2 hn2 (fun _ => ⟨rfl, hR'⟩) (fun w => absurd (q5.trans q) w)⟩
  · have kN : ∀ k, 87 ≤ k → N.2 k = M.2 k := fun k hk => fN k (by omega)
    have hMN : KM N t (nI n) (nI dr) (nI pa) (nI cm) (nI os) gm tk pl bh va iw od := hM.mv ((kN 143 (by omega)).trans hM.this) (fun k hk => kN k (by omega))
    refine ⟨_, rfl, ⟨_, hMN.this⟩, d_build (h := 7) (M := N) (fo := fun i => (mf i).toNatClampNeg) (fn := fun j => (gf j).toNatClampNeg) hMN ((kN _ (by omega)).trans l9) ((kN _ (by omega)).trans l10) ((kN _ (by omega)).trans l11) ((kN _ (by omega)).trans l12) ((kN _ (by omega)).trans l13) ((kN _ (by omega)).trans x150) ((kN _ (by omega)).trans x151) ((kN _ (by omega)).trans x152) ((kN _ (by omega)).trans x153) ((kN _ (by omega)).trans a16) ((kN _ (by omega)).trans a15) l15 (by rw [q4, q5]; exact hz) hts ho2 hn2 (fun w => absurd (q5.symm.trans w) nq) (fun _ N2 z0 z1 z2 z3 f2 m2 p2' l2m s2m o2 y2 fM m143 m145 m146 m147 m150 m151 m152 m153 m154 m155 m160 m161 m170 mfm mrp mls msq => ?_)⟩
    rw [q1, q4, q5, emt] at mls
    rw [q4, emt] at mrp
    rw [q3, q4, emt, elt] at msq
    rw [q1, q2, q3, q5, q6] at m143
    rw [q5] at m154
    generalize hbf : (mt_ (fun i => (mf i).toNatClampNeg) (fun j => (gf j).toNatClampNeg) (fun i j => decide (nm i = dm j)) (sLn s) dr 6).1 = bf at hJ cr mrp
    generalize hwt : (mt_ (fun i => (mf i).toNatClampNeg) (fun j => (gf j).toNatClampNeg) (fun i j => decide (nm i = dm j)) (sLn s) dr 6).2 = wt at hJ cls mls msq
    rw [q5]
    refine ⟨rfl, ?_⟩
    have cl_e : ∀ a, a < sAl s → cl_ (sSt t) (sLi t) wt a = cl_ st li wt a ∧ cl_ (sSt s) (sLi s) wt a = cl_ st li wt a := by
      intro a ha
      obtain ⟨d1, -, -, -, -, d6⟩ := hg.al a ha
      unfold cl_
      rw [d1, d6, el, es]
      exact ⟨rfl, rfl⟩
    have key : ∀ k, ¬ (k = 0 ∨ (5 ≤ k ∧ k ≤ 8) ∨ k = 10 ∨ k = 15 ∨ (30 ≤ k ∧ k ≤ 68 ∧ k % 3 = 0) ∨ k = 78 ∨ k = dw + 3 ∨ k = nw ∨ k = 143 ∨ (145 ≤ k ∧ k ≤ 147) ∨ (150 ≤ k ∧ k ≤ 155) ∨ k = 160 ∨ k = 161 ∨ k = 170) → N2.2 k = M.2 k := fun k hk => (fM k (by omega)).trans (fN k (by omega))
    have kc : ∀ k, k < 143 → N2.2 k = N.2 k := fun k hk => fM k (by omega)
    -- the new lines of alarms
    have val : ∀ a, a < sAl s → cl_ st li wt a = -1 ∨ ∃ c j, c < sLn s ∧ j < dr ∧ st a = 0 ∧ li a = nI c ∧ wt c = some j ∧ cl_ st li wt a = nI j := by
      intro a ha
      unfold cl_
      by_cases z : st a = 0
      · obtain ⟨-, -, -, u4, -⟩ := a19 a ha
        obtain ⟨c, hc, ec⟩ := u4 (by rw [z]; decide)
        have e5 : (if st a = 0 then oI (wt (li a).toNatClampNeg) else -1) = oI (wt c) := by rw [if_pos z, ec, nI_clamp (by omega)]
        rw [e5]
        cases e : wt c with
        | none => exact Or.inl rfl
        | some j => exact Or.inr ⟨c, j, hc, (hJ.2 c hc j e).1, z, ec, e, rfl⟩
      · rw [if_neg z]
        exact Or.inl rfl
    refine ⟨n, sBl s + 1, dr, 0, sAl s, sRu s, sSi s, pa, cm, os, nw, dw, sPv s, gm, tk, pl, bh, va, iw, od, (kc 0 (by omega)).trans c0, m143, hT.mv ?_, ⟨by omega, df, dm, be, nf, nm, nb, f2, m2, p2', gf, gmm, (key _ (by omega)).trans l5, (key _ (by omega)).trans l6, (key _ (by omega)).trans l7, (kc _ (by omega)).trans cb, (kc _ (by omega)).trans cn, (key _ (by omega)).trans l2, (key _ (by omega)).trans l3, (key _ (by omega)).trans l4, m145, m146, m147, (key _ (by omega)).trans l12, (key _ (by omega)).trans l13, l15, by omega, fun j hj => ?_, fun j hj => absurd hj (Nat.not_lt_zero j)⟩, ⟨l2c, ki, wa, pp, qq, s2c, l2m, k2, w2, p2, qq2, s2m, o2, _, _, (key _ (by omega)).trans a1, (kc _ (by omega)).trans c10, (key _ (by omega)).trans a3, (key _ (by omega)).trans a4, (key _ (by omega)).trans a5, (key _ (by omega)).trans a6, (kc _ (by omega)).trans c15, (kc _ (by omega)).trans c78, m155, (key _ (by omega)).trans a10, (key _ (by omega)).trans a11, (key _ (by omega)).trans a12, (key _ (by omega)).trans a13, m160, m161, m154, b1, by omega, fun a ha => ?_, fun a b ha hb h1 h2 h3 h4 => ?_, fun b hb => ?_⟩, hF.mv ?_, ⟨sl, pm, un, kd, wh, fi, rz, rb, y2, (key _ (by omega)).trans s1, (key _ (by omega)).trans s2, s3, s4, (key _ (by omega)).trans s5, (key _ (by omega)).trans s6, (key _ (by omega)).trans s7, (key _ (by omega)).trans s8, m170, (key _ (by omega)).trans s10, (key _ (by omega)).trans s11, s12, fun k hk => ?_⟩, hO.mv ?_, hU.mv ?_, hH.mv ?_, hX.set (fun k hk => ?_), fun w => absurd w (by omega)⟩
    case refine_2 =>
      obtain ⟨v1, v2, -, c, hc, v4⟩ := l17 j hj
      obtain ⟨w1, w2⟩ := mfm j hj
      refine ⟨v1.trans w1.symm, v2.trans w2.symm, (cr j hj).trans (mrp j hj).symm, ⟨c, hc, w1.trans v4⟩, ?_⟩
      rw [mrp j hj]
      cases e : bf j with
      | none => exact Or.inl rfl
      | some v => exact Or.inr ⟨v, by have := (hJ.1 j hj v e).1; omega, rfl⟩
    case refine_3 =>
      obtain ⟨u1, u2, u3, u4, u5, u6, u7, u8⟩ := a19 a ha
      obtain ⟨g1, g2⟩ := cls a ha
      obtain ⟨m1, m2', m3⟩ := mls a ha
      obtain ⟨e1, e2⟩ := cl_e a ha
      rw [e2] at g1 g2
      rw [e1] at m1 m2'
      refine ⟨⟨m1.trans g1.symm, u1.2.1, u1.2.2.1, u1.2.2.2.1, u1.2.2.2.2.1, m2'.trans g2.symm⟩, ?_, ?_, ?_, u5, u6, u7, fun b h1 h2 => ?_⟩
      · rw [g2]
        split
        · exact Or.inr (Or.inr rfl)
        · exact Or.inr (Or.inl rfl)
      · intro w
        rw [g1]
        by_cases z : cl_ st li wt a = -1
        · exact z
        · rw [g2, if_neg z] at w
          exact absurd w (by decide)
      · intro w
        rcases val a ha with z | ⟨c, j, z1, z2, z3, z4, z5, z6⟩
        · rw [g2, if_pos z] at w
          exact absurd rfl w
        · exact ⟨j, z2, by rw [g1, z6]⟩
      · rw [m3]
        unfold on_
        obtain ⟨-, -, -, -, -, d6⟩ := hg.al a ha
        rw [d6, es]
        by_cases w : st a = 0
        · obtain ⟨c, hc, -⟩ := u4 (by rw [w]; decide)
          have bl1 : sBl s ≠ 0 := fun q => by have := hz q; omega
          rw [if_pos w, b_or, u8 b (by omega) h2, b_one _ (by omega) h2, decide_eq_false (by omega)]
          rfl
        · rw [if_neg w]
          exact u8 b (by omega) h2
    case refine_4 =>
      obtain ⟨g1, g2⟩ := cls a ha
      obtain ⟨g3, g4⟩ := cls b hb
      obtain ⟨-, e2⟩ := cl_e a ha
      obtain ⟨-, e4⟩ := cl_e b hb
      rw [e2] at g1 g2
      rw [e4] at g3 g4
      rcases val a ha with z | ⟨c, j, z1, z2, z3, z4, z5, z6⟩
      · rw [g2, if_pos z] at h1
        exact absurd rfl h1
      · rcases val b hb with y | ⟨c', j', y1, y2, y3, y4, y5, y6⟩
        · rw [g4, if_pos y] at h2
          exact absurd rfl h2
        · rw [g1, g3, z6, y6] at h3
          have ej := nn_eq h3
          subst ej
          have f1 := (hJ.2 c z1 j z5).2
          have f2 := (hJ.2 c' y1 j y5).2
          have ec : c = c' := by
            rw [f1] at f2
            injection f2
          subst ec
          exact a20 a b ha hb (by rw [z3]; decide) (by rw [y3]; decide) (by rw [z4, y4]) h4
    case refine_5 =>
      have bl0 : sBl s ≠ 0 := by omega
      rw [if_neg bl0, if_neg bl0]
      have eo : ∀ a, a < sAl s → bt (o2 a) b = if b + 1 = sBl s then decide (st a = 0) else bt (ob a) b := by
        intro a ha
        obtain ⟨-, -, -, -, -, -, -, u8⟩ := a19 a ha
        obtain ⟨d1, -, -, -, -, d6⟩ := hg.al a ha
        rw [(mls a ha).2.2]
        unfold on_
        rw [d6, es]
        by_cases z : b + 1 = sBl s
        · rw [if_pos z]
          by_cases w : st a = 0
          · rw [if_pos w, b_or, b_one _ (by omega) (by omega), decide_eq_true (by omega : b = sBl s - 1), decide_eq_true w, Bool.or_true]
          · rw [if_neg w, decide_eq_false w]
            exact u8 b (by omega) (by omega)
        · rw [if_neg z]
          by_cases w : st a = 0
          · rw [if_pos w, b_or, b_one _ (by omega) (by omega), decide_eq_false (by omega : ¬ b = sBl s - 1), Bool.or_false]
          · rw [if_neg w]
      by_cases z : b + 1 = sBl s
      · have e1 : ∀ w, w < 4 → kt_ s (sBl s - 1) pst 4 (4 * b + w) = lset (be_ s w) (sAl s) := by
          intro w hw
          unfold kt_
          rw [if_pos (by omega), show 4 * b + w - 4 * (sBl s - 1) = w by omega]
        refine ⟨fun a ha => ?_, fun w hw => ?_⟩
        · have e0 := e1 0 (by omega)
          rw [Nat.add_zero] at e0
          rw [e0, lset_b _ _ (by omega) a ha]
          by_cases y : a < sAl s
          · rw [eo a y, if_pos z]
            unfold be_
            rw [es]
            simp
          · rw [decide_eq_false y]
            rfl
        · rw [e1 w hw, cnt_l _ (by omega)]
          unfold tt_
          rw [if_pos (by omega), show 4 * b + w - 4 * (sBl s - 1) = w by omega, q1]
          refine congrArg nI (cnt_cg (fun a ha => be_ag hg hC.told b4 w ha))
      · have e1 : ∀ w, w < 4 → kt_ s (sBl s - 1) pst 4 (4 * b + w) = pst (4 * b + w) := by
          intro w hw
          unfold kt_
          rw [if_neg (by omega)]
        obtain ⟨v1, v2⟩ := a21 b (by omega)
        refine ⟨fun a ha => ?_, fun w hw => ?_⟩
        · have e0 := e1 0 (by omega)
          rw [Nat.add_zero] at e0
          rw [e0, v1 a ha]
          by_cases y : a < sAl s
          · rw [eo a y, if_neg z]
          · rw [decide_eq_false y]
            rfl
        · rw [e1 w hw]
          unfold tt_
          rw [if_neg (by omega)]
          exact v2 w hw
    case refine_7 =>
      obtain ⟨a, b, c, d, e, r, f, hh, cc⟩ := s13 k hk
      have h1 := csl k hk a b c d e r f hh
      refine ⟨a, b, c, d, _, r, f, h1.mv2 (s3 k hk).1 (fun x hx => kc x (by omega)), fun hk2 => ?_⟩
      obtain ⟨w1, w2, w3, w4, w5, w6, w7, w8⟩ := cc hk2
      rw [if_pos hk2]
      refine ⟨w1, w2, w3, w4, ?_, w6, w7, w8⟩
      rw [← w5]
      exact sq_ls hJ cr b4 l15 (msq k hk2)
    case refine_11 =>
      by_cases e : (5 ≤ k ∧ k ≤ 8) ∨ (150 ≤ k ∧ k ≤ 153)
      · rcases (by omega : k = 5 ∨ k = 6 ∨ k = 7 ∨ k = 8 ∨ k = 150 ∨ k = 151 ∨ k = 152 ∨ k = 153) with rfl | rfl | rfl | rfl | rfl | rfl | rfl | rfl
        · exact Or.inr ⟨_, _, (kc _ (by omega)).trans c5⟩
        · exact Or.inr ⟨_, (kc _ (by omega)).trans c6⟩
        · exact Or.inr ⟨_, (kc _ (by omega)).trans c7⟩
        · exact Or.inr ⟨_, (kc _ (by omega)).trans c8⟩
        · exact Or.inr ⟨_, m150⟩
        · exact Or.inr ⟨_, m151⟩
        · exact Or.inr ⟨_, m152⟩
        · exact Or.inr ⟨_, m153⟩
      · exact Or.inl (key k (by omega))
    all_goals exact fun k hk => key k (by omega)
end BB
