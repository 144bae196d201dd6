/-! scratch cells; rank, budget -/
/-- what a scratch cell must look like -/
def ss_ (k : Nat) (x : Option ax_E) : Prop := match k with
  | 5 => ∃ o n : Int32, x = some (.inr (4, [.ref 6, .ref 7, .ref 8, .int o, .int n]))
  | 6 => ∃ f, x = some (.inl (0, 40, .inl f))
  | 7 => ∃ f, x = some (.inl (0, 40, .inl f))
  | 8 => ∃ f, x = some (.inl (0, 1681, .inl f))
  | 24 => ∃ z y : Int32, x = some (.inr (10, [.ref 25, .ref 27, .ref 28, .ref 29, .int z, .int y]))
  | 25 => ∃ r, r ≤ 160 ∧ x = some (.inr (7, [.ref 26, .int (nI r)]))
  | 26 => ∃ f, x = some (.inl (1, 160, .inl f))
  | 27 => ∃ f, x = some (.inl (0, 161, .inl f))
  | 28 => ∃ f, x = some (.inl (0, 161, .inl f))
  | 29 => ∃ f, x = some (.inl (0, 161, .inl f))
  | 73 => ∃ z : Int32, x = some (.inr (3, [.ref 74, .int z]))
  | 74 => ∃ f, x = some (.inl (0, 4, .inl f))
  | 150 => ∃ f, x = some (.inl (0, 40, .inl f))
  | 151 => ∃ f, x = some (.inl (0, 40, .inl f))
  | 152 => ∃ f, x = some (.inl (0, 40, .inl f))
  | 153 => ∃ f, x = some (.inl (0, 1681, .inl f))
  | 164 => ∃ f, x = some (.inl (0, 50, .inl f))
  | 165 => ∃ f, x = some (.inl (0, 18, .inl f))
  | 178 => ∃ f, x = some (.inl (2, 676, .inl f))
  | 179 => ∃ f, x = some (.inl (0, 50, .inl f))
  | 181 => ∃ f, x = some (.inl (0, 6, .inl f))
  | 183 => ∃ f, x = some (.inl (0, 4, .inl f))
  | _ => True
theorem R_scr.set {M N : ax_M} (h : R_scr M) (e : ∀ k, c_scr k → N.2 k = M.2 k ∨ ss_ k (N.2 k)) : R_scr N := by
  obtain ⟨⟨o, n, h1⟩, ⟨q2, h2⟩, ⟨q3, h3⟩, ⟨q4, h4⟩, ⟨z, x, h5⟩, ⟨r, h6, h7⟩, ⟨f, h8⟩, ⟨q9, h9⟩, ⟨q10, h10⟩, ⟨q11, h11⟩, ⟨y, h12⟩, ⟨q13, h13⟩, ⟨q14, h14⟩, ⟨q15, h15⟩, ⟨q16, h16⟩, ⟨q17, h17⟩, ⟨q18, h18⟩, ⟨q19, h19⟩, ⟨f2, h20⟩, ⟨q21, h21⟩, ⟨q22, h22⟩, ⟨q23, h23⟩⟩ := h
  refine ⟨?_, ?_, ?_, ?_, ?_, ?_, ?_, ?_, ?_, ?_, ?_, ?_, ?_, ?_, ?_, ?_, ?_, ?_, ?_, ?_, ?_, ?_⟩
  · exact (e 5 (by omega)).elim (fun q => ⟨o, n, q.trans h1⟩) id
  · exact (e 6 (by omega)).elim (fun q => ⟨_, q.trans h2⟩) id
  · exact (e 7 (by omega)).elim (fun q => ⟨_, q.trans h3⟩) id
  · exact (e 8 (by omega)).elim (fun q => ⟨_, q.trans h4⟩) id
  · exact (e 24 (by omega)).elim (fun q => ⟨_, _, q.trans h5⟩) id
  · exact (e 25 (by omega)).elim (fun q => ⟨_, h6, q.trans h7⟩) id
  · exact (e 26 (by omega)).elim (fun q => ⟨_, q.trans h8⟩) id
  · exact (e 27 (by omega)).elim (fun q => ⟨_, q.trans h9⟩) id
  · exact (e 28 (by omega)).elim (fun q => ⟨_, q.trans h10⟩) id
  · exact (e 29 (by omega)).elim (fun q => ⟨_, q.trans h11⟩) id
  · exact (e 73 (by omega)).elim (fun q => ⟨_, q.trans h12⟩) id
  · exact (e 74 (by omega)).elim (fun q => ⟨_, q.trans h13⟩) id
  · exact (e 150 (by omega)).elim (fun q => ⟨_, q.trans h14⟩) id
  · exact (e 151 (by omega)).elim (fun q => ⟨_, q.trans h15⟩) id
  · exact (e 152 (by omega)).elim (fun q => ⟨_, q.trans h16⟩) id
  · exact (e 153 (by omega)).elim (fun q => ⟨_, q.trans h17⟩) id
  · exact (e 164 (by omega)).elim (fun q => ⟨_, q.trans h18⟩) id
  · exact (e 165 (by omega)).elim (fun q => ⟨_, q.trans h19⟩) id
  · exact (e 178 (by omega)).elim (fun q => ⟨_, q.trans h20⟩) id
  · exact (e 179 (by omega)).elim (fun q => ⟨_, q.trans h21⟩) id
  · exact (e 181 (by omega)).elim (fun q => ⟨_, q.trans h22⟩) id
  · exact (e 183 (by omega)).elim (fun q => ⟨_, q.trans h23⟩) id
/-- how many of a row are taken, and of which file how many -/
def bu_ (fo : Nat → Nat) (rw : Nat → Int32) (n m : Int32) (c0 p0 : Nat → Int32) : Nat → (Nat → Int32) × (Nat → Int32) × Nat
  | 0 => (p0, c0, 0)
  | k + 1 => if nI (bu_ fo rw n m c0 p0 k).2.2 < n ∧ (bu_ fo rw n m c0 p0 k).1 (fo k) < m then (upd (bu_ fo rw n m c0 p0 k).1 (fo k) ((bu_ fo rw n m c0 p0 k).1 (fo k) + 1), upd (bu_ fo rw n m c0 p0 k).2.1 (bu_ fo rw n m c0 p0 k).2.2 (rw k), (bu_ fo rw n m c0 p0 k).2.2 + 1) else bu_ fo rw n m c0 p0 k
theorem bu_le {fo : Nat → Nat} {rw : Nat → Int32} {n m : Int32} {c0 p0 : Nat → Int32} : ∀ k, (bu_ fo rw n m c0 p0 k).2.2 ≤ k := by
  intro k
  induction k with
  | zero => exact Nat.le_refl 0
  | succ k ih =>
    rw [bu_]
    split
    · exact Nat.succ_le_succ ih
    · omega
theorem bu_stop {fo : Nat → Nat} {rw : Nat → Int32} {n m : Int32} {c0 p0 : Nat → Int32} {k : Nat} (h : ¬ nI (bu_ fo rw n m c0 p0 k).2.2 < n) : ∀ d, bu_ fo rw n m c0 p0 (k + d) = bu_ fo rw n m c0 p0 k := by
  intro d
  induction d with
  | zero => rfl
  | succ d ih =>
    rw [show k + (d + 1) = (k + d) + 1 by omega, bu_, ih, if_neg (fun q => h q.1)]
theorem bu_ag {fo fo2 : Nat → Nat} {rw rw2 : Nat → Int32} {n m : Int32} {c0 p0 c2 p2 : Nat → Int32} {N : Nat} (hp : ∀ j, j < 6 → p2 j = p0 j) (hf : ∀ k, k < N → fo2 k = fo k ∧ fo k < 6 ∧ rw2 k = rw k) : ∀ k, k ≤ N → (bu_ fo2 rw2 n m c2 p2 k).2.2 = (bu_ fo rw n m c0 p0 k).2.2 ∧ (∀ j, j < 6 → (bu_ fo2 rw2 n m c2 p2 k).1 j = (bu_ fo rw n m c0 p0 k).1 j) ∧ ∀ j, j < (bu_ fo rw n m c0 p0 k).2.2 → (bu_ fo2 rw2 n m c2 p2 k).2.1 j = (bu_ fo rw n m c0 p0 k).2.1 j := by
  intro k
  induction k with
  | zero => intro _; exact ⟨rfl, hp, fun j hj => absurd hj (Nat.not_lt_zero j)⟩
  | succ k ih =>
    intro hk
    obtain ⟨e1, e2, e3⟩ := ih (by omega)
    obtain ⟨f1, f2, f3⟩ := hf k (by omega)
    rw [bu_, bu_, e1, f1, e2 _ f2, f3]
    by_cases z : nI (bu_ fo rw n m c0 p0 k).2.2 < n ∧ (bu_ fo rw n m c0 p0 k).1 (fo k) < m
    · rw [if_pos z, if_pos z]
      refine ⟨rfl, fun j hj => ?_, fun j hj => ?_⟩
      · show upd _ _ _ j = upd _ _ _ j
        unfold upd
        by_cases q : j = fo k
        · rw [if_pos q, if_pos q]
        · rw [if_neg q, if_neg q, e2 j hj]
      · show upd _ _ _ j = upd _ _ _ j
        have hj : j < (bu_ fo rw n m c0 p0 k).2.2 + 1 := hj
        unfold upd
        by_cases q : j = (bu_ fo rw n m c0 p0 k).2.2
        · rw [if_pos q, if_pos q]
        · rw [if_neg q, if_neg q, e3 j (by omega)]
    · rw [if_neg z, if_neg z]
      exact ⟨e1, e2, e3⟩
theorem nI_su (x : Int32) : ∃ k, x = nI k := ⟨x.toBitVec.toNat, Int32.toBitVec_inj.mp (by
  show x.toBitVec = BitVec.ofNat 32 _
  simp)⟩
/-- the relation out of its parts, with t's numbers in the reference's object -/
theorem Rel.mk2 {g : ax_Y} {N : ax_M} {s t : Sta} {n dr pa cm os dw nw : Nat} {gm tk pl bh : Int32} {va : Int64} {iw od : Int32} (hg : Ag s t) (h0 : oC N 0 11 (tp_f dw nw (nI (sBl s)) (nI pa))) (h1 : oC N 143 12 (md_f (nI n) (nI (sBl t)) (nI (sLn t)) (nI dr) (nI (sAl t)) (nI (sRu t)) (sPv t) (nI (sSi t)) (nI pa) (nI cm) (nI os) gm tk pl bh va iw od)) (hT : R_text N n) (hL : R_lines N (sLn s) dr dw nw) (hA : R_alarms N (sBl s) (sLn s) (sAl s)) (hF : R_facts N (sRu s) (sPv s)) (hS : R_sil N (sLn s) (sSi s)) (hO : R_own N pa) (hU : R_out N os) (hC : R_cho N cm) (hX : R_scr N) (hz : sBl s = 0 → sLn s = 0) : Rel g N := by
  obtain ⟨q1, q2, q3, q4, q5, q6, q7⟩ := hg.sc
  rw [q1, q2, q3, q4, q5, q6] at h1
  exact ⟨n, sBl s, sLn s, dr, sAl s, sRu s, sSi s, pa, cm, os, dw, nw, sPv s, gm, tk, pl, bh, va, iw, od, h0, h1, hT, hL, hA, hF, hS, hO, hU, hC, hX, hz⟩
section RANK
variable {g : ax_Y} {M : ax_M} {Q : Option Value → ax_M → Prop} {h : Nat} {s : Sta} {dw nw : Nat} {gc pa : Int32} {sl : Nat → Option Nat} {n dr os gm tk pl bh : Int32} {va : Int64} {iw od : Int32}
theorem c_rank {x : Int32} {k0 : Nat} {cm : Int32} {f : Nat → Int32} (hK : KC M s dw nw gc pa sl) (h_ranks : oC M 69 6 (rk_f k0 cm)) (h_row : iA M 70 50 f) (h1 : x < 0 → Q (some (.int (-2))) M) (h2 : ∀ k, k < 2147483648 → x = nI k → Q (some (.int (if k < (od_ s true (be_ s 3) f (sAl s)).2 then (od_ s true (be_ s 3) f (sAl s)).1 k else -1))) (rk_m M (od_ s true (be_ s 3) f (sAl s)).1 (od_ s true (be_ s 3) f (sAl s)).2 cm)) : ax_G g mt_Top_rank (h + 5) 0 0 0 [.ref 0, .int x] [] M Q := by
  obtain ⟨b1, b2, b3, b4, b5⟩ := hK.bd
  refine s_iload_n 1 rfl rfl rfl ?_
  refine s_if_ge 7 4 rfl rfl (by decide) (fun c1 => ?_) (fun c1 => ?_)
  -- Top_rank 4: branch 7 4
  · obtain ⟨k, hk, rfl⟩ := nI_of (Int32.not_lt.mpr c1)
    have h2 := h2 k hk rfl
    refine s_aload_n 8 rfl rfl rfl ?_
    refine s_getfield 11 6 11 rfl rfl fl_Top_52 hK.top rfl ?_
    refine s_aload_n 12 rfl rfl rfl ?_
    refine s_getfield 11 3 15 rfl rfl fl_Top_31 hK.top rfl ?_
    refine s_aload_n 16 rfl rfl rfl ?_
    refine s_iconst 3 17 rfl rfl (by decide) ?_
    refine c_callV1 (h+4) 20 rfl rfl mv_Top_208 (by omega) (Nat.le_of_ble_eq_true rfl) (Nat.le_of_ble_eq_true rfl) hK.top rfl rfl ?_
    -- Top_rank 20: call Top_setNow
    refine m_Top_setNow (h := h) (w := 3) hK (by omega) ?_
    dsimp only [ax_rs]
    refine s_iconst 1 21 rfl rfl (by decide) ?_
    refine c_callV3 (h+4) 24 rfl rfl mv_Top_281 (by omega) (Nat.le_of_ble_eq_true rfl) (Nat.le_of_ble_eq_true rfl) h_ranks rfl rfl ?_
    -- Top_rank 24: call Ranks_order
    refine m_Ranks_order (h := h + 2) (o := true) (p := be_ s 3) h_ranks h_row hK.alarms hK.line hK.kind hK.p hK.q b1 (fun a ha => by rw [lset_b _ _ (by omega) a (by omega), decide_eq_true ha, Bool.true_and]) ?_
    dsimp only [ax_rs]
    have ol := od_le s true (be_ s 3) f (sAl s)
    refine s_iload_n 25 rfl rfl rfl ?_
    refine s_aload_n 26 rfl rfl rfl ?_
    refine s_getfield 11 6 29 rfl rfl fl_Top_52 hK.top rfl ?_
    refine s_getfield 6 2 32 rfl rfl fl_Top_285 rfl rfl ?_
    refine s_icmp_ge 47 35 rfl rfl (by decide) (fun c2 => ?_) (fun c2 => ?_)
    -- Top_rank 35: branch 47 35
    · rw [if_neg (Nat.not_lt.mpr (nn_le c2))] at h2
      refine s_iconst (-1) 48 rfl rfl (by decide) ?_
      -- Top_rank 48: ireturn
      exact s_ireturn rfl .int rfl rfl (h2)
    · have hk2 := nn_nle c2
      rw [if_pos hk2] at h2
      refine s_aload_n 36 rfl rfl rfl ?_
      refine s_getfield 11 6 39 rfl rfl fl_Top_52 hK.top rfl ?_
      refine s_getfield 6 0 42 rfl rfl fl_Top_286 rfl rfl ?_
      refine s_iload_n 43 rfl rfl rfl ?_
      refine s_iaload (k) 44 rfl rfl rfl rfl (by omega) (by decide) ?_
      refine s_goto 48 rfl (by decide) ?_
      -- Top_rank 48: ireturn
      exact s_ireturn rfl .int rfl rfl (h2)
  · refine s_bipush (-2) 6 rfl rfl (by decide) ?_
    -- Top_rank 6: ireturn
    exact s_ireturn rfl .int rfl rfl (h1 (Int32.not_le.mp c1))
theorem d_rank {x : Int32} {cm : Int32} {f : Nat → Int32} (hK : KM M s n dr pa cm os gm tk pl bh va iw od) (h_order : iA M 179 50 f) (h1 : x < 0 → Q (some (.int (-2))) M) (h2 : ∀ k, k < 2147483648 → x = nI k → Q (some (.int (if k < (od_ s true (be_ s 3) f (sAl s)).2 then (od_ s true (be_ s 3) f (sAl s)).1 k else -1))) (ar_m M s n dr pa cm os gm tk pl bh va iw (od_ s true (be_ s 3) f (sAl s)).1 (od_ s true (be_ s 3) f (sAl s)).2)) : ax_G g mt_Mod_rank (h + 4) 0 0 0 [.ref 143, .int x] [] M Q := by
  obtain ⟨b1, b2, b3, b4, b5⟩ := hK.bd
  refine s_iload_n 1 rfl rfl rfl ?_
  refine s_if_ge 7 4 rfl rfl (by decide) (fun c1 => ?_) (fun c1 => ?_)
  -- Mod_rank 4: branch 7 4
  · obtain ⟨k, hk, rfl⟩ := nI_of (Int32.not_lt.mpr c1)
    have h2 := h2 k hk rfl
    refine s_aload_n 8 rfl rfl rfl ?_
    refine s_iconst 1 9 rfl rfl (by decide) ?_
    refine c_callV1 (h+3) 12 rfl rfl mv_Mod_332 (by omega) (Nat.le_of_ble_eq_true rfl) (Nat.le_of_ble_eq_true rfl) hK.this rfl rfl ?_
    -- Mod_rank 12: call Mod_arrange
    refine m_Mod_arrange (h := h) (o := true) hK h_order ?_
    dsimp only [ax_rs]
    rw [show (if (true : Bool) = true then 3 else 0) = 3 from rfl]
    have ol := od_le s true (be_ s 3) f (sAl s)
    refine s_iload_n 13 rfl rfl rfl ?_
    refine s_aload_n 14 rfl rfl rfl ?_
    refine s_getfield 12 51 17 rfl rfl fl_Mod_325 rfl rfl ?_
    refine s_icmp_ge 29 20 rfl rfl (by decide) (fun c2 => ?_) (fun c2 => ?_)
    -- Mod_rank 20: branch 29 20
    · rw [if_neg (Nat.not_lt.mpr (nn_le c2))] at h2
      refine s_iconst (-1) 30 rfl rfl (by decide) ?_
      -- Mod_rank 30: ireturn
      exact s_ireturn rfl .int rfl rfl (h2)
    · have hk2 := nn_nle c2
      rw [if_pos hk2] at h2
      refine s_aload_n 21 rfl rfl rfl ?_
      refine s_getfield 12 50 24 rfl rfl fl_Mod_117 rfl rfl ?_
      refine s_iload_n 25 rfl rfl rfl ?_
      refine s_iaload (k) 26 rfl rfl rfl rfl (by omega) (by decide) ?_
      refine s_goto 30 rfl (by decide) ?_
      -- Mod_rank 30: ireturn
      exact s_ireturn rfl .int rfl rfl (h2)
  · refine s_bipush (-2) 6 rfl rfl (by decide) ?_
    -- Mod_rank 6: ireturn
    exact s_ireturn rfl .int rfl rfl (h1 (Int32.not_le.mp c1))
theorem both_rank (x : Int32) : BI g (Rel g) mt_Top_rank mt_Mod_rank [.int x] := by
  intro M hR
  have hR' := hR
  obtain ⟨s, t, dw, nw, gc, sl, n, pa, dr, cm, os, gm, tk, pl, bh, va, iw, od, hC, hM, hg, hT, hL, hA, hF, hS, hO, hU, ⟨sz, rw0, cr, pf, c2, x1, x2, x3, x4, x5, x6, x7⟩, hX, hz⟩ := hR.get
  obtain ⟨b1, b2, b3, b4, b5⟩ := hC.bd
  obtain ⟨q1, q2, q3, q4, q5, q6, q7⟩ := hg.sc
  obtain ⟨ki, rfl⟩ := nI_su sz
  obtain ⟨fo, h179⟩ := (hX.2.2.2.2.2.2.2.2.2.2.2.2.2.2.2.2.2.2.2.1 : sI M 179 50)
  refine c_rank (h := 6) hC x1 x2 (fun c => ?_) (fun k hk e => ?_)
  · exact ⟨_, rfl, ⟨_, hM.this⟩, d_rank (h := 7) hM h179 (fun _ => ⟨rfl, hR'⟩) (fun k hk e => absurd (e ▸ c) (nI_pos hk))⟩
  · subst e
    obtain ⟨e1, e2⟩ := od_ag hg (o := true) b1 (p := be_ s 3) (q := be_ t 3) (fun a ha => be_ag hg hC.told b4 3 ha) rw0 fo (sAl s) (Nat.le_refl _)
    have hM2 : KM (rk_m M (od_ s true (be_ s 3) rw0 (sAl s)).1 (od_ s true (be_ s 3) rw0 (sAl s)).2 (nI cm)) t (nI n) (nI dr) (nI pa) (nI cm) (nI os) gm tk pl bh va iw od := hM.mv hM.this (fun k hk => ax_ne (by omega) (ax_ne (by omega) rfl))
    refine ⟨_, rfl, ⟨_, hM.this⟩, d_rank (h := 7) (M := rk_m M (od_ s true (be_ s 3) rw0 (sAl s)).1 (od_ s true (be_ s 3) rw0 (sAl s)).2 (nI cm)) hM2 h179 (fun c => absurd c (nI_pos hk)) (fun k' hk' e' => ?_)⟩
    obtain rfl : k = k' := nn_eq e' hk hk'
    rw [q1, e1]
    have ev : (if k < (od_ s true (be_ s 3) rw0 (sAl s)).2 then (od_ t true (be_ t 3) fo (sAl s)).1 k else -1) = (if k < (od_ s true (be_ s 3) rw0 (sAl s)).2 then (od_ s true (be_ s 3) rw0 (sAl s)).1 k else -1) := by
      by_cases z : k < (od_ s true (be_ s 3) rw0 (sAl s)).2
      · rw [if_pos z, if_pos z, e2 k z]
      · rw [if_neg z, if_neg z]
    rw [ev]
    refine ⟨rfl, ?_⟩
    have key : ∀ k, ¬ (k = 69 ∨ k = 70 ∨ k = 143 ∨ k = 179) → (ar_m (rk_m M (od_ s true (be_ s 3) rw0 (sAl s)).1 (od_ s true (be_ s 3) rw0 (sAl s)).2 (nI cm)) t (nI n) (nI dr) (nI pa) (nI cm) (nI os) gm tk pl bh va iw (od_ t true (be_ t 3) fo (sAl s)).1 (od_ s true (be_ s 3) rw0 (sAl s)).2).2 k = M.2 k := fun k hk => ax_ne (by omega) (ax_ne (by omega) (ax_ne (by omega) (ax_ne (by omega) rfl)))
    refine Rel.mk2 hg hC.top rfl (hT.mv ?_) (hL.mv ?_) (hA.mv ?_) (hF.mv ?_) (hS.mv ?_) (hO.mv ?_) (hU.mv ?_) ⟨_, _, cr, pf, c2, rfl, rfl, x3, x4, x5, x6, x7⟩ (hX.set (fun k hk => ?_)) hz
    case refine_8 =>
      by_cases z : k = 179
      · subst z
        exact Or.inr ⟨_, rfl⟩
      · exact Or.inl (key k (by omega))
    all_goals exact fun k hk => key k (by omega)
end RANK
