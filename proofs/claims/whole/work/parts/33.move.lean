/-! The relation's parts are kept where their cells are. -/
section MV
variable {M N : ax_M}
abbrev c_text (k : Nat) : Prop := k = 1 ∨ k = 2 ∨ k = 144
abbrev c_out (k : Nat) : Prop := k = 3 ∨ k = 4 ∨ k = 182
abbrev c_lines (k : Nat) : Prop := (79 ≤ k ∧ k ≤ 86) ∨ (145 ≤ k ∧ k ≤ 149)
abbrev c_alarms (k : Nat) : Prop := (9 ≤ k ∧ k ≤ 15) ∨ k = 78 ∨ (154 ≤ k ∧ k ≤ 161)
abbrev c_facts (k : Nat) : Prop := (16 ≤ k ∧ k ≤ 21) ∨ k = 162 ∨ k = 163
abbrev c_sil (k : Nat) : Prop := k = 22 ∨ k = 23 ∨ (30 ≤ k ∧ k ≤ 68) ∨ (166 ≤ k ∧ k ≤ 172)
abbrev c_own (k : Nat) : Prop := (75 ≤ k ∧ k ≤ 77) ∨ (87 ≤ k ∧ k ≤ 142) ∨ (173 ≤ k ∧ k ≤ 177)
abbrev c_cho (k : Nat) : Prop := (69 ≤ k ∧ k ≤ 72) ∨ k = 180
abbrev c_scr (k : Nat) : Prop := (5 ≤ k ∧ k ≤ 8) ∨ (24 ≤ k ∧ k ≤ 29) ∨ k = 73 ∨ k = 74 ∨ (150 ≤ k ∧ k ≤ 153) ∨ k = 164 ∨ k = 165 ∨ k = 178 ∨ k = 179 ∨ k = 181 ∨ k = 183
theorem R_text.mv {n : Nat} (h : R_text M n) (e : ∀ k, c_text k → N.2 k = M.2 k) : R_text N n := by
  obtain ⟨f1, f2, h1, h2, h3, h4⟩ := h
  exact ⟨f1, f2, (e _ (by omega)).trans h1, (e _ (by omega)).trans h2, (e _ (by omega)).trans h3, h4⟩
theorem R_out.mv {n : Nat} (h : R_out M n) (e : ∀ k, c_out k → N.2 k = M.2 k) : R_out N n := by
  obtain ⟨f1, f2, h1, h2, h3, h4⟩ := h
  exact ⟨f1, f2, (e _ (by omega)).trans h1, (e _ (by omega)).trans h2, (e _ (by omega)).trans h3, h4⟩
theorem R_lines.mv {ln dr dw nw : Nat} (h : R_lines M ln dr dw nw) (e : ∀ k, c_lines k → N.2 k = M.2 k) : R_lines N ln dr dw nw := by
  obtain ⟨hw, nf, nm, nb, df, dm, db, mf, mm, mp, gf, gm, h1, h2, h3, h4, h5, h6, h7, h8, h9, h10, h11, h12, h13, h14⟩ := h
  exact ⟨hw, nf, nm, nb, df, dm, db, mf, mm, mp, gf, gm, (e _ (by omega)).trans h1, (e _ (by omega)).trans h2, (e _ (by omega)).trans h3, (e _ (by omega)).trans h4, (e _ (by omega)).trans h5, (e _ (by omega)).trans h6, (e _ (by omega)).trans h7, (e _ (by omega)).trans h8, (e _ (by omega)).trans h9, (e _ (by omega)).trans h10, (e _ (by omega)).trans h11, (e _ (by omega)).trans h12, (e _ (by omega)).trans h13, h14⟩
theorem R_alarms.mv {bl ln al : Nat} (h : R_alarms M bl ln al) (e : ∀ k, c_alarms k → N.2 k = M.2 k) : R_alarms N bl ln al := by
  obtain ⟨li, ki, wa, pp, qq, st, l2, k2, w2, p2, q2, s2, ob, tr, pa, h1, h2, h3, h4, h5, h6, h7, h8, h9, h10, h11, h12, h13, h14, h15, h16, h17⟩ := h
  exact ⟨li, ki, wa, pp, qq, st, l2, k2, w2, p2, q2, s2, ob, tr, pa, (e _ (by omega)).trans h1, (e _ (by omega)).trans h2, (e _ (by omega)).trans h3, (e _ (by omega)).trans h4, (e _ (by omega)).trans h5, (e _ (by omega)).trans h6, (e _ (by omega)).trans h7, (e _ (by omega)).trans h8, (e _ (by omega)).trans h9, (e _ (by omega)).trans h10, (e _ (by omega)).trans h11, (e _ (by omega)).trans h12, (e _ (by omega)).trans h13, (e _ (by omega)).trans h14, (e _ (by omega)).trans h15, (e _ (by omega)).trans h16, h17⟩
theorem R_facts.mv {ru : Nat} {pv : Int32} (h : R_facts M ru pv) (e : ∀ k, c_facts k → N.2 k = M.2 k) : R_facts N ru pv := by
  obtain ⟨gc, rs, rh, s2, h2, gf, gs, ts, a1, a2, a3, a4, a5, a6, a7, a8, a9⟩ := h
  exact ⟨gc, rs, rh, s2, h2, gf, gs, ts, (e _ (by omega)).trans a1, (e _ (by omega)).trans a2, (e _ (by omega)).trans a3, (e _ (by omega)).trans a4, (e _ (by omega)).trans a5, (e _ (by omega)).trans a6, (e _ (by omega)).trans a7, (e _ (by omega)).trans a8, a9⟩
theorem sl_.mv {p : Nat} {un kd fo fi : Int32} {ls : Int64} {r : Nat} {f : Nat → Int32} (hp : p < 13) (h : sl_ M p un kd fo fi ls r f) (e : ∀ k, c_sil k → N.2 k = M.2 k) : sl_ N p un kd fo fi ls r f := by
  obtain ⟨h1, h2, h3, h4⟩ := h
  exact ⟨(e _ (by omega)).trans h1, (e _ (by omega)).trans h2, (e _ (by omega)).trans h3, h4⟩
theorem R_sil.mv {ln si : Nat} (h : R_sil M ln si) (e : ∀ k, c_sil k → N.2 k = M.2 k) : R_sil N ln si := by
  obtain ⟨sl, pm, un, kd, wh, fi, rz, rb, ls, h1, h2, h3, h4, h5, h6, h7, h8, h9, h10, h11, h12, h13⟩ := h
  refine ⟨sl, pm, un, kd, wh, fi, rz, rb, ls, (e _ (by omega)).trans h1, (e _ (by omega)).trans h2, h3, h4, (e _ (by omega)).trans h5, (e _ (by omega)).trans h6, (e _ (by omega)).trans h7, (e _ (by omega)).trans h8, (e _ (by omega)).trans h9, (e _ (by omega)).trans h10, (e _ (by omega)).trans h11, h12, fun k hk => ?_⟩
  obtain ⟨a, b, c, d, x, r, f, q1, q2⟩ := h13 k hk
  exact ⟨a, b, c, d, x, r, f, q1.mv (h3 k hk).1 e, q2⟩
theorem pt_.mv {b n k : Nat} {f s : Nat → Int32} (hb : 87 ≤ b ∧ b + 3 ≤ 142) (h : pt_ M b n f k s) (e : ∀ k, c_own k → N.2 k = M.2 k) : pt_ N b n f k s := by
  obtain ⟨h1, h2, h3, h4, h5⟩ := h
  exact ⟨(e _ (by omega)).trans h1, (e _ (by omega)).trans h2, (e _ (by omega)).trans h3, (e _ (by omega)).trans h4, h5⟩
theorem R_own.mv {pa : Nat} (h : R_own M pa) (e : ∀ k, c_own k → N.2 k = M.2 k) : R_own N pa := by
  obtain ⟨⟨x1, a1, a2⟩, ⟨x2, b1, b2⟩, po, p2, pz, pt, tz, o2, h1, h2, h3, h4, h5, h6, h7, h8, h9⟩ := h
  refine ⟨⟨x1, (e _ (by omega)).trans a1, a2⟩, ⟨x2, (e _ (by omega)).trans b1, b2⟩, po, p2, pz, pt, tz, o2, (e _ (by omega)).trans h1, (e _ (by omega)).trans h2, (e _ (by omega)).trans h3, (e _ (by omega)).trans h4, (e _ (by omega)).trans h5, (e _ (by omega)).trans h6, h7, fun i hi => ?_, fun i hi => ?_⟩
  · obtain ⟨n, f, k, s, q1, q2⟩ := h8 i hi
    exact ⟨n, f, k, s, q1.mv (by omega) e, q2⟩
  · obtain ⟨n, f, k, s, q1, q2⟩ := h9 i hi
    exact ⟨n, f, k, s, q1.mv (by omega) e, q2⟩
theorem R_cho.mv {cm : Nat} (h : R_cho M cm) (e : ∀ k, c_cho k → N.2 k = M.2 k) : R_cho N cm := by
  obtain ⟨sz, rw, cr, pf, c2, h1, h2, h3, h4, h5, h6⟩ := h
  exact ⟨sz, rw, cr, pf, c2, (e _ (by omega)).trans h1, (e _ (by omega)).trans h2, (e _ (by omega)).trans h3, (e _ (by omega)).trans h4, (e _ (by omega)).trans h5, h6⟩
theorem sI.mv {a n : Nat} (h : sI M a n) (e : N.2 a = M.2 a) : sI N a n := by
  obtain ⟨f, h⟩ := h
  exact ⟨f, e.trans h⟩
theorem R_scr.mv (h : R_scr M) (e : ∀ k, c_scr k → N.2 k = M.2 k) : R_scr N := by
  obtain ⟨⟨o, n, h1⟩, h2, h3, h4, ⟨z, x, h5⟩, ⟨r, h6, h7⟩, ⟨f, h8⟩, h9, h10, h11, ⟨y, h12⟩, h13, h14, h15, h16, h17, h18, h19, ⟨f2, h20⟩, h21, h22, h23⟩ := h
  exact ⟨⟨o, n, (e _ (by omega)).trans h1⟩, h2.mv (e _ (by omega)), h3.mv (e _ (by omega)), h4.mv (e _ (by omega)), ⟨z, x, (e _ (by omega)).trans h5⟩, ⟨r, h6, (e _ (by omega)).trans h7⟩, ⟨f, (e _ (by omega)).trans h8⟩, h9.mv (e _ (by omega)), h10.mv (e _ (by omega)), h11.mv (e _ (by omega)), ⟨y, (e _ (by omega)).trans h12⟩, h13.mv (e _ (by omega)), h14.mv (e _ (by omega)), h15.mv (e _ (by omega)), h16.mv (e _ (by omega)), h17.mv (e _ (by omega)), h18.mv (e _ (by omega)), h19.mv (e _ (by omega)), ⟨f2, (e _ (by omega)).trans h20⟩, h21.mv (e _ (by omega)), h22.mv (e _ (by omega)), h23.mv (e _ (by omega))⟩
end MV
/-- unchanged but for THE TEXT -/
theorem Rel.textOf {g : ax_Y} {M N : ax_M} {n2 bl ln dr al ru si pa cm os dw nw : Nat} {pv gm tk pl bh : Int32} {va : Int64} {iw od : Int32} (h0 : oC M 0 11 (tp_f dw nw (nI bl) (nI pa))) (hL : R_lines M ln dr dw nw) (hA : R_alarms M bl ln al) (hF : R_facts M ru pv) (hS : R_sil M ln si) (hO : R_own M pa) (hU : R_out M os) (hC : R_cho M cm) (hX : R_scr M) (hz : bl = 0 → ln = 0)
    (e : ∀ k, k ≠ 1 → k ≠ 2 → k ≠ 143 → k ≠ 144 → N.2 k = M.2 k) (h143 : oC N 143 12 (md_f (nI n2) (nI bl) (nI ln) (nI dr) (nI al) (nI ru) pv (nI si) (nI pa) (nI cm) (nI os) gm tk pl bh va iw od)) (hT : R_text N n2) : Rel g N := by
  refine ⟨n2, bl, ln, dr, al, ru, si, pa, cm, os, dw, nw, pv, gm, tk, pl, bh, va, iw, od, (e 0 (by decide) (by decide) (by decide) (by decide)).trans h0, h143, hT, hL.mv ?_, hA.mv ?_, hF.mv ?_, hS.mv ?_, hO.mv ?_, hU.mv ?_, hC.mv ?_, hX.mv ?_, hz⟩
  all_goals exact fun k hk => e k (by omega) (by omega) (by omega) (by omega)
theorem both_feed {g : ax_Y} (x : Int32) (w : Int64) : BI g (Rel g) mt_Top_feed mt_Mod_feed [.int x, .long w] := by
  intro M hR
  have hR' := hR
  obtain ⟨n, bl, ln, dr, al, ru, si, pa, cm, os, dw, nw, pv, gm, tk, pl, bh, va, iw, od, h0, h143, ⟨f1, f2, t1, t2, t3, t4, t5⟩, hL, hA, hF, hS, hO, hU, hC, hX, hz⟩ := hR
  refine c_feed (h := 10) h0 t1 t2 t4 (fun c => ?_) (fun k k1 k2 e hk => ?_) (fun k k1 k2 e hk => ?_)
  · refine ⟨_, rfl, ⟨_, h143⟩, d_feed (h := 10) h143 t3 t4 (fun _ => ⟨rfl, hR'⟩) (fun k k1 k2 e hk => ?_) (fun k k1 k2 e hk => ?_)⟩
    · subst e
      rcases c with c | c
      · exact absurd (nn_lt (b := 1) c) (by omega)
      · exact absurd (nI_le k2 (by omega)) c
    · subst e
      rcases c with c | c
      · exact absurd (nn_lt (b := 1) c) (by omega)
      · exact absurd (nI_le k2 (by omega)) c
  · subst e
    refine ⟨_, rfl, ⟨_, h143⟩, d_feed (h := 10) h143 t3 t4 (fun c => ?_) (fun _ _ _ _ _ => ⟨rfl, hR'⟩) (fun k' _ _ e' hk' => absurd (nn_eq e') (by omega))⟩
    rcases c with c | c
    · exact absurd (nn_lt (b := 1) c) (by omega)
    · exact absurd (nI_le k2 (by omega)) c
  · subst e
    refine ⟨_, rfl, ⟨_, h143⟩, d_feed (h := 10) (M := rw_m M 1 2 160 (fd_ (fd_B1 w) f1 n k k) (n + k)) h143 t3 t4 (fun c => ?_) (fun k' _ _ e' hk' => absurd (nn_eq e') (by omega)) (fun k' _ _ e' hk' => ?_)⟩
    · rcases c with c | c
      · exact absurd (nn_lt (b := 1) c) (by omega)
      · exact absurd (nI_le k2 (by omega)) c
    · obtain rfl : k = k' := nn_eq e'
      refine ⟨rfl, Rel.textOf h0 hL hA hF hS hO hU hC hX hz (fun j a b c d => ?_) rfl ⟨_, _, rfl, rfl, rfl, hk, fun j hj => ?_⟩⟩
      · exact ax_ne c (ax_ne d (ax_ne a (ax_ne b rfl)))
      · rw [fd_at, fd_at]
        by_cases q : n ≤ j ∧ j < n + k
        · rw [if_pos q, if_pos q]
          exact ⟨fd_b w (by omega), fd_c _⟩
        · rw [if_neg q, if_neg q]
          exact t5 j (by omega)
theorem both_cut {g : ax_Y} (x : Int32) : BI g (Rel g) mt_Top_cut mt_Mod_cut [.int x] := by
  intro M hR
  have hR' := hR
  obtain ⟨n, bl, ln, dr, al, ru, si, pa, cm, os, dw, nw, pv, gm, tk, pl, bh, va, iw, od, h0, h143, ⟨f1, f2, t1, t2, t3, t4, t5⟩, hL, hA, hF, hS, hO, hU, hC, hX, hz⟩ := hR
  refine c_cut (h := 10) h0 t1 t4 (fun c => ?_) (fun k hk e => ?_)
  · refine ⟨_, rfl, ⟨_, h143⟩, d_cut (h := 10) h143 t4 (fun _ => ⟨rfl, hR'⟩) (fun k hk e => ?_)⟩
    subst e
    rcases c with c | c
    · exact absurd c (nI_pos (by omega))
    · exact absurd (nI_le hk (by omega)) c
  · subst e
    refine ⟨_, rfl, ⟨_, h143⟩, d_cut (h := 10) (M := oP M 1 7 [.ref 2, .int (nI k)]) h143 t4 (fun c => ?_) (fun k' hk' e' => ?_)⟩
    · rcases c with c | c
      · exact absurd c (nI_pos (by omega))
      · exact absurd (nI_le hk (by omega)) c
    · obtain rfl : k = k' := nn_eq e'
      exact ⟨rfl, Rel.textOf h0 hL hA hF hS hO hU hC hX hz (fun j a b c d => ax_ne c (ax_ne a rfl)) rfl ⟨_, _, rfl, t2, t3, by omega, fun j hj => t5 j (by omega)⟩⟩
