/-! both: silence -/
theorem sl_u {M : ax_M} {p : Nat} {a b c d a' b' c' d' : Int32} {e e' : Int64} {r r' : Nat} {f f' : Nat → Int32} (h : sl_ M p a b c d e r f) (h' : sl_ M p a' b' c' d' e' r' f') : a = a' ∧ b = b' ∧ c = c' ∧ d = d' ∧ e = e' ∧ r = r' ∧ f = f' := by
  obtain ⟨h1, h2, h3, h4⟩ := h
  obtain ⟨g1, g2, g3, g4⟩ := h'
  have e2 := Value.int.inj (List.cons.inj (List.cons.inj (Prod.mk.inj (Sum.inr.inj (Option.some.inj (h2.symm.trans g2)))).2).2).1
  have e2 := nn_eq e2
  have e1 := h1.symm.trans g1
  cases e1
  have e3 := h3.symm.trans g3
  cases e3
  exact ⟨rfl, rfl, rfl, rfl, rfl, e2, rfl⟩
theorem wh_c {T : Nat → Int32} {m : Int32} {k : Nat} (h : (wh_ T m k).1 = true) : (wh_ T m k).2.2.1 = 0 ∨ (wh_ T m k).2.2.1 = 1 ∨ (wh_ T m k).2.2.1 = 2 := by
  unfold wh_ at h ⊢
  by_cases e1 : iw_ T (ti_ T k) 1 = true
  · rw [if_pos e1]
    exact Or.inr (Or.inr rfl)
  · rw [if_neg e1] at h ⊢
    by_cases e2 : iw_ T (ti_ T k) 2 = true
    · rw [if_pos e2] at h ⊢
      by_cases e3 : nu_ T (ti_ T (k + 1)) 0 5 = true
      · rw [if_pos e3]
        exact Or.inr (Or.inl rfl)
      · rw [if_neg e3] at h
        cases h
    · rw [if_neg e2] at h ⊢
      by_cases e4 : iw_ T (ti_ T k) 3 = true
      · rw [if_pos e4] at h ⊢
        by_cases e3 : nu_ T (ti_ T (k + 1)) 0 m = true
        · rw [if_pos e3]
          exact Or.inl rfl
        · rw [if_neg e3] at h
          cases h
      · rw [if_neg e4] at h ⊢
        by_cases e5 : iw_ T (ti_ T k) 4 = true
        · rw [if_pos e5] at h ⊢
          by_cases e3 : nu_ T (ti_ T (k + 1)) 0 m = true
          · rw [if_pos e3] at h ⊢
            by_cases e6 : iw_ T (ti_ T (k + 2)) 5 = true
            · rw [if_pos e6] at h ⊢
              by_cases e7 : nu_ T (ti_ T (k + 3)) (vt_ T (ti_ T (k + 1))) m = true
              · rw [if_pos e7]
                exact Or.inl rfl
              · rw [if_neg e7] at h
                cases h
            · rw [if_neg e6] at h
              cases h
          · rw [if_neg e3] at h
            cases h
        · rw [if_neg e5] at h
          cases h
theorem o1_c {T : Nat → Int32} {m lo : Int32} {k : Nat} (h : (o1_ T m lo k).1 = true) : (o1_ T m lo k).2.2.2.2.1 = 0 ∨ (o1_ T m lo k).2.2.2.2.1 = 1 ∨ (o1_ T m lo k).2.2.2.2.1 = 2 := by
  obtain ⟨e1, e2, e3, e4, e5, e6, -⟩ := o1_t h
  rw [o1_y e1 e2 e3 e4 e5 e6]
  exact wh_c e2
theorem pr_t {T : Nat → Int32} {m lo : Int32} : ∀ d j, (∀ i, i < j → (o1_ T m lo (kj_ T m lo i)).1 = true) → ∀ i, i < (pr_ T m lo d j).2.2 → (o1_ T m lo (kj_ T m lo i)).1 = true := by
  intro d
  induction d with
  | zero =>
    intro j h i hi
    rw [pr_] at hi
    exact h i hi
  | succ d ih =>
    intro j h i hi
    rw [pr_] at hi
    by_cases e : (o1_ T m lo (kj_ T m lo j)).1 = true
    · have h2 : ∀ i, i < j + 1 → (o1_ T m lo (kj_ T m lo i)).1 = true := fun i hi => by
        by_cases z : i = j
        · subst z; exact e
        · exact h i (by omega)
      rw [if_pos e] at hi
      by_cases e2 : (ti_ T (kj_ T m lo (j + 1))).1 = 0
      · rw [if_pos e2] at hi
        exact h2 i hi
      · rw [if_neg e2] at hi
        exact ih (j + 1) h2 i hi
    · rw [if_neg e] at hi
      exact h i hi
/-- the relation's silences out of what both sides have done -/
theorem R_sil_new {M N N2 : ax_M} {T f2 : Nat → Int32} {m lo : Int32} {ln si c si2 : Nat} {sl : Nat → Option Nat} {pm : Nat → Nat} {un kd wh fi rz rb un2 kd2 wh2 fi2 rz2 rb2 : Nat → Int32} {ls ls2 : Nat → Int64} (hc : ∀ i, i < c → (o1_ T m lo (kj_ T m lo i)).1 = true) (h2 : si2 = si ∨ si2 = si + c) (h12 : si2 ≤ 12) (h22 : oC N2 22 9 [.ref 23, .int (nI si2), .ref 24]) (h23 : N2.2 23 = some (.inl (5, 13, .inr (.inr (.inr (.inr sl)))))) (i3 : ∀ k, k < 13 → pm k < 13 ∧ sl k = some (30 + 3 * pm k)) (i4 : ∀ j k, j < 13 → k < 13 → pm j = pm k → j = k) (i13 : ∀ k, k < 13 → ∃ a b c d e r f, sl_ M (pm k) a b c d e r f ∧ (k < si → un k = a ∧ kd k = b ∧ wh k = c ∧ fi k = d ∧ ls k = e ∧ rz k = nI r ∧ (c = 0 ∨ c = 1 ∨ c = 2) ∧ ∀ j, j < r → f j &&& 255 = rb (20 * k + j))) (fr : ∀ k, 30 ≤ k ∧ k ≤ 68 → N2.2 k = N.2 k) (hSL : SL_ M N T f2 m lo pm si c) {M1 : ax_M} (hSA : SA_ M1 N2 T f2 m lo si c un kd wh fi rz rb ls un2 kd2 wh2 fi2 rz2 rb2 ls2) : R_sil N2 ln si2 := by
  obtain ⟨a1, a2, a3, a4, a5, a6, a7, a8, a9, a10, a11⟩ := hSA
  refine ⟨sl, pm, un2, kd2, wh2, fi2, rz2, rb2, ls2, h22, h23, i3, i4, a2, a3, a4, a5, a6, a7, a8, h12, fun k hk => ?_⟩
  obtain ⟨xu, xk, xo, xi, xl, xr, xf, y1, y2, y3⟩ := hSL k hk
  refine ⟨xu, xk, xo, xi, xl, xr, xf, y1.mv2 (i3 k hk).1 fr, fun hk2 => ?_⟩
  by_cases z : k < si
  · obtain ⟨a, b, c', d, e, r, f, q1, q2⟩ := i13 k hk
    obtain ⟨r1, r2, r3, r4, r5, r6, r7, r8⟩ := q2 z
    obtain ⟨rfl, rfl, rfl, rfl, rfl, rfl, rfl⟩ := sl_u (y2 z) q1
    obtain ⟨c1, c2, c3, c4, c5, c6⟩ := a9 k z
    have r20 := q1.2.2.2
    exact ⟨c1.trans r1, c2.trans r2, c3.trans r3, c4.trans r4, c5.trans r5, c6.trans r6, r7, fun j hj => (r8 j hj).trans (a10 _ (by omega)).symm⟩
  · have k1 : k < si + c := by omega
    obtain ⟨z1, z2⟩ := y3 (by omega) k1 (by omega)
    obtain ⟨c1, c2, c3, c4, c5, c6, c7, c8⟩ := a11 k (by omega) k1
    have oc := o1_c (hc (k - si) (by omega))
    generalize o1_ T m lo (kj_ T m lo (k - si)) = O at z1 z2 c1 c2 c3 c4 c5 c6 c7 c8 oc
    obtain ⟨o0, o1, o2, o3, o4, o5, o6, o7, o8⟩ := O
    have q1 : o2 = xu := congrArg (fun p => p.1) z1
    have q2 : o3 = xk := congrArg (fun p => p.2.1) z1
    have q3 : o4 = xo := congrArg (fun p => p.2.2.1) z1
    have q4 : o5 = xi := congrArg (fun p => p.2.2.2.1) z1
    have q5 : o6 = xl := congrArg (fun p => p.2.2.2.2.1) z1
    have q6 : o8 = xr := congrArg (fun p => p.2.2.2.2.2.2) z1
    subst q1 q2 q3 q4 q5 q6
    exact ⟨c1, c2, c3, c4, c5, c6, oc, fun j hj => (z2 j hj).trans (c8 j hj).symm⟩
section BSIL
variable {g : ax_Y} {M : ax_M} {Q : Option Value → ax_M → Prop} {h n : Nat} {dw nw : Nat} {bl pa : Int32} {f1 f2 : Nat → Int32}
theorem c_silence {si ln : Nat} {lo : Int32} {sl : Nat → Option Nat} {pm : Nat → Nat} {z1 z2 : Int32} {r0 : Nat} {f0 e27 e28 e29 : Nat → Int32} (h_this : oC M 0 11 (tp_f dw nw bl pa)) (h_now : oC M nw 2 [.ref (nw + 1), .ref (nw + 2), .ref (nw + 3), .int (nI ln)]) (hx : (if bl - 1 < 0 then 0 else bl - 1) = lo) (hln : ln ≤ 40) (hsi : si ≤ 12) (h22 : oC M 22 9 [.ref 23, .int (nI si), .ref 24]) (h23 : M.2 23 = some (.inl (5, 13, .inr (.inr (.inr (.inr sl)))))) (hs1 : ∀ k, k < 13 → pm k < 13 ∧ sl k = some (30 + 3 * pm k)) (hs2 : ∀ j k, j < 13 → k < 13 → pm j = pm k → j = k) (hs3 : ∀ k, k < 13 → ∃ a b c d e r f, sl_ M (pm k) a b c d e r f) (h24 : oC M 24 10 (tk_f z1 z2)) (h25 : oC M 25 7 [.ref 26, .int (nI r0)]) (h26 : bA M 26 160 f0) (h27 : iA M 27 161 e27) (h28 : iA M 28 161 e28) (h29 : iA M 29 161 e29) (h_text : oC M 1 7 [.ref 2, .int (nI n)]) (h_fb : bA M 2 160 f1) (hb : by_ n f1 f2) (hn : n ≤ 160) (hq : ∀ (N : ax_M) (g1 so sa se : Nat → Int32) (sz : Nat), fr_ M N (fun j => (24 ≤ j ∧ j ≤ 68) ∨ j = 22) → (∃ z1 z2, oC N 24 10 (tk_f z1 z2)) → TK_ N g1 f2 n sz so sa se → SL_ M N (tb_ f2 n) f2 (nI ln - 1) lo pm si (pr_ (tb_ f2 n) (nI ln - 1) lo 200 0).2.2 → ((pr_ (tb_ f2 n) (nI ln - 1) lo 200 0).1 = false → oC N 22 9 [.ref 23, .int (nI si), .ref 24] → Q (some (.int (-10 - nI (ti_ (tb_ f2 n) (pr_ (tb_ f2 n) (nI ln - 1) lo 200 0).2.1).2.1))) (oP N 1 7 [.ref 2, .int (nI 0)])) ∧ ((pr_ (tb_ f2 n) (nI ln - 1) lo 200 0).1 = true → 12 < si + (pr_ (tb_ f2 n) (nI ln - 1) lo 200 0).2.2 → oC N 22 9 [.ref 23, .int (nI si), .ref 24] → Q (some (.int (-4))) (oP N 1 7 [.ref 2, .int (nI 0)])) ∧ ((pr_ (tb_ f2 n) (nI ln - 1) lo 200 0).1 = true → si + (pr_ (tb_ f2 n) (nI ln - 1) lo 200 0).2.2 ≤ 12 → oC N 22 9 [.ref 23, .int (nI (si + (pr_ (tb_ f2 n) (nI ln - 1) lo 200 0).2.2)), .ref 24] → Q (some (.int (nI (si + (pr_ (tb_ f2 n) (nI ln - 1) lo 200 0).2.2)))) (oP N 1 7 [.ref 2, .int (nI 0)]))) : ax_G g mt_Top_silence (h + 9) 0 0 0 [.ref 0, .float 0] [] M Q := by
  have fin : ∀ (N : ax_M) (v : Int32), fr_ M N (fun j => (24 ≤ j ∧ j ≤ 68) ∨ j = 22) → Q (some (.int v)) (oP N 1 7 [.ref 2, .int (nI 0)]) → ax_G g mt_Top_silence (h + 9) 0 0 24 [.ref 0, .float 0] [.int v] N Q := by
    intro N v frN hq
    have n0 : oC N 0 11 (tp_f dw nw bl pa) := (frN 0 (by omega)).trans h_this
    have n1 : oC N 1 7 [.ref 2, .int (nI n)] := (frN 1 (by omega)).trans h_text
    refine s_ist1 25 rfl rfl rfl ?_
    refine s_aload_n 26 rfl rfl rfl ?_
    refine s_getfield 11 0 29 rfl rfl fl_Top_14 n0 rfl ?_
    refine c_callV0 (h+8) 32 rfl rfl mv_Top_229 (by omega) (Nat.le_of_ble_eq_true rfl) (Nat.le_of_ble_eq_true rfl) n1 rfl rfl ?_
    -- Top_silence 32: call Row_clear
    refine m_Row_clear (a := 1) (b := 2) (n := n) n1 ?_
    dsimp only [ax_rs]
    refine s_iload_n 33 rfl rfl rfl ?_
    -- Top_silence 33: ireturn
    exact s_ireturn rfl .int rfl rfl (hq)
  generalize hpr : pr_ (tb_ f2 n) (nI ln - 1) lo 200 0 = P at hq
  refine s_aload_n 1 rfl rfl rfl ?_
  refine s_getfield 11 5 4 rfl rfl fl_Top_45 h_this rfl ?_
  refine s_aload_n 5 rfl rfl rfl ?_
  refine s_getfield 11 0 8 rfl rfl fl_Top_14 h_this rfl ?_
  refine s_aload_n 9 rfl rfl rfl ?_
  refine s_getfield 11 13 12 rfl rfl fl_Top_87 h_this rfl ?_
  refine s_getfield 2 3 15 rfl rfl fl_Top_108 h_now rfl ?_
  refine s_aload_n 16 rfl rfl rfl ?_
  refine s_getfield 11 14 19 rfl rfl fl_Top_114 h_this rfl ?_
  refine s_iconst 1 20 rfl rfl (by decide) ?_
  refine s_isub 21 rfl rfl ?_
  refine c_callV3 (h+8) 24 rfl rfl mv_Top_225 (by omega) (Nat.le_of_ble_eq_true rfl) (Nat.le_of_ble_eq_true rfl) h22 rfl rfl ?_
  -- Top_silence 24: call Silences_take
  refine m_Silences_take (h := h) hx hln hsi h22 h23 hs1 hs2 hs3 h24 h25 h26 h27 h28 h29 h_text h_fb hb hn (fun N g1 so sa se sz k frN y24 hT hSL => ?_)
  rw [hpr] at hSL ⊢
  obtain ⟨q1, q2, q3⟩ := hq N g1 so sa se sz frN ⟨_, _, y24⟩ hT hSL
  refine ⟨fun e1 e2 => ?_, fun e1 e2 e3 => ?_, fun e1 e2 e3 => ?_⟩
  · dsimp only [ax_rs]
    exact fin N _ frN (q1 e1 e2)
  · dsimp only [ax_rs]
    exact fin N _ frN (q2 e1 e2 e3)
  · dsimp only [ax_rs]
    exact fin N _ frN (q3 e1 e2 e3)
theorem both_silence : BI g (Rel g) mt_Top_silence mt_Mod_silence [] := by
  intro M hR
  obtain ⟨n, bl, ln, dr, al, ru, si, pa, cm, os, dw, nw, pv, gm, tk, pl, bh, va, iw, od, h0, h143, ⟨f1, f2, t1, t2, t3, t4, t5⟩, hL, hA, hF, ⟨sl, pm, un, kd, wh, fi, rz, rb, ls, i1, i2, i3, i4, i5, i6, i7, i8, i9, i10, i11, i12, i13⟩, hO, hU, hC, hX, hz⟩ := hR
  obtain ⟨hd, nf, nm, nb, df, dm, db, mf, mm, mp, gf, gmm, l1, -⟩ := id hL
  have hln : ln ≤ 40 := hL.2.choose_spec.choose_spec.choose_spec.choose_spec.choose_spec.choose_spec.choose_spec.choose_spec.choose_spec.choose_spec.choose_spec.2.2.2.2.2.2.2.2.2.2.2.2.2.1
  have hbl : bl ≤ 12 := by
    obtain ⟨_, _, _, _, _, _, _, _, _, _, _, _, _, _, _, -, -, -, -, -, -, -, -, -, -, -, -, -, -, -, -, -, hb, -⟩ := id hA
    exact hb
  obtain ⟨z24a, z24b, x24⟩ := (hX.2.2.2.2.1 : ∃ z x : Int32, oC M 24 10 [.ref 25, .ref 27, .ref 28, .ref 29, .int z, .int x])
  obtain ⟨r0, -, x25⟩ := (hX.2.2.2.2.2.1 : ∃ r, r ≤ 160 ∧ oC M 25 7 [.ref 26, .int (nI r)])
  obtain ⟨e26, x26⟩ := (hX.2.2.2.2.2.2.1 : ∃ f, bA M 26 160 f)
  obtain ⟨e27, x27⟩ := (hX.2.2.2.2.2.2.2.1 : sI M 27 161)
  obtain ⟨e28, x28⟩ := (hX.2.2.2.2.2.2.2.2.1 : sI M 28 161)
  obtain ⟨e29, x29⟩ := (hX.2.2.2.2.2.2.2.2.2.1 : sI M 29 161)
  have hs3 : ∀ k, k < 13 → ∃ a b c d e r f, sl_ M (pm k) a b c d e r f := fun k hk => by
    obtain ⟨a, b, c, d, e, r, f, q, -⟩ := i13 k hk
    exact ⟨a, b, c, d, e, r, f, q⟩
  have lo_ : ∃ lo : Int32, (if nI bl - 1 < 0 then 0 else nI bl - 1) = lo ∧ (bl = 0 → lo = 0) ∧ (0 < bl → lo = nI (bl - 1)) := by
    by_cases z : bl = 0
    · subst z
      exact ⟨0, by decide, fun _ => rfl, fun w => absurd w (by omega)⟩
    · have e : nI bl - 1 = nI (bl - 1) := by rw [show nI bl = nI (bl - 1 + 1) by rw [show bl - 1 + 1 = bl by omega], nI_pred]
      refine ⟨nI (bl - 1), ?_, fun w => absurd w z, fun _ => rfl⟩
      rw [e, if_neg (nI_pos (by omega))]
  obtain ⟨lo, hx, hlo0, hlo1⟩ := lo_
  refine c_silence (h := 2) (lo := lo) h0 l1 hx hln i12 i1 i2 i3 i4 hs3 x24 x25 x26 x27 x28 x29 t1 t2 t5 t4 (fun N g1 so sa se sz frN y24 hT hSL => ?_)
  have fN : ∀ k, ¬ (k = 1 ∨ k = 22 ∨ (24 ≤ k ∧ k ≤ 68)) → (oP N 1 7 [.ref 2, .int (nI 0)]).2 k = M.2 k := fun k hk => ax_ne (by omega) (frN k (by omega))
  -- what the reference does, and the relation behind both
  have ref : ∀ (v : Int32) (si2 : Nat), (si2 = si ∨ si2 = si + (pr_ (tb_ f2 n) (nI ln - 1) lo 200 0).2.2) → si2 ≤ 12 → oC N 22 9 [.ref 23, .int (nI si2), .ref 24] → ((pr_ (tb_ f2 n) (nI ln - 1) lo 200 0).1 = false → si2 = si ∧ v = -10 - nI (ti_ (tb_ f2 n) (pr_ (tb_ f2 n) (nI ln - 1) lo 200 0).2.1).2.1) → ((pr_ (tb_ f2 n) (nI ln - 1) lo 200 0).1 = true → 12 < si + (pr_ (tb_ f2 n) (nI ln - 1) lo 200 0).2.2 → si2 = si ∧ v = -4) → ((pr_ (tb_ f2 n) (nI ln - 1) lo 200 0).1 = true → si + (pr_ (tb_ f2 n) (nI ln - 1) lo 200 0).2.2 ≤ 12 → si2 = si + (pr_ (tb_ f2 n) (nI ln - 1) lo 200 0).2.2 ∧ v = nI (si + (pr_ (tb_ f2 n) (nI ln - 1) lo 200 0).2.2)) → ax_G g mt_Mod_silence 11 0 0 0 (ax_en mt_Mod_silence.2.2.1 (.ref 143 :: [])) [] (oP N 1 7 [.ref 2, .int (nI 0)]) (fun v2 M2 => v2 = some (.int v) ∧ Rel g M2) := by
    intro v si2 d1 d2 d3 d4 d5 d6
    refine d_silence (h := 5) (lo := lo) hbl hlo0 hlo1 hln i12 hT ((fN 143 (by omega)).trans h143) ((fN 144 (by omega)).trans t3) ((fN 166 (by omega)).trans i5) ((fN 167 (by omega)).trans i6) ((fN 168 (by omega)).trans i7) ((fN 169 (by omega)).trans i8) ((fN 170 (by omega)).trans i9) ((fN 171 (by omega)).trans i10) ((fN 172 (by omega)).trans i11) (fun N2 un2 kd2 wh2 fi2 rz2 rb2 ls2 tk2 pl2 bh2 va2 iw2 hSA => ?_)
    have f2N : ∀ k, ¬ (k = 143 ∨ (166 ≤ k ∧ k ≤ 172)) → N2.2 k = (oP N 1 7 [.ref 2, .int (nI 0)]).2 k := fun k hk => hSA.1 k hk
    have key : ∀ k, ¬ (k = 1 ∨ k = 22 ∨ (24 ≤ k ∧ k ≤ 68) ∨ k = 143 ∨ (166 ≤ k ∧ k ≤ 172)) → N2.2 k = M.2 k := fun k hk => (f2N k (by omega)).trans (fN k (by omega))
    have keyN : ∀ k, ¬ (k = 1 ∨ k = 143 ∨ (166 ≤ k ∧ k ≤ 172)) → N2.2 k = N.2 k := fun k hk => (f2N k (by omega)).trans (ax_ne (by omega) rfl)
    have n1 : oC N2 1 7 [.ref 2, .int (nI 0)] := (f2N 1 (by omega)).trans ax_eq
    have rel : oC N2 143 12 (md_f (nI 0) (nI bl) (nI ln) (nI dr) (nI al) (nI ru) pv (nI si2) (nI pa) (nI cm) (nI os) gm tk2 pl2 bh2 va2 iw2 od) → Rel g N2 := by
      intro n143
      have hS := R_sil_new (ln := ln) (pr_t 200 0 (fun i hi => absurd hi (Nat.not_lt_zero i))) d1 d2 ((keyN 22 (by omega)).trans d3) ((key 23 (by omega)).trans i2) i3 i4 i13 (fun k hk => keyN k (by omega)) hSL hSA
      have hX2 : R_scr N2 := by
        obtain ⟨y1, y2, y3⟩ := y24
        refine hX.set (fun k hk => ?_)
        by_cases e : 24 ≤ k ∧ k ≤ 29
        · have kn := keyN k (by omega)
          rcases (by omega : k = 24 ∨ k = 25 ∨ k = 26 ∨ k = 27 ∨ k = 28 ∨ k = 29) with rfl | rfl | rfl | rfl | rfl | rfl
          · exact Or.inr ⟨_, _, kn.trans y3⟩
          · exact Or.inr ⟨n, hT.2.2.2.1, kn.trans hT.1⟩
          · exact Or.inr ⟨_, kn.trans hT.2.1⟩
          · exact Or.inr ⟨_, kn.trans hT.2.2.2.2.1⟩
          · exact Or.inr ⟨_, kn.trans hT.2.2.2.2.2.1⟩
          · exact Or.inr ⟨_, kn.trans hT.2.2.2.2.2.2.1⟩
        · exact Or.inl (key k (by omega))
      exact ⟨0, bl, ln, dr, al, ru, si2, pa, cm, os, dw, nw, pv, gm, tk2, pl2, bh2, va2, iw2, od, (key 0 (by omega)).trans h0, n143, ⟨f1, f2, n1, (key 2 (by omega)).trans t2, (key 144 (by omega)).trans t3, Nat.zero_le _, fun j hj => absurd hj (Nat.not_lt_zero j)⟩, hL.mv (fun k hk => key k (by omega)), hA.mv (fun k hk => key k (by omega)), hF.mv (fun k hk => key k (by omega)), hS, hO.mv (fun k hk => key k (by omega)), hU.mv (fun k hk => key k (by omega)), hC.mv (fun k hk => key k (by omega)), hX2, hz⟩
    refine ⟨fun e1 o => ?_, fun e1 e2 o => ?_, fun e1 e2 o => ?_⟩
    · obtain ⟨rfl, rfl⟩ := d4 e1
      exact ⟨rfl, rel o⟩
    · obtain ⟨rfl, rfl⟩ := d5 e1 e2
      exact ⟨rfl, rel o⟩
    · obtain ⟨rfl, rfl⟩ := d6 e1 e2
      exact ⟨rfl, rel o⟩
  have n143 : oC (oP N 1 7 [.ref 2, .int (nI 0)]) 143 12 _ := (fN 143 (by omega)).trans h143
  refine ⟨fun e1 e2 => ⟨_, rfl, ⟨_, n143⟩, ref _ si (Or.inl rfl) i12 e2 (fun _ => ⟨rfl, rfl⟩) (fun w => ?_) (fun w => ?_)⟩, fun e1 e2 e3 => ⟨_, rfl, ⟨_, n143⟩, ref _ si (Or.inl rfl) i12 e3 (fun w => ?_) (fun _ _ => ⟨rfl, rfl⟩) (fun _ w => absurd w (by omega))⟩, fun e1 e2 e3 => ⟨_, rfl, ⟨_, n143⟩, ref _ _ (Or.inr rfl) e2 e3 (fun w => ?_) (fun _ w => absurd w (by omega)) (fun _ _ => ⟨rfl, rfl⟩)⟩⟩
  · rw [e1] at w; cases w
  · rw [e1] at w; cases w
  · rw [e1] at w; cases w
  · rw [e1] at w; cases w
end BSIL
