/-! all silences of a text: the class -/
/-- where silence j begins -/
def kj_ (T : Nat → Int32) (m lo : Int32) : Nat → Nat
  | 0 => 0
  | j + 1 => (o1_ T m lo (kj_ T m lo j)).2.1
/-- whether, the token that can't stand, how many -/
def pr_ (T : Nat → Int32) (m lo : Int32) : Nat → Nat → Bool × Nat × Nat
  | 0, j => (true, 0, j)
  | d + 1, j => if (o1_ T m lo (kj_ T m lo j)).1 = true then (if (ti_ T (kj_ T m lo (j + 1))).1 = 0 then (true, 0, j + 1) else pr_ T m lo d (j + 1)) else (false, (o1_ T m lo (kj_ T m lo j)).2.1, j)
theorem wh_k {T : Nat → Int32} {m : Int32} {k : Nat} (h : (wh_ T m k).1 = true) : k + 1 ≤ (wh_ T m k).2.1 := by
  unfold wh_ at h ⊢
  repeat' split at h
  all_goals first
    | (exfalso; exact absurd h (by decide))
    | skip
  all_goals simp_all
  all_goals omega
theorem on2_k {T : Nat → Int32} {i : Nat} {lo hi : Int32} {k : Nat} : k ≤ (on2_ T i lo hi k).2.1 := by
  unfold on2_
  repeat' split
  all_goals first
    | (show k ≤ k + 2; omega)
    | (show k ≤ k + 1; omega)
    | (show k ≤ k; omega)
theorem be2_k {T : Nat → Int32} {k : Nat} : k ≤ (be2_ T k).2.1 := by
  unfold be2_
  repeat' split
  all_goals first
    | (show k ≤ k + 2; omega)
    | (show k ≤ k + 1; omega)
    | (show k ≤ k; omega)
/-- what a silence that is told rightly is made of -/
theorem o1_t {T : Nat → Int32} {m lo : Int32} {k : Nat} (h : (o1_ T m lo k).1 = true) : iw_ T (ti_ T k) 0 = true ∧ (wh_ T m (k + 1)).1 = true ∧ (on2_ T 6 0 9 (wh_ T m (k + 1)).2.1).1 = true ∧ (on2_ T 7 lo 11 (on2_ T 6 0 9 (wh_ T m (k + 1)).2.1).2.1).1 = true ∧ (be2_ T (on2_ T 7 lo 11 (on2_ T 6 0 9 (wh_ T m (k + 1)).2.1).2.1).2.1).1 = true ∧ (ti_ T (be2_ T (on2_ T 7 lo 11 (on2_ T 6 0 9 (wh_ T m (k + 1)).2.1).2.1).2.1).2.1).1 = 4 ∧ (o1_ T m lo k).2.1 = (be2_ T (on2_ T 7 lo 11 (on2_ T 6 0 9 (wh_ T m (k + 1)).2.1).2.1).2.1).2.1 + 1 := by
  unfold o1_ at h ⊢
  by_cases e1 : iw_ T (ti_ T k) 0 = true
  · rw [if_pos e1] at h ⊢
    by_cases e2 : (wh_ T m (k + 1)).1 = true
    · rw [if_pos e2] at h ⊢
      by_cases e3 : (on2_ T 6 0 9 (wh_ T m (k + 1)).2.1).1 = true
      · rw [if_pos e3] at h ⊢
        by_cases e4 : (on2_ T 7 lo 11 (on2_ T 6 0 9 (wh_ T m (k + 1)).2.1).2.1).1 = true
        · rw [if_pos e4] at h ⊢
          by_cases e5 : (be2_ T (on2_ T 7 lo 11 (on2_ T 6 0 9 (wh_ T m (k + 1)).2.1).2.1).2.1).1 = true
          · rw [if_pos e5] at h ⊢
            by_cases e6 : (ti_ T (be2_ T (on2_ T 7 lo 11 (on2_ T 6 0 9 (wh_ T m (k + 1)).2.1).2.1).2.1).2.1).1 = 4
            · rw [if_pos e6]
              exact ⟨e1, e2, e3, e4, e5, e6, rfl⟩
            · rw [if_neg e6] at h; cases h
          · rw [if_neg e5] at h; cases h
        · rw [if_neg e4] at h; cases h
      · rw [if_neg e3] at h; cases h
    · rw [if_neg e2] at h; cases h
  · rw [if_neg e1] at h; cases h
theorem o1_3 {T : Nat → Int32} {m lo : Int32} {k : Nat} (h : (o1_ T m lo k).1 = true) : k + 3 ≤ (o1_ T m lo k).2.1 := by
  obtain ⟨-, h2, -, -, -, -, h7⟩ := o1_t h
  have a1 := wh_k h2
  have a2 := on2_k (T := T) (i := 6) (lo := 0) (hi := 9) (k := (wh_ T m (k + 1)).2.1)
  have a3 := on2_k (T := T) (i := 7) (lo := lo) (hi := 11) (k := (on2_ T 6 0 9 (wh_ T m (k + 1)).2.1).2.1)
  have a4 := be2_k (T := T) (k := (on2_ T 7 lo 11 (on2_ T 6 0 9 (wh_ T m (k + 1)).2.1).2.1).2.1)
  omega
theorem sl_3 {N : ax_M} {p : Nat} {un kd fo fi : Int32} {ls : Int64} {r : Nat} {f : Nat → Int32} : sl_ N p un kd fo fi ls r f ↔ sc_3 N (30 + 3 * p) un kd fo fi ls r f := by
  unfold sl_ sc_3
  rw [show 30 + 3 * p + 1 = 31 + 3 * p by omega, show 30 + 3 * p + 2 = 32 + 3 * p by omega]
section ALL
variable {g : ax_Y} {M : ax_M} {Q : Option Value → ax_M → Prop} {h n si ln : Nat} {f1 f2 : Nat → Int32} {x lo : Int32} {sl : Nat → Option Nat} {pm : Nat → Nat}
/-- the slots behind c silences more -/
def SL_ (M N : ax_M) (T : Nat → Int32) (f2 : Nat → Int32) (m lo : Int32) (pm : Nat → Nat) (si c : Nat) : Prop := ∀ s, s < 13 → ∃ un kd fo fi ls r f, sl_ N (pm s) un kd fo fi ls r f ∧ (s < si → sl_ M (pm s) un kd fo fi ls r f) ∧ (si ≤ s → s < si + c → s < 12 → (o1_ T m lo (kj_ T m lo (s - si))).2.2 = (un, kd, fo, fi, ls, (o1_ T m lo (kj_ T m lo (s - si))).2.2.2.2.2.2.2.1, r) ∧ ∀ j, j < r → f j &&& 255 = f2 ((o1_ T m lo (kj_ T m lo (s - si))).2.2.2.2.2.2.2.1 + j))
theorem m_Silences_take {z1 z2 : Int32} {r0 : Nat} {f0 e27 e28 e29 : Nat → Int32} (hx : (if x < 0 then 0 else x) = lo) (hln : ln ≤ 40) (hsi : si ≤ 12) (h22 : oC M 22 9 [.ref 23, .int (nI si), .ref 24]) (h23 : M.2 23 = some (.inl (5, 13, .inr (.inr (.inr (.inr sl)))))) (hs1 : ∀ k, k < 13 → pm k < 13 ∧ sl k = some (30 + 3 * pm k)) (hs2 : ∀ j k, j < 13 → k < 13 → pm j = pm k → j = k) (hs3 : ∀ k, k < 13 → ∃ a b c d e r f, sl_ M (pm k) a b c d e r f) (h24 : oC M 24 10 (tk_f z1 z2)) (h25 : oC M 25 7 [.ref 26, .int (nI r0)]) (h26 : bA M 26 160 f0) (h27 : iA M 27 161 e27) (h28 : iA M 28 161 e28) (h29 : iA M 29 161 e29) (h_from : oC M 1 7 [.ref 2, .int (nI n)]) (h_fb : bA M 2 160 f1) (hb : by_ n f1 f2) (hn : n ≤ 160) (hq : ∀ (N : ax_M) (g1 so sa se : Nat → Int32) (sz k : Nat), fr_ M N (fun j => (24 ≤ j ∧ j ≤ 68) ∨ j = 22) → oC N 24 10 (tk_f (nI sz) (nI k)) → TK_ N g1 f2 n sz so sa se → SL_ M N (tb_ f2 n) f2 (nI ln - 1) lo pm si (pr_ (tb_ f2 n) (nI ln - 1) lo 200 0).2.2 → ((pr_ (tb_ f2 n) (nI ln - 1) lo 200 0).1 = false → oC N 22 9 [.ref 23, .int (nI si), .ref 24] → Q (some (.int (-10 - nI (ti_ (tb_ f2 n) (pr_ (tb_ f2 n) (nI ln - 1) lo 200 0).2.1).2.1))) N) ∧ ((pr_ (tb_ f2 n) (nI ln - 1) lo 200 0).1 = true → 12 < si + (pr_ (tb_ f2 n) (nI ln - 1) lo 200 0).2.2 → oC N 22 9 [.ref 23, .int (nI si), .ref 24] → Q (some (.int (-4))) N) ∧ ((pr_ (tb_ f2 n) (nI ln - 1) lo 200 0).1 = true → si + (pr_ (tb_ f2 n) (nI ln - 1) lo 200 0).2.2 ≤ 12 → oC N 22 9 [.ref 23, .int (nI (si + (pr_ (tb_ f2 n) (nI ln - 1) lo 200 0).2.2)), .ref 24] → Q (some (.int (nI (si + (pr_ (tb_ f2 n) (nI ln - 1) lo 200 0).2.2)))) N)) : ax_G g mt_Silences_take (h + 8) 0 0 0 [.ref 22, .ref 1, .int (nI ln), .int x, .float 0, .float 0] [] M Q := by
  refine s_aload_n 1 rfl rfl rfl ?_
  refine s_getfield 9 2 4 rfl rfl fl_Silences_20 h22 rfl ?_
  refine s_aload_n 5 rfl rfl rfl ?_
  refine c_callV1 (h+7) 8 rfl rfl mv_Silences_53 (by omega) (Nat.le_of_ble_eq_true rfl) (Nat.le_of_ble_eq_true rfl) h24 rfl rfl ?_
  -- Silences_take 8: call Tokens_split
  refine m_Tokens_split (h := h + 4) h24 h25 h26 h27 h28 h29 h_from h_fb hb hn (fun N g1 so sa se sz frN y24 hT => ?_)
  dsimp only [ax_rs]
  have y22 : oC N 22 9 [.ref 23, .int (nI si), .ref 24] := (frN 22 (by omega)).trans h22
  refine s_aload_n 9 rfl rfl rfl ?_
  refine s_getfield 9 1 12 rfl rfl fl_Silences_25 y22 rfl ?_
  refine s_ist4 14 rfl rfl rfl ?_
  refine s_iconst 0 15 rfl rfl (by decide) ?_
  refine s_ist5 17 rfl rfl rfl ?_
  -- Silences_take 17: end
  generalize hT0 : tb_ f2 n = T at hq
  generalize hm : nI ln - 1 = m at hq
  have loop : ∀ (d j : Nat) (K : ax_M), j + d = 200 → kj_ T m lo j < sz → 3 * j ≤ kj_ T m lo j → fr_ M K (fun i => 24 ≤ i ∧ i ≤ 68) → oC K 24 10 (tk_f (nI sz) (nI (kj_ T m lo j))) → TK_ K g1 f2 n sz so sa se → SL_ M K T f2 m lo pm si j → pr_ T m lo d j = pr_ T m lo 200 0 → ax_G g mt_Silences_take (h + 8) 0 0 17 [.ref 22, .ref 1, .int (nI ln), .int x, .int (nI (si + j)), .int (nI j)] [] K Q := by
    intro d
    induction d with
    | zero =>
      intro j K hj hk h3
      have := hT.2.2.2.2.2.2.2.1.2
      omega
    | succ d ih =>
      intro j K hj hk h3 frK k24 hTK hSL ep
      have sz161 := hT.2.2.2.2.2.2.2.1.2
      have k22 : oC K 22 9 [.ref 23, .int (nI si), .ref 24] := (frK 22 (by omega)).trans h22
      have k23 : K.2 23 = some (.inl (5, 13, .inr (.inr (.inr (.inr sl))))) := (frK 23 (by omega)).trans h23
      have smin : ∃ sx, sx < 13 ∧ (if (12 : Int32) < nI (si + j) then 12 else nI (si + j)) = nI sx ∧ (si + j < 12 → sx = si + j) ∧ (12 ≤ si + j → sx = 12) := by
        by_cases z : (12 : Int32) < nI (si + j)
        · have := nn_lt (a := 12) z
          rw [if_pos z]
          exact ⟨12, by omega, rfl, fun _ => by omega, fun _ => rfl⟩
        · rw [if_neg z]
          have := nn_nlt (a := 12) z
          exact ⟨si + j, by omega, rfl, fun _ => rfl, fun _ => by omega⟩
      obtain ⟨sx, sx13, esx, sx1, sx2⟩ := smin
      obtain ⟨pmx, y_one⟩ := hs1 sx sx13
      obtain ⟨un, kd, fo, fi, ls, r, f, v1, v2, v3⟩ := hSL sx sx13
      rw [pr_] at ep
      refine s_iload 19 rfl rfl rfl ?_
      refine s_sipush 160 22 rfl rfl (by decide) ?_
      refine s_icmp_ge 80 25 rfl rfl (by decide) (fun c1 => ?_) (fun c1 => ?_)
      -- Silences_take 25: branch 80 25
      · exact absurd (nn_le (a := 160) c1) (by omega)
      · refine s_aload_n 26 rfl rfl rfl ?_
        refine s_aload_n 27 rfl rfl rfl ?_
        refine s_getfield 9 0 30 rfl rfl fl_Silences_11 k22 rfl ?_
        refine s_iload 32 rfl rfl rfl ?_
        refine s_bipush 12 34 rfl rfl (by decide) ?_
        refine s_mmin 37 rfl rfl mm_Silences_57 (by omega) (Nat.le_of_ble_eq_true rfl) ?_
        -- Silences_take 37: end
        rw [esx]
        refine s_aaload 5 "AlarmGroups$Silence" (sx) 38 rfl rfl rfl k23 rfl (by omega) (by decide) (y_one) ?_
        refine s_iload_n 39 rfl rfl rfl ?_
        refine s_iload_n 40 rfl rfl rfl ?_
        refine c_callV3 (h+7) 43 rfl rfl mv_Silences_63 (by omega) (Nat.le_of_ble_eq_true rfl) (Nat.le_of_ble_eq_true rfl) k22 rfl rfl ?_
        -- Silences_take 43: call Silences_takeOne
        have idK : tN K sz (kj_ T m lo j) = K := by
          unfold tN oP
          exact ax_id k24
        rw [← idK]
        have frS : ∀ N2, fr_ K N2 (fun i => 30 + 3 * pm sx ≤ i ∧ i ≤ 30 + 3 * pm sx + 2) → fr_ M (tN N2 sz 0) (fun i => 24 ≤ i ∧ i ≤ 68) := fun N2 w => (frK.t (w.w (fun i hi => by omega))).put (by omega)
        have keep : ∀ N2 kk, fr_ K N2 (fun i => 30 + 3 * pm sx ≤ i ∧ i ≤ 30 + 3 * pm sx + 2) → ∀ s, s < 13 → s ≠ sx → ∀ un kd fo fi ls r f, sl_ K (pm s) un kd fo fi ls r f → sl_ (tN N2 sz kk) (pm s) un kd fo fi ls r f := by
          intro N2 kk w s hs13 hne un kd fo fi ls r f q
          have ne : pm s ≠ pm sx := fun q => hne (hs2 s sx hs13 sx13 q)
          have p13 := (hs1 s hs13).1
          obtain ⟨q1, q2, q3, q4⟩ := q
          exact ⟨ax_ne (by omega) ((w _ (by omega)).trans q1), ax_ne (by omega) ((w _ (by omega)).trans q2), ax_ne (by omega) ((w _ (by omega)).trans q3), q4⟩
        refine m_Silences_takeOne (h := h) (N := K) (si := si) hx (by omega) (by omega) hln hTK k22 (sl_3.mp v1) hk (fun e N2 un2 kd2 fo2 fi2 ls2 r2 g2 w1 w2 w3 => ?_) (fun e N2 g2 w1 w2 w4 w3 => ?_)
        · rw [hT0, hm] at e w3 ⊢
          rw [if_neg (by rw [e]; decide)] at ep
          dsimp only [ax_rs]
          rw [← ep] at hq
          have t24 : oC (tN N2 sz (o1_ T m lo (kj_ T m lo j)).2.1) 24 10 (tk_f (nI sz) (nI (o1_ T m lo (kj_ T m lo j)).2.1)) := ax_eq
          have t22 : oC (tN N2 sz (o1_ T m lo (kj_ T m lo j)).2.1) 22 9 [.ref 23, .int (nI si), .ref 24] := ax_ne (by omega) ((w1 22 (by omega)).trans k22)
          have tT : TK_ (tN N2 sz (o1_ T m lo (kj_ T m lo j)).2.1) g1 f2 n sz so sa se := hTK.mv (fun i hi => ax_ne (by omega) (w1 i (by omega)))
          refine s_if_ne 57 46 rfl rfl (by decide) (fun c2 => ?_) (fun c2 => ?_)
          -- Silences_take 46: branch 57 46
          · exact absurd rfl c2
          · refine s_bipush (-10) 48 rfl rfl (by decide) ?_
            refine s_aload_n 49 rfl rfl rfl ?_
            refine s_getfield 9 2 52 rfl rfl fl_Silences_20 t22 rfl ?_
            refine c_callV0 (h+7) 55 rfl rfl mv_Silences_67 (by omega) (Nat.le_of_ble_eq_true rfl) (Nat.le_of_ble_eq_true rfl) t24 rfl rfl ?_
            -- Silences_take 55: call Tokens_start
            refine m_Tokens_start t24 tT w3 ?_
            dsimp only [ax_rs]
            rw [hT0]
            refine s_isub 56 rfl rfl ?_
            -- Silences_take 56: ireturn
            refine s_ireturn rfl .int rfl rfl ((hq _ g1 so sa se sz _ ((frK.t (w1.w (fun i hi => by omega))).put (by omega) |>.w (fun i hi => Or.inl hi)) t24 tT (fun s hs13 => ?_)).1 rfl t22)
            by_cases z : s = sx
            · subst z
              refine ⟨un2, kd2, fo2, fi2, ls2, r2, g2, sl_3.mpr ⟨ax_ne (by omega) w2.1, ax_ne (by omega) w2.2.1, ax_ne (by omega) w2.2.2.1, w2.2.2.2⟩, fun q => ?_, fun q1 q2 q3 => ?_⟩
              · exfalso
                by_cases y : si + j < 12
                · have := sx1 y; omega
                · have := sx2 (by omega); omega
              · exfalso
                have q2 : s < si + j := q2
                by_cases y : si + j < 12
                · have := sx1 y; omega
                · have := sx2 (by omega); omega
            · obtain ⟨a1, a2, a3, a4, a5, a6, a7, u1, u2, u3⟩ := hSL s hs13
              exact ⟨a1, a2, a3, a4, a5, a6, a7, keep N2 _ w1 s hs13 z _ _ _ _ _ _ _ u1, u2, u3⟩
        · rw [hT0, hm] at e w2 w3 w4 ⊢
          have k3 := o1_3 e
          rw [if_pos e] at ep
          dsimp only [ax_rs]
          have t24 : oC (tN N2 sz (o1_ T m lo (kj_ T m lo j)).2.1) 24 10 (tk_f (nI sz) (nI (o1_ T m lo (kj_ T m lo j)).2.1)) := ax_eq
          have t22 : oC (tN N2 sz (o1_ T m lo (kj_ T m lo j)).2.1) 22 9 [.ref 23, .int (nI si), .ref 24] := ax_ne (by omega) ((w1 22 (by omega)).trans k22)
          have tT : TK_ (tN N2 sz (o1_ T m lo (kj_ T m lo j)).2.1) g1 f2 n sz so sa se := hTK.mv (fun i hi => ax_ne (by omega) (w1 i (by omega)))
          have tfr : fr_ M (tN N2 sz (o1_ T m lo (kj_ T m lo j)).2.1) (fun i => 24 ≤ i ∧ i ≤ 68) := (frK.t (w1.w (fun i hi => by omega))).put (by omega)
          have tSL : SL_ M (tN N2 sz (o1_ T m lo (kj_ T m lo j)).2.1) T f2 m lo pm si (j + 1) := by
            intro s hs13
            by_cases z : s = sx
            · subst z
              refine ⟨_, _, _, _, _, _, g2, sl_3.mpr ⟨ax_ne (by omega) w2.1, ax_ne (by omega) w2.2.1, ax_ne (by omega) w2.2.2.1, w2.2.2.2⟩, fun q => ?_, fun q1 q2 q3 => ?_⟩
              · exfalso
                by_cases y : si + j < 12
                · have := sx1 y; omega
                · have := sx2 (by omega); omega
              · have y : si + j < 12 := by
                  by_cases y : si + j < 12
                  · exact y
                  · have := sx2 (by omega); omega
                have := sx1 y
                rw [show s - si = j by omega]
                exact ⟨rfl, w4⟩
            · obtain ⟨a1, a2, a3, a4, a5, a6, a7, u1, u2, u3⟩ := hSL s hs13
              refine ⟨a1, a2, a3, a4, a5, a6, a7, keep N2 _ w1 s hs13 z _ _ _ _ _ _ _ u1, u2, fun q1 q2 q3 => u3 q1 ?_ q3⟩
              by_cases y : si + j < 12
              · have := sx1 y; omega
              · omega
          refine s_if_ne 57 46 rfl rfl (by decide) (fun c3 => ?_) (fun c3 => ?_)
          -- Silences_take 46: branch 57 46
          · refine s_inc4 _ 60 rfl rfl rfl rfl ?_
            refine s_aload_n 61 rfl rfl rfl ?_
            refine s_getfield 9 2 64 rfl rfl fl_Silences_20 t22 rfl ?_
            refine s_iconst 0 65 rfl rfl (by decide) ?_
            refine c_callV1 (h+7) 68 rfl rfl mv_Silences_71 (by omega) (Nat.le_of_ble_eq_true rfl) (Nat.le_of_ble_eq_true rfl) t24 rfl rfl ?_
            -- Silences_take 68: call Tokens_standsAt
            refine m_Tokens_standsAt (c := 0) t24 tT w3 (by omega) ?_
            dsimp only [ax_rs]
            rw [hT0]
            have ek : (o1_ T m lo (kj_ T m lo j)).2.1 = kj_ T m lo (j + 1) := rfl
            refine s_if_eq 74 71 rfl rfl (by decide) (fun c4 => ?_) (fun c4 => ?_)
            -- Silences_take 71: branch 74 71
            · rw [bi_0] at c4
              rw [if_neg (by rw [← ek]; exact c4)] at ep
              refine s_inc5 _ 77 rfl rfl rfl rfl ?_
              refine s_goto 17 rfl (by decide) ?_
              -- Silences_take 17: end
              rw [inc1, inc1, show si + j + 1 = si + (j + 1) by omega]
              exact ih (j + 1) _ (by omega) w3 (by rw [← ek]; omega) tfr t24 tT tSL ep
            · rw [bi_0, Classical.not_not] at c4
              rw [if_pos (by rw [← ek]; exact c4)] at ep
              rw [← ep] at hq
              have hq := fun N so sa se sz k => hq N g1 so sa se sz k
              refine s_goto 80 rfl (by decide) ?_
              refine s_iload 82 rfl rfl rfl ?_
              refine s_bipush 12 84 rfl rfl (by decide) ?_
              refine s_icmp_le 90 87 rfl rfl (by decide) (fun c5 => ?_) (fun c5 => ?_)
              -- Silences_take 87: branch 90 87
              · rw [inc1] at c5
                have c5 := nn_le (b := 12) c5
                refine s_aload_n 91 rfl rfl rfl ?_
                refine s_iload 93 rfl rfl rfl ?_
                refine s_putfield 9 1 (.int) 96 rfl rfl fp_Silences_25 t22 (Nat.le_of_ble_eq_true rfl) ⟨rfl, rfl⟩ (fun h => absurd h (by decide)) ?_
                -- Silences_take 96: end
                have t22b : oC (oP (tN N2 sz (o1_ T m lo (kj_ T m lo j)).2.1) 22 9 [.ref 23, .int (nI (si + j + 1)), .ref 24]) 22 9 [.ref 23, .int (nI (si + j + 1)), .ref 24] := ax_eq
                rw [inc1]
                refine s_aload_n 97 rfl rfl rfl ?_
                refine s_getfield 9 1 100 rfl rfl fl_Silences_25 t22b rfl ?_
                -- Silences_take 100: ireturn
                refine s_ireturn rfl .int rfl rfl ((hq _ so sa se sz _ (fun i hi => (ax_ne (by omega) rfl : (oP (tN N2 sz (o1_ T m lo (kj_ T m lo j)).2.1) 22 9 [.ref 23, .int (nI (si + j + 1)), .ref 24]).2 i = _).trans (tfr i (by omega))) (ax_ne (by omega) t24) (tT.mv (fun i hi => ax_ne (by omega) rfl)) (fun s hs13 => ?_)).2.2 rfl (by show si + (j + 1) ≤ 12; omega) t22b)
                obtain ⟨a1, a2, a3, a4, a5, a6, a7, u1, u2, u3⟩ := tSL s hs13
                exact ⟨a1, a2, a3, a4, a5, a6, a7, u1.mv2 (hs1 s hs13).1 (fun i hi => ax_ne (by omega) rfl), u2, u3⟩
              · rw [inc1] at c5
                have c5 := nn_nle (b := 12) c5
                refine s_bipush (-4) 89 rfl rfl (by decide) ?_
                -- Silences_take 89: ireturn
                exact s_ireturn rfl .int rfl rfl ((hq _ so sa se sz _ (tfr.w (fun i hi => Or.inl hi)) t24 tT tSL).2.1 rfl (by show 12 < si + (j + 1); omega) t22)
          · exact absurd c3 (by decide)
  refine loop 200 0 N (by omega) hT.2.2.2.2.2.2.2.1.1 (Nat.zero_le _) (frN.w (fun i hi => by omega)) y24 hT (fun s hs13 => ?_) rfl
  obtain ⟨a, b, c, d, e, r, f, q⟩ := hs3 s hs13
  exact ⟨a, b, c, d, e, r, f, q.mv2 (hs1 s hs13).1 (fun i hi => frN i (by omega)), fun _ => q, fun q1 q2 => by omega⟩
end ALL
