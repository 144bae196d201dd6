/-! the reference: silence -/
theorem o1_y {T : Nat → Int32} {m lo : Int32} {k : Nat} (e1 : iw_ T (ti_ T k) 0 = true) (e2 : (wh_ T m (k + 1)).1 = true) (e3 : (on2_ T 6 0 9 (wh_ T m (k + 1)).2.1).1 = true) (e4 : (on2_ T 7 lo 11 (on2_ T 6 0 9 (wh_ T m (k + 1)).2.1).2.1).1 = true) (e5 : (be2_ T (on2_ T 7 lo 11 (on2_ T 6 0 9 (wh_ T m (k + 1)).2.1).2.1).2.1).1 = true) (e6 : (ti_ T (be2_ T (on2_ T 7 lo 11 (on2_ T 6 0 9 (wh_ T m (k + 1)).2.1).2.1).2.1).2.1).1 = 4) : o1_ T m lo k = (true, (be2_ T (on2_ T 7 lo 11 (on2_ T 6 0 9 (wh_ T m (k + 1)).2.1).2.1).2.1).2.1 + 1, (on2_ T 7 lo 11 (on2_ T 6 0 9 (wh_ T m (k + 1)).2.1).2.1).2.2, (on2_ T 6 0 9 (wh_ T m (k + 1)).2.1).2.2, (wh_ T m (k + 1)).2.2.1, (wh_ T m (k + 1)).2.2.2.1, (wh_ T m (k + 1)).2.2.2.2, (be2_ T (on2_ T 7 lo 11 (on2_ T 6 0 9 (wh_ T m (k + 1)).2.1).2.1).2.1).2.2.1, (be2_ T (on2_ T 7 lo 11 (on2_ T 6 0 9 (wh_ T m (k + 1)).2.1).2.1).2.1).2.2.2) := by
  unfold o1_
  rw [if_pos e1, if_pos e2, if_pos e3, if_pos e4, if_pos e5, if_pos e6]
theorem o1_n1 {T : Nat → Int32} {m lo : Int32} {k : Nat} (e1 : iw_ T (ti_ T k) 0 = false) : (o1_ T m lo k).1 = false ∧ (o1_ T m lo k).2.1 = k := by
  unfold o1_
  rw [if_neg (by rw [e1]; decide)]
  exact ⟨rfl, rfl⟩
theorem o1_n2 {T : Nat → Int32} {m lo : Int32} {k : Nat} (e1 : iw_ T (ti_ T k) 0 = true) (e2 : (wh_ T m (k + 1)).1 = false) : (o1_ T m lo k).1 = false ∧ (o1_ T m lo k).2.1 = (wh_ T m (k + 1)).2.1 := by
  unfold o1_
  rw [if_pos e1, if_neg (by rw [e2]; decide)]
  exact ⟨rfl, rfl⟩
theorem o1_n3 {T : Nat → Int32} {m lo : Int32} {k kw : Nat} (e1 : iw_ T (ti_ T k) 0 = true) (e2 : (wh_ T m (k + 1)).1 = true) (e : ((on2_ T 6 0 9 (wh_ T m (k + 1)).2.1).1 = false ∧ kw = (on2_ T 6 0 9 (wh_ T m (k + 1)).2.1).2.1) ∨ ((on2_ T 6 0 9 (wh_ T m (k + 1)).2.1).1 = true ∧ (((on2_ T 7 lo 11 (on2_ T 6 0 9 (wh_ T m (k + 1)).2.1).2.1).1 = false ∧ kw = (on2_ T 7 lo 11 (on2_ T 6 0 9 (wh_ T m (k + 1)).2.1).2.1).2.1) ∨ ((on2_ T 7 lo 11 (on2_ T 6 0 9 (wh_ T m (k + 1)).2.1).2.1).1 = true ∧ ((be2_ T (on2_ T 7 lo 11 (on2_ T 6 0 9 (wh_ T m (k + 1)).2.1).2.1).2.1).1 = false ∨ (ti_ T (be2_ T (on2_ T 7 lo 11 (on2_ T 6 0 9 (wh_ T m (k + 1)).2.1).2.1).2.1).2.1).1 ≠ 4) ∧ kw = (be2_ T (on2_ T 7 lo 11 (on2_ T 6 0 9 (wh_ T m (k + 1)).2.1).2.1).2.1).2.1)))) : (o1_ T m lo k).1 = false ∧ (o1_ T m lo k).2.1 = kw := by
  unfold o1_
  rw [if_pos e1, if_pos e2]
  rcases e with ⟨a1, a2⟩ | ⟨a1, a2⟩
  · rw [if_neg (by rw [a1]; decide), a2]
    exact ⟨rfl, rfl⟩
  · rw [if_pos a1]
    rcases a2 with ⟨b1, b2⟩ | ⟨b1, b2, b3⟩
    · rw [if_neg (by rw [b1]; decide), b2]
      exact ⟨rfl, rfl⟩
    · rw [if_pos b1, b3]
      by_cases c : (be2_ T (on2_ T 7 lo 11 (on2_ T 6 0 9 (wh_ T m (k + 1)).2.1).2.1).2.1).1 = true
      · rw [if_pos c]
        rcases b2 with b2 | b2
        · rw [b2] at c; cases c
        · rw [if_neg b2]
          exact ⟨rfl, rfl⟩
      · rw [if_neg c]
        exact ⟨rfl, rfl⟩
theorem wh_w {T : Nat → Int32} {m : Int32} {k : Nat} (h : (wh_ T m k).1 = true) : 3 ≤ (ti_ T k).2.2 - (ti_ T k).2.1 := by
  have l : ∀ i, 1 ≤ i → i < 5 → iw_ T (ti_ T k) i = true → 3 ≤ (ti_ T k).2.2 - (ti_ T k).2.1 := by
    intro i h1 h2 e
    have e := (of_decide_eq_true e).2.1
    have := (by decide : ∀ i, i < 5 → 1 ≤ i → 3 ≤ ax_sln.getD i 0) i h2 h1
    omega
  unfold wh_ at h
  by_cases e1 : iw_ T (ti_ T k) 1 = true
  · exact l 1 (by omega) (by omega) e1
  · rw [if_neg e1] at h
    by_cases e2 : iw_ T (ti_ T k) 2 = true
    · exact l 2 (by omega) (by omega) e2
    · rw [if_neg e2] at h
      by_cases e3 : iw_ T (ti_ T k) 3 = true
      · exact l 3 (by omega) (by omega) e3
      · rw [if_neg e3] at h
        by_cases e4 : iw_ T (ti_ T k) 4 = true
        · exact l 4 (by omega) (by omega) e4
        · rw [if_neg e4] at h
          cases h
/-- the rows of the reference behind c silences more -/
def SA_ (M N : ax_M) (T f2 : Nat → Int32) (m lo : Int32) (si c : Nat) (un kd wh fi rz rb : Nat → Int32) (ls : Nat → Int64) (un2 kd2 wh2 fi2 rz2 rb2 : Nat → Int32) (ls2 : Nat → Int64) : Prop :=
  fr_ M N (fun j => j = 143 ∨ (166 ≤ j ∧ j ≤ 172)) ∧ iA N 166 26 un2 ∧ iA N 167 26 kd2 ∧ iA N 168 26 wh2 ∧ iA N 169 26 fi2 ∧ lA N 170 26 ls2 ∧ iA N 171 26 rz2 ∧ iA N 172 520 rb2 ∧ (∀ s, s < si → un2 s = un s ∧ kd2 s = kd s ∧ wh2 s = wh s ∧ fi2 s = fi s ∧ ls2 s = ls s ∧ rz2 s = rz s) ∧ (∀ i, i < 20 * si → rb2 i = rb i) ∧ ∀ s, si ≤ s → s < si + c → un2 s = (o1_ T m lo (kj_ T m lo (s - si))).2.2.1 ∧ kd2 s = (o1_ T m lo (kj_ T m lo (s - si))).2.2.2.1 ∧ wh2 s = (o1_ T m lo (kj_ T m lo (s - si))).2.2.2.2.1 ∧ fi2 s = (o1_ T m lo (kj_ T m lo (s - si))).2.2.2.2.2.1 ∧ ls2 s = (o1_ T m lo (kj_ T m lo (s - si))).2.2.2.2.2.2.1 ∧ rz2 s = nI (o1_ T m lo (kj_ T m lo (s - si))).2.2.2.2.2.2.2.2 ∧ (o1_ T m lo (kj_ T m lo (s - si))).2.2.2.2.2.2.2.2 ≤ 20 ∧ ∀ j, j < (o1_ T m lo (kj_ T m lo (s - si))).2.2.2.2.2.2.2.2 → rb2 (20 * s + j) = f2 ((o1_ T m lo (kj_ T m lo (s - si))).2.2.2.2.2.2.2.1 + j)
section MSIL
variable {g : ax_Y} {M N N2 K : ax_M} {Q : Option Value → ax_M → Prop} {h n sz k lnn bln sn c : Nat} {dr al ru pv pa cm os gm tk pl bh m lo : Int32} {va : Int64} {iw od : Int32} {T f1 f2 so sa se un kd wh fi rz rb un2 kd2 wh2 fi2 rz2 rb2 un3 kd3 wh3 fi3 rz3 rb3 : Nat → Int32} {ls ls2 ls3 : Nat → Int64}
theorem SA_.md {fs : List Value} (hS : SA_ M N T f2 m lo sn c un kd wh fi rz rb ls un2 kd2 wh2 fi2 rz2 rb2 ls2) : SA_ M (oP N 143 12 fs) T f2 m lo sn c un kd wh fi rz rb ls un2 kd2 wh2 fi2 rz2 rb2 ls2 := ⟨hS.1.put (by omega), hS.2.1, hS.2.2.1, hS.2.2.2.1, hS.2.2.2.2.1, hS.2.2.2.2.2.1, hS.2.2.2.2.2.2.1, hS.2.2.2.2.2.2.2.1, hS.2.2.2.2.2.2.2.2⟩
theorem SA_.w (hS : SA_ M N T f2 m lo sn c un kd wh fi rz rb ls un2 kd2 wh2 fi2 rz2 rb2 ls2) (q : WQ_ N N2 (sn + c) wh2 fi2 ls2 wh3 fi3 ls3) : SA_ M N2 T f2 m lo sn c un kd wh fi rz rb ls un2 kd2 wh3 fi3 rz2 rb2 ls3 := by
  obtain ⟨a1, a2, a3, a4, a5, a6, a7, a8, a9, a10, a11⟩ := hS
  obtain ⟨b1, b2, b3, b4, b5⟩ := q
  refine ⟨a1.t (b1.w (fun j hj => by omega)), (b1 166 (by omega)).trans a2, (b1 167 (by omega)).trans a3, b2, b3, b4, (b1 171 (by omega)).trans a7, (b1 172 (by omega)).trans a8, fun s hs => ?_, a10, fun s h1 h2 => ?_⟩
  · obtain ⟨c1, c2, c3, c4, c5, c6⟩ := a9 s hs
    obtain ⟨d1, d2, d3⟩ := b5 s (by omega)
    exact ⟨c1, c2, d1.trans c3, d2.trans c4, d3.trans c5, c6⟩
  · obtain ⟨c1, c2, c3, c4, c5, c6⟩ := a11 s h1 h2
    obtain ⟨d1, d2, d3⟩ := b5 s (by omega)
    exact ⟨c1, c2, d1.trans c3, d2.trans c4, d3.trans c5, c6⟩
theorem SA_.r (hS : SA_ M N T f2 m lo sn c un kd wh fi rz rb ls un2 kd2 wh2 fi2 rz2 rb2 ls2) (q : RQ_ N N2 (sn + c) un2 kd2 rz2 rb2 un3 kd3 rz3 rb3) : SA_ M N2 T f2 m lo sn c un kd wh fi rz rb ls un3 kd3 wh2 fi2 rz3 rb3 ls2 := by
  obtain ⟨a1, a2, a3, a4, a5, a6, a7, a8, a9, a10, a11⟩ := hS
  obtain ⟨b1, b2, b3, b4, b5, b6, b7⟩ := q
  refine ⟨a1.t (b1.w (fun j hj => by omega)), b2, b3, (b1 168 (by omega)).trans a4, (b1 169 (by omega)).trans a5, (b1 170 (by omega)).trans a6, b4, b5, fun s hs => ?_, fun i hi => (b7 i (by omega)).trans (a10 i hi), fun s h1 h2 => ?_⟩
  · obtain ⟨c1, c2, c3, c4, c5, c6⟩ := a9 s hs
    obtain ⟨d1, d2, d3⟩ := b6 s (by omega)
    exact ⟨d1.trans c1, d2.trans c2, c3, c4, c5, d3.trans c6⟩
  · obtain ⟨c1, c2, c3, c4, c5, c6, c7, c8⟩ := a11 s h1 h2
    obtain ⟨d1, d2, d3⟩ := b6 s (by omega)
    exact ⟨d1.trans c1, d2.trans c2, c3, c4, c5, d3.trans c6, c7, fun j hj => (b7 _ (by omega)).trans (c8 j hj)⟩
theorem SA_.s (hS : SA_ M N T f2 m lo sn c un kd wh fi rz rb ls un2 kd2 wh2 fi2 rz2 rb2 ls2) (q : un2 (sn + c) = (o1_ T m lo (kj_ T m lo c)).2.2.1 ∧ kd2 (sn + c) = (o1_ T m lo (kj_ T m lo c)).2.2.2.1 ∧ wh2 (sn + c) = (o1_ T m lo (kj_ T m lo c)).2.2.2.2.1 ∧ fi2 (sn + c) = (o1_ T m lo (kj_ T m lo c)).2.2.2.2.2.1 ∧ ls2 (sn + c) = (o1_ T m lo (kj_ T m lo c)).2.2.2.2.2.2.1 ∧ rz2 (sn + c) = nI (o1_ T m lo (kj_ T m lo c)).2.2.2.2.2.2.2.2 ∧ (o1_ T m lo (kj_ T m lo c)).2.2.2.2.2.2.2.2 ≤ 20 ∧ ∀ j, j < (o1_ T m lo (kj_ T m lo c)).2.2.2.2.2.2.2.2 → rb2 (20 * (sn + c) + j) = f2 ((o1_ T m lo (kj_ T m lo c)).2.2.2.2.2.2.2.1 + j)) : SA_ M N T f2 m lo sn (c + 1) un kd wh fi rz rb ls un2 kd2 wh2 fi2 rz2 rb2 ls2 := by
  obtain ⟨a1, a2, a3, a4, a5, a6, a7, a8, a9, a10, a11⟩ := hS
  refine ⟨a1, a2, a3, a4, a5, a6, a7, a8, a9, a10, fun s h1 h2 => ?_⟩
  by_cases z : s = sn + c
  · subst z
    rw [show sn + c - sn = c by omega]
    exact q
  · exact a11 s h1 (by omega)
theorem SA_.s2 {o2 os2 or2 : Nat} {ou ok ow oq : Int32} {ol : Int64} (hS : SA_ M N T f2 m lo sn c un kd wh fi rz rb ls un2 kd2 wh2 fi2 rz2 rb2 ls2) (y : o1_ T m lo (kj_ T m lo c) = (true, o2, ou, ok, ow, oq, ol, os2, or2)) (v1 : un2 (sn + c) = ou) (v2 : kd2 (sn + c) = ok) (v3 : wh2 (sn + c) = ow) (v4 : fi2 (sn + c) = oq) (v5 : ls2 (sn + c) = ol) (v6 : rz2 (sn + c) = nI or2) (v7 : or2 ≤ 20) (v8 : ∀ j, j < or2 → rb2 (20 * (sn + c) + j) = f2 (os2 + j)) : SA_ M N T f2 m lo sn (c + 1) un kd wh fi rz rb ls un2 kd2 wh2 fi2 rz2 rb2 ls2 := by
  refine hS.s ?_
  rw [y]
  exact ⟨v1, v2, v3, v4, v5, v6, v7, v8⟩
theorem kj_s {o2 os2 or2 : Nat} {ou ok ow oq : Int32} {ol : Int64} (y : o1_ T m lo (kj_ T m lo c) = (true, o2, ou, ok, ow, oq, ol, os2, or2)) : kj_ T m lo (c + 1) = o2 ∧ (o1_ T m lo (kj_ T m lo c)).1 = true := by
  rw [kj_, y]
  exact ⟨rfl, rfl⟩
theorem tm_ (hT : TK_ K f1 f2 n sz so sa se) : ∀ d k, k + 1 + d < sz → (ti_ (tb_ f2 n) k).2.2 ≤ (ti_ (tb_ f2 n) (k + 1 + d)).2.1 := by
  have one : ∀ k, k + 1 < sz → (ti_ (tb_ f2 n) k).2.2 ≤ (ti_ (tb_ f2 n) (k + 1)).2.1 := by
    intro k hk
    have v := hT.2.2.2.2.2.2.2.2.2.1 k hk
    have b := (hT.b (k := k) (by omega)).2.2 v.1 v.2
    have := (tk_b (f := f2) (n := n) (p := (ti_ (tb_ f2 n) k).2.2) (by_f hT.2.2.1) b.2.2 hT.2.2.2.1).1
    rw [ti_]
    exact this
  intro d
  induction d with
  | zero => exact one
  | succ d ih =>
    intro k hk
    have a := ih k (by omega)
    have v := hT.2.2.2.2.2.2.2.2.2.1 (k + 1 + d) (by omega)
    have b := (hT.b (k := k + 1 + d) (by omega)).2.2 v.1 v.2
    have e := one (k + 1 + d) (by omega)
    rw [show k + 1 + (d + 1) = k + 1 + d + 1 by omega]
    omega
theorem be2_20 (hT : TK_ K f1 f2 n sz so sa se) (hk : k < sz) : (be2_ (tb_ f2 n) k).2.2.2 ≤ 20 := by
  unfold be2_
  by_cases e1 : iw_ (tb_ f2 n) (ti_ (tb_ f2 n) k) 8 = true
  · rw [if_pos e1]
    by_cases e2 : (ti_ (tb_ f2 n) (k + 1)).1 = 3
    · rw [if_pos e2]
      have := hT.q (hT.w hk e1) e2
      show _ - _ - 2 ≤ 20
      omega
    · rw [if_neg e2]
      exact Nat.zero_le _
  · rw [if_neg e1]
    exact Nat.zero_le _
/-- what a silence that is told rightly comes to -/
theorem o1_sz (hT : TK_ K f1 f2 n sz so sa se) (hk : k < sz) (h : (o1_ (tb_ f2 n) m lo k).1 = true) : (o1_ (tb_ f2 n) m lo k).2.1 < sz ∧ (ti_ (tb_ f2 n) k).2.1 + 11 ≤ (ti_ (tb_ f2 n) (o1_ (tb_ f2 n) m lo k).2.1).2.1 := by
  obtain ⟨e1, e2, e3, e4, e5, e6, e7⟩ := o1_t h
  have k1 := hT.w hk e1
  have z1 := wh_sz (m := m) hT k1
  have z2 := on2_sz (i := 6) (lo := 0) (hi := 9) hT z1
  have z3 := on2_sz (i := 7) (lo := lo) (hi := 11) hT z2
  have z4 := be2_sz hT z3
  have a1 := wh_k e2
  have a2 := on2_k (T := tb_ f2 n) (i := 6) (lo := 0) (hi := 9) (k := (wh_ (tb_ f2 n) m (k + 1)).2.1)
  have a3 := on2_k (T := tb_ f2 n) (i := 7) (lo := lo) (hi := 11) (k := (on2_ (tb_ f2 n) 6 0 9 (wh_ (tb_ f2 n) m (k + 1)).2.1).2.1)
  have a4 := be2_k (T := tb_ f2 n) (k := (on2_ (tb_ f2 n) 7 lo 11 (on2_ (tb_ f2 n) 6 0 9 (wh_ (tb_ f2 n) m (k + 1)).2.1).2.1).2.1)
  have w3 := wh_w e2
  rw [e7]
  generalize (be2_ (tb_ f2 n) (on2_ (tb_ f2 n) 7 lo 11 (on2_ (tb_ f2 n) 6 0 9 (wh_ (tb_ f2 n) m (k + 1)).2.1).2.1).2.1).2.1 = k' at z4 a4 e6
  have b4 := (hT.b z4).2.2 (by rw [e6]; decide) (by rw [e6]; decide)
  have l7 : (ti_ (tb_ f2 n) k).2.2 - (ti_ (tb_ f2 n) k).2.1 = 7 := (of_decide_eq_true e1).2.1
  have t1 := tm_ hT 0 k k1
  have t2 := tm_ hT (k' - (k + 2)) (k + 1) (by omega)
  have t3 := tm_ hT 0 k' b4.1
  rw [show k + 1 + 1 + (k' - (k + 2)) = k' by omega] at t2
  rw [show k + 1 + 0 = k + 1 from rfl] at t1
  rw [show k' + 1 + 0 = k' + 1 from rfl] at t3
  exact ⟨b4.1, by omega⟩
theorem kj_sz (hT : TK_ K f1 f2 n sz so sa se) : ∀ j, (∀ i, i < j → (o1_ (tb_ f2 n) m lo (kj_ (tb_ f2 n) m lo i)).1 = true) → kj_ (tb_ f2 n) m lo j < sz ∧ 11 * j ≤ (ti_ (tb_ f2 n) (kj_ (tb_ f2 n) m lo j)).2.1 := by
  intro j
  induction j with
  | zero => intro _; exact ⟨hT.2.2.2.2.2.2.2.1.1, Nat.zero_le _⟩
  | succ j ih =>
    intro hj
    obtain ⟨a1, a2⟩ := ih (fun i hi => hj i (by omega))
    obtain ⟨b1, b2⟩ := o1_sz hT a1 (hj j (by omega))
    rw [kj_]
    exact ⟨b1, by omega⟩
set_option maxHeartbeats 8000000 in
theorem d_silence (hbl : bln ≤ 12) (hlo0 : bln = 0 → lo = 0) (hlo1 : 0 < bln → lo = nI (bln - 1)) (hln : lnn ≤ 40) (hsn : sn ≤ 12) (hT : TK_ K f1 f2 n sz so sa se) (h_this : oC M 143 12 (md_f (nI n) (nI bln) (nI lnn) dr al ru pv (nI sn) pa cm os gm tk pl bh va iw od)) (h_text : iA M 144 160 f2) (h166 : iA M 166 26 un) (h167 : iA M 167 26 kd) (h168 : iA M 168 26 wh) (h169 : iA M 169 26 fi) (h170 : lA M 170 26 ls) (h171 : iA M 171 26 rz) (h172 : iA M 172 520 rb)
    (hq : ∀ N2 un2 kd2 wh2 fi2 rz2 rb2 ls2 tk2 pl2 bh2 va2 iw2, SA_ M N2 (tb_ f2 n) f2 (nI lnn - 1) lo sn (pr_ (tb_ f2 n) (nI lnn - 1) lo 200 0).2.2 un kd wh fi rz rb ls un2 kd2 wh2 fi2 rz2 rb2 ls2 → ((pr_ (tb_ f2 n) (nI lnn - 1) lo 200 0).1 = false → oC N2 143 12 (md_f (nI 0) (nI bln) (nI lnn) dr al ru pv (nI sn) pa cm os gm tk2 pl2 bh2 va2 iw2 od) → Q (some (.int (-10 - nI (ti_ (tb_ f2 n) (pr_ (tb_ f2 n) (nI lnn - 1) lo 200 0).2.1).2.1))) N2) ∧ ((pr_ (tb_ f2 n) (nI lnn - 1) lo 200 0).1 = true → 12 < sn + (pr_ (tb_ f2 n) (nI lnn - 1) lo 200 0).2.2 → oC N2 143 12 (md_f (nI 0) (nI bln) (nI lnn) dr al ru pv (nI sn) pa cm os gm tk2 pl2 bh2 va2 iw2 od) → Q (some (.int (-4))) N2) ∧ ((pr_ (tb_ f2 n) (nI lnn - 1) lo 200 0).1 = true → sn + (pr_ (tb_ f2 n) (nI lnn - 1) lo 200 0).2.2 ≤ 12 → oC N2 143 12 (md_f (nI 0) (nI bln) (nI lnn) dr al ru pv (nI (sn + (pr_ (tb_ f2 n) (nI lnn - 1) lo 200 0).2.2)) pa cm os gm tk2 pl2 bh2 va2 iw2 od) → Q (some (.int (nI (sn + (pr_ (tb_ f2 n) (nI lnn - 1) lo 200 0).2.2)))) N2)) : ax_G g mt_Mod_silence (h + 6) 0 0 0 [.ref 143, .float 0, .float 0, .float 0] [] M Q := by
  have hn := hT.2.2.2.1
  generalize hm : nI lnn - 1 = m at hq
  -- the end, wrong
  have bad60 : ∀ (j kw : Nat) (N2 : ax_M) (un2 kd2 wh2 fi2 rz2 rb2 : Nat → Int32) (ls2 : Nat → Int64) (tk2 bh2 : Int32) (va2 : Int64) (z2 z3 : Value), z2.category = 1 → z3.category = 1 → pr_ (tb_ f2 n) m lo 200 0 = (false, kw, j) → SA_ M N2 (tb_ f2 n) f2 m lo sn j un kd wh fi rz rb ls un2 kd2 wh2 fi2 rz2 rb2 ls2 → oC N2 143 12 (md_f (nI n) (nI bln) (nI lnn) dr al ru pv (nI sn) pa cm os gm tk2 (nI (ti_ (tb_ f2 n) kw).2.1) bh2 va2 1 od) → ax_G g mt_Mod_silence (h + 6) 0 0 60 [.ref 143, .int (nI (sn + j)), z2, z3] [] N2 Q := by
    intro j kw N2 un2 kd2 wh2 fi2 rz2 rb2 ls2 tk2 bh2 va2 z2 z3 w2 w3 ep hS n143
    rw [ep] at hq
    refine s_inc1 _ 63 rfl rfl rfl rfl ?_
    refine s_aload_n 64 rfl rfl rfl ?_
    refine s_getfield 12 42 67 rfl rfl fl_Mod_250 n143 rfl ?_
    refine s_if_ne 81 70 rfl rfl (by decide) (fun c1 => ?_) (fun c1 => ?_)
    -- Mod_silence 70: branch 81 70
    · refine s_iconst 0 82 rfl rfl (by decide) ?_
      refine s_ist2 83 rfl rfl rfl ?_
      refine s_goto 21 rfl (by decide) ?_
      -- Mod_silence 21: end
      refine s_iload_n 22 rfl rfl rfl ?_
      refine s_if_eq 86 25 rfl rfl (by decide) (fun c2 => ?_) (fun c2 => ?_)
      -- Mod_silence 25: branch 86 25
      · refine s_bipush (-10) 88 rfl rfl (by decide) ?_
        refine s_aload_n 89 rfl rfl rfl ?_
        refine s_getfield 12 39 92 rfl rfl fl_Mod_232 n143 rfl ?_
        refine s_isub 93 rfl rfl ?_
        refine s_ist3 94 rfl rfl rfl ?_
        refine s_aload_n 95 rfl rfl rfl ?_
        refine s_iconst 0 96 rfl rfl (by decide) ?_
        refine s_putfield 12 1 (.int) 99 rfl rfl fp_Mod_138 n143 (Nat.le_of_ble_eq_true rfl) ⟨rfl, rfl⟩ (fun h => absurd h (by decide)) ?_
        -- Mod_silence 99: end
        refine s_aload_n 100 rfl rfl rfl ?_
        refine s_getfield 12 42 103 rfl rfl fl_Mod_250 rfl rfl ?_
        refine s_if_eq 108 106 rfl rfl (by decide) (fun c3 => ?_) (fun c3 => ?_)
        -- Mod_silence 106: branch 108 106
        · exact absurd c3 (by decide)
        · refine s_iload_n 107 rfl rfl rfl ?_
          -- Mod_silence 107: ireturn
          exact s_ireturn rfl .int rfl rfl ((hq _ _ _ _ _ _ _ _ _ _ _ _ _ hS.md).1 rfl rfl)
      · exact absurd rfl c2
    · exact absurd c1 (by decide)
  -- the end, right
  have good : ∀ (j : Nat) (N2 : ax_M) (un2 kd2 wh2 fi2 rz2 rb2 : Nat → Int32) (ls2 : Nat → Int64) (tk2 pl2 bh2 : Int32) (va2 : Int64) (z3 : Value), z3.category = 1 → sn + j < 65536 → pr_ (tb_ f2 n) m lo 200 0 = (true, 0, j) → SA_ M N2 (tb_ f2 n) f2 m lo sn j un kd wh fi rz rb ls un2 kd2 wh2 fi2 rz2 rb2 ls2 → oC N2 143 12 (md_f (nI n) (nI bln) (nI lnn) dr al ru pv (nI sn) pa cm os gm tk2 pl2 bh2 va2 0 od) → ax_G g mt_Mod_silence (h + 6) 0 0 21 [.ref 143, .int (nI (sn + j)), .int 0, z3] [] N2 Q := by
    intro j N2 un2 kd2 wh2 fi2 rz2 rb2 ls2 tk2 pl2 bh2 va2 z3 w3 hj ep hS n143
    rw [ep] at hq
    refine s_iload_n 22 rfl rfl rfl ?_
    refine s_if_eq 86 25 rfl rfl (by decide) (fun c1 => ?_) (fun c1 => ?_)
    -- Mod_silence 25: branch 86 25
    · refine s_bipush (-10) 88 rfl rfl (by decide) ?_
      refine s_aload_n 89 rfl rfl rfl ?_
      refine s_getfield 12 39 92 rfl rfl fl_Mod_232 n143 rfl ?_
      refine s_isub 93 rfl rfl ?_
      refine s_ist3 94 rfl rfl rfl ?_
      refine s_aload_n 95 rfl rfl rfl ?_
      refine s_iconst 0 96 rfl rfl (by decide) ?_
      refine s_putfield 12 1 (.int) 99 rfl rfl fp_Mod_138 n143 (Nat.le_of_ble_eq_true rfl) ⟨rfl, rfl⟩ (fun h => absurd h (by decide)) ?_
      -- Mod_silence 99: end
      refine s_aload_n 100 rfl rfl rfl ?_
      refine s_getfield 12 42 103 rfl rfl fl_Mod_250 rfl rfl ?_
      refine s_if_eq 108 106 rfl rfl (by decide) (fun c2 => ?_) (fun c2 => ?_)
      -- Mod_silence 106: branch 108 106
      · refine s_iload_n 109 rfl rfl rfl ?_
        refine s_bipush 12 111 rfl rfl (by decide) ?_
        refine s_icmp_le 117 114 rfl rfl (by decide) (fun c3 => ?_) (fun c3 => ?_)
        -- Mod_silence 114: branch 117 114
        · have c3 := nn_le (b := 12) c3
          refine s_aload_n 118 rfl rfl rfl ?_
          refine s_iload_n 119 rfl rfl rfl ?_
          refine s_putfield 12 30 (.int) 122 rfl rfl fp_Mod_166 rfl (Nat.le_of_ble_eq_true rfl) ⟨rfl, rfl⟩ (fun h => absurd h (by decide)) ?_
          refine s_aload_n 123 rfl rfl rfl ?_
          refine s_getfield 12 30 126 rfl rfl fl_Mod_166 rfl rfl ?_
          -- Mod_silence 126: ireturn
          exact s_ireturn rfl .int rfl rfl ((hq _ _ _ _ _ _ _ _ _ _ _ _ _ hS.md.md).2.2 rfl c3 rfl)
        · have c3 := nn_nle (b := 12) c3
          refine s_bipush (-4) 116 rfl rfl (by decide) ?_
          -- Mod_silence 116: ireturn
          exact s_ireturn rfl .int rfl rfl ((hq _ _ _ _ _ _ _ _ _ _ _ _ _ hS.md).2.1 rfl c3 rfl)
      · exact absurd rfl c2
    · exact absurd rfl c1
  have loop : ∀ (d j : Nat) (N : ax_M) (un2 kd2 wh2 fi2 rz2 rb2 : Nat → Int32) (ls2 : Nat → Int64) (tk2 pl2 bh2 : Int32) (va2 : Int64) (z3 : Value), z3.category = 1 → j + d = 200 → (∀ i, i < j → (o1_ (tb_ f2 n) m lo (kj_ (tb_ f2 n) m lo i)).1 = true) → SA_ M N (tb_ f2 n) f2 m lo sn j un kd wh fi rz rb ls un2 kd2 wh2 fi2 rz2 rb2 ls2 → oC N 143 12 (md_f (nI n) (nI bln) (nI lnn) dr al ru pv (nI sn) pa cm os gm tk2 pl2 bh2 va2 0 od) → ST_ (tb_ f2 n) (kj_ (tb_ f2 n) m lo j) tk2 pl2 bh2 va2 → pr_ (tb_ f2 n) m lo d j = pr_ (tb_ f2 n) m lo 200 0 → ax_G g mt_Mod_silence (h + 6) 0 0 21 [.ref 143, .int (nI (sn + j)), .int 1, z3] [] N Q := by
    intro d
    induction d with
    | zero =>
      intro j N un2 kd2 wh2 fi2 rz2 rb2 ls2 tk2 pl2 bh2 va2 z3 w3 hj hall
      obtain ⟨p1, p2⟩ := kj_sz hT j hall
      have := (hT.b p1).2.1
      omega
    | succ d ih =>
      intro j N un2 kd2 wh2 fi2 rz2 rb2 ls2 tk2 pl2 bh2 va2 z3 w3 hj hall hS n143 hs ep
      obtain ⟨p1, p2⟩ := kj_sz hT j hall
      have n144 : iA N 144 160 f2 := (hS.1 144 (by omega)).trans h_text
      rw [pr_] at ep
      refine s_iload_n 22 rfl rfl rfl ?_
      refine s_if_eq 86 25 rfl rfl (by decide) (fun c1 => ?_) (fun c1 => ?_)
      -- Mod_silence 25: branch 86 25
      · exact absurd c1 (by decide)
      · refine s_aload_n 26 rfl rfl rfl ?_
        refine s_aload_n 27 rfl rfl rfl ?_
        refine s_ldc2_w 20715845733 30 rfl rfl kl_Mod_285 ?_
        refine c_callV1 (h+5) 33 rfl rfl mv_Mod_263 (by omega) (Nat.le_of_ble_eq_true rfl) (Nat.le_of_ble_eq_true rfl) n143 rfl rfl ?_
        -- Mod_silence 33: call Mod_isWord
        refine d_isWord (h := h + 5) (i := 0) rfl (by decide) hT p1 hs n143 ?_
        dsimp only [ax_rs]
        cases e0 : iw_ (tb_ f2 n) (ti_ (tb_ f2 n) (kj_ (tb_ f2 n) m lo j)) 0 with
        | false =>
          obtain ⟨y1, y2⟩ := o1_n1 (m := m) (lo := lo) e0
          rw [if_neg (by rw [y1]; decide), y2] at ep
          have p2 := hs.2.1
          subst p2
          rw [if_neg (by decide)]
          refine c_callV1 (h+5) 36 rfl rfl mv_Mod_257 (by omega) (Nat.le_of_ble_eq_true rfl) (Nat.le_of_ble_eq_true rfl) n143 rfl rfl ?_
          -- Mod_silence 36: call Mod_want
          refine d_wantF n143 ?_
          dsimp only [ax_rs]
          refine s_aload_n 37 rfl rfl rfl ?_
          refine s_getfield 12 42 40 rfl rfl fl_Mod_250 rfl rfl ?_
          refine s_if_ne 48 43 rfl rfl (by decide) (fun c2 => ?_) (fun c2 => ?_)
          -- Mod_silence 43: branch 48 43
          · refine s_aload_n 49 rfl rfl rfl ?_
            refine s_getfield 12 42 52 rfl rfl fl_Mod_250 rfl rfl ?_
            refine s_if_ne 60 55 rfl rfl (by decide) (fun c3 => ?_) (fun c3 => ?_)
            -- Mod_silence 55: branch 60 55
            · exact bad60 j _ _ _ _ _ _ _ _ _ _ _ _ _ _ rfl w3 ep.symm hS.md rfl
            · exact absurd c3 (by decide)
          · exact absurd c2 (by decide)
        | true =>
          have k1 := hT.w p1 e0
          have l7 : (ti_ (tb_ f2 n) (kj_ (tb_ f2 n) m lo j)).2.2 - (ti_ (tb_ f2 n) (kj_ (tb_ f2 n) m lo j)).2.1 = 7 := (of_decide_eq_true e0).2.1
          have b7 := ((hT.b p1).2.2 (by rw [iw_1 e0]; decide) (by rw [iw_1 e0]; decide)).2.2
          have hkk : sn + j < 26 := by omega
          rw [if_pos rfl]
          refine c_callV1 (h+5) 36 rfl rfl mv_Mod_257 (by omega) (Nat.le_of_ble_eq_true rfl) (Nat.le_of_ble_eq_true rfl) n143 rfl rfl ?_
          -- Mod_silence 36: call Mod_want
          refine d_wantT (h := h + 2) hT p1 (by rw [iw_1 e0]; decide) (by rw [iw_1 e0]; decide) hs n143 n144 (fun tk3 pl3 bh3 va3 s3 => ?_)
          dsimp only [ax_rs]
          refine s_aload_n 37 rfl rfl rfl ?_
          refine s_getfield 12 42 40 rfl rfl fl_Mod_250 rfl rfl ?_
          refine s_if_ne 48 43 rfl rfl (by decide) (fun c4 => ?_) (fun c4 => ?_)
          -- Mod_silence 43: branch 48 43
          · exact absurd rfl c4
          · refine s_aload_n 44 rfl rfl rfl ?_
            refine s_iload_n 45 rfl rfl rfl ?_
            refine c_callV1 (h+5) 48 rfl rfl mv_Mod_287 (by omega) (Nat.le_of_ble_eq_true rfl) (Nat.le_of_ble_eq_true rfl) rfl rfl rfl ?_
            -- Mod_silence 48: call Mod_readWhere
            obtain ⟨a1, a2, a3, a4, a5, a6, a7, a8, -⟩ := id hS
            refine d_readWhere (h := h) (kk := sn + j) hln hkk hT k1 s3 rfl n144 a4 a5 a6 (fun e N2 wh3 fi3 ls3 tk4 bh4 va4 w o => ?_) (fun e N2 wh3 fi3 ls3 tk4 pl4 bh4 va4 w o s4 v1 v2 v3 => ?_)
            · rw [hm] at e o
              obtain ⟨y1, y2⟩ := o1_n2 (lo := lo) e0 e
              rw [if_neg (by rw [y1]; decide), y2] at ep
              dsimp only [ax_rs]
              refine s_aload_n 49 rfl rfl rfl ?_
              refine s_getfield 12 42 52 rfl rfl fl_Mod_250 o rfl ?_
              refine s_if_ne 60 55 rfl rfl (by decide) (fun c5 => ?_) (fun c5 => ?_)
              -- Mod_silence 55: branch 60 55
              · exact bad60 j _ _ _ _ _ _ _ _ _ _ _ _ _ _ rfl w3 ep.symm (hS.md.w w) o
              · exact absurd c5 (by decide)
            · rw [hm] at e s4 v1 v2 v3
              have k2 := wh_sz (m := m) hT k1
              have hS2 := hS.md.w w
              obtain ⟨a1, a2, a3, a4, a5, a6, a7, a8, -⟩ := id hS2
              have m144 : iA N2 144 160 f2 := (hS2.1 144 (by omega)).trans h_text
              dsimp only [ax_rs]
              refine s_aload_n 49 rfl rfl rfl ?_
              refine s_getfield 12 42 52 rfl rfl fl_Mod_250 o rfl ?_
              refine s_if_ne 60 55 rfl rfl (by decide) (fun c6 => ?_) (fun c6 => ?_)
              -- Mod_silence 55: branch 60 55
              · exact absurd rfl c6
              · refine s_aload_n 56 rfl rfl rfl ?_
                refine s_iload_n 57 rfl rfl rfl ?_
                refine c_callV1 (h+5) 60 rfl rfl mv_Mod_290 (by omega) (Nat.le_of_ble_eq_true rfl) (Nat.le_of_ble_eq_true rfl) o rfl rfl ?_
                -- Mod_silence 60: call Mod_readRest
                refine d_readRest (h := h) (kk := sn + j) (lo := lo) hbl hlo0 hlo1 hkk hT k2 s4 o m144 a2 a3 a7 a8 (fun kw e2 N3 un4 kd4 rz4 rb4 tk5 bh5 va5 r o5 => ?_) (fun e2 e3 e4 e5 N3 un4 kd4 rz4 rb4 tk5 pl5 bh5 va5 r o5 s5 v4 v5 v6 v7 => ?_)
                · obtain ⟨y1, y2⟩ := o1_n3 e0 e e2
                  rw [if_neg (by rw [y1]; decide), y2] at ep
                  dsimp only [ax_rs]
                  exact bad60 j _ _ _ _ _ _ _ _ _ _ _ _ _ _ rfl w3 ep.symm (hS2.r r) o5
                · have y := o1_y e0 e e2 e3 e4 e5
                  have k3 := on2_sz (i := 6) (lo := 0) (hi := 9) hT k2
                  have k4 := on2_sz (i := 7) (lo := lo) (hi := 11) hT k3
                  have r20 := be2_20 hT k4
                  have hS3 := (hS2.r r).s2 y v4 v5 v1 v2 v3 v6 r20 v7
                  obtain ⟨ek, yt⟩ := kj_s y
                  rw [if_pos yt] at ep
                  rw [← ek] at s5
                  clear y ek v1 v2 v3 v4 v5 v6 v7 r20 e2 e3 e4 e5 k3 k4
                  have t5 := ti_5 (tb_ f2 n) (kj_ (tb_ f2 n) m lo (j + 1))
                  have tks := s5.1
                  dsimp only [ax_rs]
                  refine s_inc1 _ 63 rfl rfl rfl rfl ?_
                  refine s_aload_n 64 rfl rfl rfl ?_
                  refine s_getfield 12 42 67 rfl rfl fl_Mod_250 o5 rfl ?_
                  refine s_if_ne 81 70 rfl rfl (by decide) (fun c7 => ?_) (fun c7 => ?_)
                  -- Mod_silence 70: branch 81 70
                  · exact absurd rfl c7
                  · refine s_aload_n 71 rfl rfl rfl ?_
                    refine s_getfield 12 38 74 rfl rfl fl_Mod_239 o5 rfl ?_
                    refine s_if_eq 81 77 rfl rfl (by decide) (fun c8 => ?_) (fun c8 => ?_)
                    -- Mod_silence 77: branch 81 77
                    · have c8 : (ti_ (tb_ f2 n) (kj_ (tb_ f2 n) m lo (j + 1))).1 = 0 := nn_eq (b := 0) (by rw [← tks]; exact c8)
                      rw [if_pos c8] at ep
                      refine s_iconst 0 82 rfl rfl (by decide) ?_
                      refine s_ist2 83 rfl rfl rfl ?_
                      refine s_goto 21 rfl (by decide) ?_
                      -- Mod_silence 21: end
                      rw [inc1, show sn + j + 1 = sn + (j + 1) by omega]
                      exact good (j + 1) _ _ _ _ _ _ _ _ _ _ _ _ _ w3 (by omega) ep.symm hS3 o5
                    · have c8 : ¬ (ti_ (tb_ f2 n) (kj_ (tb_ f2 n) m lo (j + 1))).1 = 0 := fun w => c8 (by rw [tks, w]; rfl)
                      rw [if_neg c8] at ep
                      refine s_iconst 1 78 rfl rfl (by decide) ?_
                      refine s_goto 82 rfl (by decide) ?_
                      refine s_ist2 83 rfl rfl rfl ?_
                      refine s_goto 21 rfl (by decide) ?_
                      -- Mod_silence 21: end
                      rw [inc1, show sn + j + 1 = sn + (j + 1) by omega]
                      refine ih (j + 1) _ _ _ _ _ _ _ _ _ _ _ _ _ w3 (by omega) (fun i hi => ?_) hS3 o5 s5 ep
                      by_cases q : i = j
                      · subst q; exact yt
                      · exact hall i (by omega)
  refine s_aload_n 1 rfl rfl rfl ?_
  refine s_iconst 0 2 rfl rfl (by decide) ?_
  refine s_putfield 12 40 (.int) 5 rfl rfl fp_Mod_225 h_this (Nat.le_of_ble_eq_true rfl) ⟨rfl, rfl⟩ (fun h => absurd h (by decide)) ?_
  refine s_aload_n 6 rfl rfl rfl ?_
  refine s_iconst 0 7 rfl rfl (by decide) ?_
  refine s_putfield 12 42 (.boolean) 10 rfl rfl fp_Mod_250 rfl (Nat.le_of_ble_eq_true rfl) ⟨rfl, rfl⟩ (fun h => absurd h (by decide)) ?_
  refine s_aload_n 11 rfl rfl rfl ?_
  refine s_getfield 12 30 14 rfl rfl fl_Mod_166 rfl rfl ?_
  refine s_ist1 15 rfl rfl rfl ?_
  -- Mod_silence 15: end
  rw [ax_pp]
  show ax_G g mt_Mod_silence (h + 6) 0 0 15 [.ref 143, .int (nI sn), .float 0, .float 0] [] (md_m M (nI n) (nI bln) (nI lnn) dr al ru pv (nI sn) pa cm os gm tk pl (nI 0) va 0 od) Q
  refine s_aload_n 16 rfl rfl rfl ?_
  refine c_callV0 (h+5) 19 rfl rfl mv_Mod_254 (by omega) (Nat.le_of_ble_eq_true rfl) (Nat.le_of_ble_eq_true rfl) rfl rfl rfl ?_
  -- Mod_silence 19: call Mod_next
  refine m_Mod_next (h := h + 3) (p := 0) rfl h_text hn (Nat.zero_le n) (by_f hT.2.2.1) (fun bh2 va2 e1 e2 e3 => ?_)
  dsimp only [ax_rs]
  refine s_iconst 1 20 rfl rfl (by decide) ?_
  refine s_ist2 21 rfl rfl rfl ?_
  -- Mod_silence 21: end
  refine loop 200 0 _ un kd wh fi rz rb ls _ _ bh2 va2 _ rfl rfl (fun i hi => absurd hi (Nat.not_lt_zero i)) ⟨(fr_.r.put (by omega)).put (by omega), h166, h167, h168, h169, h170, h171, h172, fun s hs => ⟨rfl, rfl, rfl, rfl, rfl, rfl⟩, fun i hi => rfl, fun s h1 h2 => by omega⟩ rfl ⟨rfl, rfl, e1, e2, e3⟩ rfl
end MSIL
