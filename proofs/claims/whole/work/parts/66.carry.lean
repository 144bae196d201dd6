/-! match, carry, keepTrends: the class -/
def mb_ (M : ax_M) (b l nb nl : Nat) (nf mo df ml : Nat → Int32) : Prop := oC M b 2 (li_f b nb) ∧ iA M (b + 1) 40 nf ∧ iA M (b + 2) 40 mo ∧ oC M l 2 (li_f l nl) ∧ iA M (l + 1) 40 df ∧ iA M (l + 2) 40 ml ∧ 79 ≤ b ∧ 79 ≤ l ∧ (b + 3 < l ∨ l + 3 < b) ∧ nb ≤ 40 ∧ nl ≤ 40
theorem mb_.mv {M N : ax_M} {b l nb nl : Nat} {nf mo df ml : Nat → Int32} (h : mb_ M b l nb nl nf mo df ml) (e : fr_ M N (fun k => (5 ≤ k ∧ k ≤ 8) ∨ k = l + 3)) : mb_ N b l nb nl nf mo df ml := by
  obtain ⟨h1, h2, h3, h4, h5, h6, h7, h8, h9, h10, h11⟩ := h
  exact ⟨(e _ (by omega)).trans h1, (e _ (by omega)).trans h2, (e _ (by omega)).trans h3, (e _ (by omega)).trans h4, (e _ (by omega)).trans h5, (e _ (by omega)).trans h6, h7, h8, h9, h10, h11⟩
section CAR
variable {g : ax_Y} {M : ax_M} {Q : Option Value → ax_M → Prop} {h : Nat}
theorem m_Matching_match {b l nb nl : Nat} {nf mo df ml be e6 e7 e8 : Nat → Int32} {o0 n0 : Int32} {fo fn : Nat → Nat} (hB : mb_ M b l nb nl nf mo df ml) (h5 : oC M 5 4 [.ref 6, .ref 7, .ref 8, .int o0, .int n0]) (h6 : iA M 6 40 e6) (h7 : iA M 7 40 e7) (h8 : iA M 8 1681 e8) (hl : iA M (l + 3) 40 be) (hbe : rp_ be (fun _ => none) nl) (ho : ∀ i, i < nb → nf i = nI (fo i) ∧ fo i < 6) (hn : ∀ j, j < nl → df j = nI (fn j) ∧ fn j < 6) (hq : ∀ (N : ax_M) (o1 n1 : Int32) (e6 e7 e8 be : Nat → Int32), fr_ M N (fun k => (5 ≤ k ∧ k ≤ 8) ∨ k = l + 3) → oC N 5 4 [.ref 6, .ref 7, .ref 8, .int o1, .int n1] → iA N 6 40 e6 → iA N 7 40 e7 → iA N 8 1681 e8 → iA N (l + 3) 40 be → rp_ be (mt_ fo fn (fun i j => decide (mo i = ml j)) nb nl 6).1 nl → Q none N) : ax_G g mt_Matching_match (h + 2) 0 0 0 [.ref 5, .ref b, .ref l, .float 0] [] M Q := by
  have z7 := hB.2.2.2.2.2.2.1
  have z8 := hB.2.2.2.2.2.2.2.1
  have z9 := hB.2.2.2.2.2.2.2.2.1
  have z10 := hB.2.2.2.2.2.2.2.2.2.1
  have z11 := hB.2.2.2.2.2.2.2.2.2.2
  refine s_iconst 0 1 rfl rfl (by decide) ?_
  refine s_ist3 2 rfl rfl rfl ?_
  -- Matching_match 2: end
  have loop : ∀ (d f : Nat) (N : ax_M) (o1 n1 : Int32) (e6 e7 e8 be : Nat → Int32), f + d = 6 → fr_ M N (fun k => (5 ≤ k ∧ k ≤ 8) ∨ k = l + 3) → oC N 5 4 [.ref 6, .ref 7, .ref 8, .int o1, .int n1] → iA N 6 40 e6 → iA N 7 40 e7 → iA N 8 1681 e8 → iA N (l + 3) 40 be → rp_ be (mt_ fo fn (fun i j => decide (mo i = ml j)) nb nl f).1 nl → ax_G g mt_Matching_match (h + 2) 0 0 2 [.ref 5, .ref b, .ref l, .int (nI f)] [] N Q := by
    intro d
    induction d with
    | zero =>
      intro f N o1 n1 e6 e7 e8 be hf hN q5 q6 q7 q8 q9 q10
      obtain rfl : f = 6 := by omega
      refine s_iload_n 3 rfl rfl rfl ?_
      refine s_bipush 6 5 rfl rfl (by decide) ?_
      refine s_icmp_ge 52 8 rfl rfl (by decide) (fun c1 => ?_) (fun c1 => ?_)
      -- Matching_match 8: branch 52 8
      · exact s_return rfl rfl (hq N o1 n1 e6 e7 e8 be hN q5 q6 q7 q8 q9 q10)
      · exact absurd (by decide) c1
    | succ d ih =>
      intro f N o1 n1 e6 e7 e8 be hf hN q5 q6 q7 q8 q9 q10
      have hBN := hB.mv hN
      obtain ⟨k1, k2, k3, k4, k5, k6, -⟩ := hBN
      have po : ∀ i, i < nb → (nf i = nI f ↔ decide (fo i = f) = true) := by
        intro i hi
        obtain ⟨w1, w2⟩ := ho i hi
        rw [w1, decide_eq_true_eq]
        exact ⟨fun q => nn_eq q, fun q => by rw [q]⟩
      have pn : ∀ j, j < nl → (df j = nI f ↔ decide (fn j = f) = true) := by
        intro j hj
        obtain ⟨w1, w2⟩ := hn j hj
        rw [w1, decide_eq_true_eq]
        exact ⟨fun q => nn_eq q, fun q => by rw [q]⟩
      refine s_iload_n 3 rfl rfl rfl ?_
      refine s_bipush 6 5 rfl rfl (by decide) ?_
      refine s_icmp_ge 52 8 rfl rfl (by decide) (fun c2 => ?_) (fun c2 => ?_)
      -- Matching_match 8: branch 52 8
      · exact absurd (nn_le (a := 6) c2) (by omega)
      · refine s_aload_n 9 rfl rfl rfl ?_
        refine s_aload_n 10 rfl rfl rfl ?_
        refine s_iload_n 11 rfl rfl rfl ?_
        refine s_aload_n 12 rfl rfl rfl ?_
        refine s_getfield 4 0 15 rfl rfl fl_Matching_9 q5 rfl ?_
        refine c_callS3 (h+1) 18 rfl rfl mv_Matching_21 (by omega) (Nat.le_of_ble_eq_true rfl) (Nat.le_of_ble_eq_true rfl) ?_
        -- Matching_match 18: call Matching_collect
        refine m_Matching_collect k1 k2 q6 (by omega) z10 po (fun x6 hx6 => ?_)
        dsimp only [ax_rs]
        refine s_putfield 4 3 (.int) 21 rfl rfl fp_Matching_25 q5 (Nat.le_of_ble_eq_true rfl) ⟨rfl, rfl⟩ (fun h => absurd h (by decide)) ?_
        refine s_aload_n 22 rfl rfl rfl ?_
        refine s_aload_n 23 rfl rfl rfl ?_
        refine s_iload_n 24 rfl rfl rfl ?_
        refine s_aload_n 25 rfl rfl rfl ?_
        refine s_getfield 4 1 28 rfl rfl fl_Matching_15 rfl rfl ?_
        refine c_callS3 (h+1) 31 rfl rfl mv_Matching_21 (by omega) (Nat.le_of_ble_eq_true rfl) (Nat.le_of_ble_eq_true rfl) ?_
        -- Matching_match 31: call Matching_collect
        have f1 : fr_ N (ax_put (iP N 6 40 x6) 5 (.inr (4, ma_f (cnt (fun i => decide (fo i = f)) nb) 0))) (fun k => (5 ≤ k ∧ k ≤ 8) ∨ k = l + 3) := (fr_.r.put (by omega)).put (by omega)
        refine m_Matching_collect (a := l) (ff := df) (e := e7) (n := nl) (f := f) (p := fun j => decide (fn j = f)) (ax_ne (by omega) (ax_ne (by omega) k4)) (ax_ne (by omega) (ax_ne (by omega) k5)) q7 (by omega) z11 pn (fun x7 hx7 => ?_)
        dsimp only [ax_rs]
        refine s_putfield 4 4 (.int) 34 rfl rfl fp_Matching_29 rfl (Nat.le_of_ble_eq_true rfl) ⟨rfl, rfl⟩ (fun h => absurd h (by decide)) ?_
        refine s_aload_n 35 rfl rfl rfl ?_
        refine s_aload_n 36 rfl rfl rfl ?_
        refine s_aload_n 37 rfl rfl rfl ?_
        refine c_callV2 (h+1) 40 rfl rfl mv_Matching_32 (by omega) (Nat.le_of_ble_eq_true rfl) (Nat.le_of_ble_eq_true rfl) rfl rfl rfl ?_
        -- Matching_match 40: call Matching_fillMost
        generalize hO : cnt (fun i => decide (fo i = f)) nb = O at hx6
        generalize hNN : cnt (fun j => decide (fn j = f)) nl = NN at hx7
        have cO := cnt_le (fun i => decide (fo i = f)) nb
        have cN := cnt_le (fun j => decide (fn j = f)) nl
        have s1 : ∀ p, p < O → x6 p = nI (sel_ (fun i => decide (fo i = f)) nb p) ∧ sel_ (fun i => decide (fo i = f)) nb p < 40 := fun p hp => ⟨hx6 p (by omega), by have := (sel_in (p := fun i => decide (fo i = f)) (n := nb) (k := p) (by omega)).1; omega⟩
        have s2 : ∀ q, q < NN → x7 q = nI (sel_ (fun j => decide (fn j = f)) nl q) ∧ sel_ (fun j => decide (fn j = f)) nl q < 40 := fun q hq => ⟨hx7 q (by omega), by have := (sel_in (p := fun j => decide (fn j = f)) (n := nl) (k := q) (by omega)).1; omega⟩
        refine m_Matching_fillMost (h := h) (O := O) (N := NN) (ol := sel_ (fun i => decide (fo i = f)) nb) (ne := sel_ (fun j => decide (fn j = f)) nl) (b := b) (l := l) (nb := nb) (nl := nl) (mo := mo) (ml := ml) (eo := x6) (en := x7) rfl (ax_ne (by omega) (ax_ne (by omega) (ax_ne (by omega) (ax_ne (by omega) k1)))) (ax_ne (by omega) (ax_ne (by omega) (ax_ne (by omega) (ax_ne (by omega) k4)))) (ax_ne (by omega) (ax_ne (by omega) (ax_ne (by omega) (ax_ne (by omega) k3)))) (ax_ne (by omega) (ax_ne (by omega) (ax_ne (by omega) (ax_ne (by omega) k6)))) rfl rfl q8 (by omega) (by omega) (by omega) (by omega) s1 s2 (fun m hm => ?_)
        dsimp only [ax_rs]
        refine s_aload_n 41 rfl rfl rfl ?_
        refine s_aload_n 42 rfl rfl rfl ?_
        refine s_aload_n 43 rfl rfl rfl ?_
        refine c_callV2 (h+1) 46 rfl rfl mv_Matching_36 (by omega) (Nat.le_of_ble_eq_true rfl) (Nat.le_of_ble_eq_true rfl) rfl rfl rfl ?_
        -- Matching_match 46: call Matching_pair
        refine m_Matching_pair (h := h) (O := O) (N := NN) (ol := sel_ (fun i => decide (fo i = f)) nb) (ne := sel_ (fun j => decide (fn j = f)) nl) (b := b) (l := l) (nb := nb) (nl := nl) (mo := mo) (ml := ml) (eo := x6) (en := x7) (be := be) (m := m) (bf := (mt_ fo fn (fun i j => decide (mo i = ml j)) nb nl f).1) (wt := (mt_ fo fn (fun i j => decide (mo i = ml j)) nb nl f).2) (d0 := nb + nl) rfl (ax_ne (by omega) (ax_ne (by omega) (ax_ne (by omega) (ax_ne (by omega) (ax_ne (by omega) k1))))) (ax_ne (by omega) (ax_ne (by omega) (ax_ne (by omega) (ax_ne (by omega) (ax_ne (by omega) k4))))) (ax_ne (by omega) (ax_ne (by omega) (ax_ne (by omega) (ax_ne (by omega) (ax_ne (by omega) k3))))) (ax_ne (by omega) (ax_ne (by omega) (ax_ne (by omega) (ax_ne (by omega) (ax_ne (by omega) k6))))) (ax_ne (by omega) (ax_ne (by omega) (ax_ne (by omega) (ax_ne (by omega) (ax_ne (by omega) q9))))) rfl rfl rfl (by omega) (by omega) (by omega) (by omega) (by omega) (by omega) s1 s2 hm q10 (by omega) (fun be' hbe' => ?_)
        dsimp only [ax_rs]
        refine s_inc3 _ 49 rfl rfl rfl rfl ?_
        refine s_goto 2 rfl (by decide) ?_
        -- Matching_match 2: end
        rw [inc1]
        refine ih (f + 1) _ _ _ x6 x7 m be' (by omega) (hN.t ((((((fr_.r.put (by omega)).put (by omega)).put (by omega)).put (by omega)).put (by omega)).put (by omega))) (ax_ne (by omega) rfl) (ax_ne (by omega) rfl) (ax_ne (by omega) rfl) (ax_ne (by omega) rfl) ax_eq ?_
        rw [mt_, hO, hNN]
        exact hbe'
  exact loop 6 0 M o0 n0 e6 e7 e8 be (by omega) fr_.r h5 h6 h7 h8 hl hbe
theorem oI_j {x : Option Nat} {k : Nat} (hx : ∀ i, x = some i → i < 65536) (hk : k < 65536) (e : oI x = nI k) : x = some k := by
  cases x with
  | none => exact absurd e.symm (nn_m1 (by omega))
  | some i =>
    have := hx i rfl
    have e : nI i = nI k := e
    rw [nn_eq e]
theorem lo_w {ln nl : Nat} {bf wt : Nat → Option Nat} {be : Nat → Int32} (hJ : J_ ln nl bf wt) (hr : rp_ be bf nl) (hl : ln ≤ 40) {x : Nat} (hx : x < ln) {r : Int32} (h : (∃ i, i < nl ∧ be i = nI x ∧ (∀ j, j < i → be j ≠ nI x) ∧ r = nI i) ∨ ((∀ j, j < nl → be j ≠ nI x) ∧ r = -1)) : r = oI (wt x) := by
  rcases h with ⟨i, h1, h2, -, h3⟩ | ⟨h1, h2⟩
  · have e := (hr i h1).symm.trans h2
    have e2 := oI_j (fun k hk => by have := (hJ.1 i h1 k hk).1; omega) (by omega) e
    rw [h3, (hJ.1 i h1 x e2).2]
    rfl
  · cases e : wt x with
    | none => exact h2
    | some j =>
      obtain ⟨a1, a2⟩ := hJ.2 x hx j e
      have := hr j a1
      rw [a2] at this
      exact absurd this (h1 j a1)
/-- where an alarm goes -/
def cl_ (st li : Nat → Int32) (wt : Nat → Option Nat) (a : Nat) : Int32 := if st a = 0 then oI (wt (li a).toNatClampNeg) else -1
theorem upd_s (f : Nat → Int32) (i : Nat) (v : Int32) : upd f i v i = v := by
  unfold upd
  rw [if_pos rfl]
theorem m_Alarms_carry {l ln nl al : Nat} {li st be : Nat → Int32} {bf wt : Nat → Option Nat} (h_this : oC M 9 0 (al_f al)) (h_line : iA M 10 50 li) (h_state : iA M 15 50 st) (h_later : oC M l 2 (li_f l nl)) (h_before : iA M (l + 3) 40 be) (hl : 79 ≤ l) (hal : al ≤ 50) (hnl : nl ≤ 40) (hln : ln ≤ 40) (hJ : J_ ln nl bf wt) (hr : rp_ be bf nl) (ht : ∀ a, a < al → st a = 0 → ∃ c, c < ln ∧ li a = nI c) (hq : ∀ l2 s2, (∀ a, a < al → l2 a = cl_ st li wt a ∧ s2 a = if cl_ st li wt a = -1 then 2 else 1) → Q none (iP (iP M 10 50 l2) 15 50 s2)) : ax_G g mt_Alarms_carry (h + 1) 0 0 0 [.ref 9, .ref l, .float 0] [] M Q := by
  refine s_iconst 0 1 rfl rfl (by decide) ?_
  refine s_ist2 2 rfl rfl rfl ?_
  -- Alarms_carry 2: end
  have loop : ∀ (d i : Nat) (l2 s2 : Nat → Int32), i + d = al → (∀ a, a < i → l2 a = cl_ st li wt a ∧ s2 a = if cl_ st li wt a = -1 then 2 else 1) → (∀ a, i ≤ a → l2 a = li a ∧ s2 a = st a) → ax_G g mt_Alarms_carry (h + 1) 0 0 2 [.ref 9, .ref l, .int (nI i)] [] (iP (iP M 10 50 l2) 15 50 s2) Q := by
    intro d
    induction d with
    | zero =>
      intro i l2 s2 hi h1 h2
      obtain rfl : i = al := by omega
      refine s_iload_n 3 rfl rfl rfl ?_
      refine s_aload_n 4 rfl rfl rfl ?_
      refine s_getfield 0 6 7 rfl rfl fl_Alarms_30 h_this rfl ?_
      refine s_icmp_ge 66 10 rfl rfl (by decide) (fun c1 => ?_) (fun c1 => ?_)
      -- Alarms_carry 10: branch 66 10
      · exact s_return rfl rfl (hq l2 s2 h1)
      · exact absurd (nn_nle c1) (by omega)
    | succ d ih =>
      intro i l2 s2 hi h1 h2
      obtain ⟨e1, e2⟩ := h2 i (Nat.le_refl i)
      have put : ∀ v : Int32, v = cl_ st li wt i → ax_G g mt_Alarms_carry (h + 1) 0 0 38 [.ref 9, .ref l, .int (nI i)] [.int v, .int (nI i), .ref 10] (iP (iP M 10 50 l2) 15 50 s2) Q := by
        intro v hv
        have nx : ∀ w : Int32, w = (if cl_ st li wt i = -1 then 2 else 1) → ax_G g mt_Alarms_carry (h + 1) 0 0 2 [.ref 9, .ref l, .int (nI (i + 1))] [] (iP (iP M 10 50 (upd l2 i v)) 15 50 (upd s2 i w)) Q := by
          intro w hw
          refine ih (i + 1) _ _ (by omega) (fun a ha => ?_) (fun a ha => ?_)
          · unfold upd
            by_cases z : a = i
            · subst z
              rw [if_pos rfl, if_pos rfl]
              exact ⟨hv, hw⟩
            · rw [if_neg z, if_neg z]
              exact h1 a (by omega)
          · unfold upd
            rw [if_neg (by omega), if_neg (by omega)]
            exact h2 a (by omega)
        refine s_iastore (i) 39 rfl rfl rfl rfl (by omega) (by decide) ?_
        refine s_aload_n 40 rfl rfl rfl ?_
        refine s_getfield 0 5 43 rfl rfl fl_Alarms_27 h_this rfl ?_
        refine s_iload_n 44 rfl rfl rfl ?_
        refine s_aload_n 45 rfl rfl rfl ?_
        refine s_getfield 0 0 48 rfl rfl fl_Alarms_9 h_this rfl ?_
        refine s_iload_n 49 rfl rfl rfl ?_
        refine s_iaload (i) 50 rfl rfl rfl rfl (by omega) (by decide) ?_
        -- Alarms_carry 50: end
        rw [upd_s]
        refine s_iconst (-1) 51 rfl rfl (by decide) ?_
        refine s_icmp_ne 58 54 rfl rfl (by decide) (fun c2 => ?_) (fun c2 => ?_)
        -- Alarms_carry 54: branch 58 54
        · refine s_iconst 1 59 rfl rfl (by decide) ?_
          refine s_iastore (i) 60 rfl rfl rfl rfl (by omega) (by decide) ?_
          refine s_inc2 _ 63 rfl rfl rfl rfl ?_
          refine s_goto 2 rfl (by decide) ?_
          -- Alarms_carry 2: end
          unfold iP at nx ⊢
          rw [ax_p4, inc1]
          exact nx 1 (by rw [if_neg (by rw [← hv]; exact c2)])
        · refine s_iconst 2 55 rfl rfl (by decide) ?_
          refine s_goto 59 rfl (by decide) ?_
          refine s_iastore (i) 60 rfl rfl rfl rfl (by omega) (by decide) ?_
          refine s_inc2 _ 63 rfl rfl rfl rfl ?_
          refine s_goto 2 rfl (by decide) ?_
          -- Alarms_carry 2: end
          unfold iP at nx ⊢
          rw [ax_p4, inc1]
          exact nx 2 (by rw [if_pos (by rw [← hv]; exact c2)])
      refine s_iload_n 3 rfl rfl rfl ?_
      refine s_aload_n 4 rfl rfl rfl ?_
      refine s_getfield 0 6 7 rfl rfl fl_Alarms_30 h_this rfl ?_
      refine s_icmp_ge 66 10 rfl rfl (by decide) (fun c3 => ?_) (fun c3 => ?_)
      -- Alarms_carry 10: branch 66 10
      · exact absurd (nn_le c3) (by omega)
      · refine s_aload_n 11 rfl rfl rfl ?_
        refine s_getfield 0 0 14 rfl rfl fl_Alarms_9 h_this rfl ?_
        refine s_iload_n 15 rfl rfl rfl ?_
        refine s_aload_n 16 rfl rfl rfl ?_
        refine s_getfield 0 5 19 rfl rfl fl_Alarms_27 h_this rfl ?_
        refine s_iload_n 20 rfl rfl rfl ?_
        refine s_iaload (i) 21 rfl rfl rfl rfl (by omega) (by decide) ?_
        -- Alarms_carry 21: end
        rw [e2]
        refine s_if_ne 37 24 rfl rfl (by decide) (fun c4 => ?_) (fun c4 => ?_)
        -- Alarms_carry 24: branch 37 24
        · refine s_iconst (-1) 38 rfl rfl (by decide) ?_
          -- Alarms_carry 38: end
          exact put (-1) (by unfold cl_; rw [if_neg c4])
        · obtain ⟨c, hc, e3⟩ := ht i (by omega) c4
          refine s_aload_n 25 rfl rfl rfl ?_
          refine s_aload_n 26 rfl rfl rfl ?_
          refine s_getfield 0 0 29 rfl rfl fl_Alarms_9 h_this rfl ?_
          refine s_iload_n 30 rfl rfl rfl ?_
          refine s_iaload (i) 31 rfl rfl rfl rfl (by omega) (by decide) ?_
          -- Alarms_carry 31: end
          rw [e1, e3]
          refine c_callV1 h 34 rfl rfl mv_Alarms_38 (by omega) (Nat.le_of_ble_eq_true rfl) (Nat.le_of_ble_eq_true rfl) (ax_ne (by omega) (ax_ne (by omega) h_later)) rfl rfl ?_
          -- Alarms_carry 34: call Lines_laterOf
          refine m_Lines_laterOf (x := c) (ax_ne (by omega) (ax_ne (by omega) h_later)) (ax_ne (by omega) (ax_ne (by omega) h_before)) hnl (by omega) (fun r hr2 => ?_)
          dsimp only [ax_rs]
          refine s_goto 38 rfl (by decide) ?_
          -- Alarms_carry 38: end
          exact put r (by unfold cl_; rw [if_pos c4, e3, nI_clamp (by omega)]; exact lo_w hJ hr hln hc hr2)
  have h0 := loop al 0 li st (by omega) (fun a ha => absurd ha (Nat.not_lt_zero a)) (fun a _ => ⟨rfl, rfl⟩)
  unfold iP at h0
  rw [ax_id h_line, ax_id h_state] at h0
  exact h0
/-- the lines that a set of lines goes to -/
abbrev ls_ (be : Nat → Int32) (nl : Nat) (w : Int64) : Int64 := lset (fun i => decide (¬ be i < 0) && lb w (be i).toNatClampNeg) nl
theorem m_Silences_carry {l nl si : Nat} {be : Nat → Int32} {sl : Nat → Option Nat} {pm : Nat → Nat} (h_this : oC M 22 9 [.ref 23, .int (nI si), .ref 24]) (h_slots : M.2 23 = some (.inl (5, 13, .inr (.inr (.inr (.inr sl)))))) (hs : ∀ k, k < 13 → pm k < 13 ∧ sl k = some (30 + 3 * pm k)) (hi : ∀ j k, j < 13 → k < 13 → pm j = pm k → j = k) (hc : ∀ k, k < 13 → ∃ a b c d e r f, sl_ M (pm k) a b c d e r f) (h_later : oC M l 2 (li_f l nl)) (h_before : iA M (l + 3) 40 be) (hl : 79 ≤ l) (hsi : si ≤ 12) (hnl : nl ≤ 40) (hb : ∀ i, i < nl → be i = -1 ∨ ∃ k : Nat, k < 40 ∧ be i = nI k) (hq : ∀ N, fr_ M N (fun x => 30 ≤ x ∧ x ≤ 68 ∧ x % 3 = 0) → (∀ k, k < 13 → ∀ a b c d e r f, sl_ M (pm k) a b c d e r f → sl_ N (pm k) a b c d (if k < si then ls_ be nl e else e) r f) → Q none N) : ax_G g mt_Silences_carry (h + 1) 0 0 0 [.ref 22, .ref l, .float 0] [] M Q := by
  refine s_iconst 0 1 rfl rfl (by decide) ?_
  refine s_ist2 2 rfl rfl rfl ?_
  -- Silences_carry 2: end
  have loop : ∀ (d k : Nat) (N : ax_M), k + d = si → fr_ M N (fun x => 30 ≤ x ∧ x ≤ 68 ∧ x % 3 = 0) → (∀ j, j < 13 → ∀ a b c d e r f, sl_ M (pm j) a b c d e r f → oC N (30 + 3 * pm j) 8 [.int a, .int b, .int c, .int d, .long (if j < k then ls_ be nl e else e), .ref (31 + 3 * pm j)]) → ax_G g mt_Silences_carry (h + 1) 0 0 2 [.ref 22, .ref l, .int (nI k)] [] N Q := by
    intro d
    induction d with
    | zero =>
      intro k N hk hN hj
      obtain rfl : k = si := by omega
      have fin : ∀ j, j < 13 → ∀ a b c d e r f, sl_ M (pm j) a b c d e r f → sl_ N (pm j) a b c d (if j < k then ls_ be nl e else e) r f := fun j hj2 a b c d e r f hh => ⟨hj j hj2 a b c d e r f hh, (hN _ (by have := (hs j hj2).1; omega)).trans hh.2.1, (hN _ (by have := (hs j hj2).1; omega)).trans hh.2.2.1, hh.2.2.2⟩
      have y1 : oC N 22 9 [.ref 23, .int (nI k), .ref 24] := (hN 22 (by omega)).trans h_this
      refine s_iload_n 3 rfl rfl rfl ?_
      refine s_aload_n 4 rfl rfl rfl ?_
      refine s_getfield 9 1 7 rfl rfl fl_Silences_25 y1 rfl ?_
      refine s_icmp_ge 38 10 rfl rfl (by decide) (fun c1 => ?_) (fun c1 => ?_)
      -- Silences_carry 10: branch 38 10
      · exact s_return rfl rfl (hq N hN fin)
      · exact absurd (nn_nle c1) (by omega)
    | succ d ih =>
      intro k N hk hN hj
      obtain ⟨p13, y_one⟩ := hs k (by omega)
      obtain ⟨a, b, c, dd, e, r, f, hh⟩ := hc k (by omega)
      have o1 := hj k (by omega) a b c dd e r f hh
      rw [if_neg (by omega)] at o1
      have y1 : oC N 22 9 [.ref 23, .int (nI si), .ref 24] := (hN 22 (by omega)).trans h_this
      have y2 : N.2 23 = some (.inl (5, 13, .inr (.inr (.inr (.inr sl))))) := (hN 23 (by omega)).trans h_slots
      have y3 : oC N l 2 (li_f l nl) := (hN l (by omega)).trans h_later
      have y4 : iA N (l + 3) 40 be := (hN (l + 3) (by omega)).trans h_before
      refine s_iload_n 3 rfl rfl rfl ?_
      refine s_aload_n 4 rfl rfl rfl ?_
      refine s_getfield 9 1 7 rfl rfl fl_Silences_25 y1 rfl ?_
      refine s_icmp_ge 38 10 rfl rfl (by decide) (fun c2 => ?_) (fun c2 => ?_)
      -- Silences_carry 10: branch 38 10
      · exact absurd (nn_le c2) (by omega)
      · refine s_aload_n 11 rfl rfl rfl ?_
        refine s_getfield 9 0 14 rfl rfl fl_Silences_11 y1 rfl ?_
        refine s_iload_n 15 rfl rfl rfl ?_
        refine s_aaload 5 "AlarmGroups$Silence" (k) 16 rfl rfl rfl y2 rfl (by omega) (by decide) (y_one) ?_
        refine s_aload_n 17 rfl rfl rfl ?_
        refine s_aload_n 18 rfl rfl rfl ?_
        refine s_getfield 9 0 21 rfl rfl fl_Silences_11 y1 rfl ?_
        refine s_iload_n 22 rfl rfl rfl ?_
        refine s_aaload 5 "AlarmGroups$Silence" (k) 23 rfl rfl rfl y2 rfl (by omega) (by decide) (y_one) ?_
        refine s_getfield 8 4 26 rfl rfl fl_Silences_29 o1 rfl ?_
        refine c_callV1 h 29 rfl rfl mv_Silences_33 (by omega) (Nat.le_of_ble_eq_true rfl) (Nat.le_of_ble_eq_true rfl) y3 rfl rfl ?_
        -- Silences_carry 29: call Lines_laterSet
        refine m_Lines_laterSet (w := e) y3 y4 hnl hb ?_
        dsimp only [ax_rs]
        refine s_putfield 8 4 (.long) 32 rfl rfl fp_Silences_29 o1 (Nat.le_of_ble_eq_true rfl) ⟨rfl, rfl⟩ (fun h => absurd h (by decide)) ?_
        refine s_inc2 _ 35 rfl rfl rfl rfl ?_
        refine s_goto 2 rfl (by decide) ?_
        -- Silences_carry 2: end
        rw [inc1]
        refine ih (k + 1) _ (by omega) (hN.put ⟨by omega, by omega, by omega⟩) (fun j hj2 a' b' c' d' e' r' f' hh' => ?_)
        by_cases z : j = k
        · subst z
          have u1 := hh.1.symm.trans hh'.1
          simp at u1
          obtain ⟨rfl, rfl, rfl, rfl, rfl⟩ := u1
          rw [if_pos (by omega)]
          exact ax_eq
        · have u := hj j hj2 a' b' c' d' e' r' f' hh'
          have u2 : (if j < k + 1 then ls_ be nl e' else e') = (if j < k then ls_ be nl e' else e') := by
            by_cases w : j < k
            · rw [if_pos w, if_pos (by omega)]
            · rw [if_neg w, if_neg (by omega)]
          rw [u2]
          refine ax_ne (fun q => ?_) u
          have := hi j k hj2 (by omega) (by omega)
          exact z this
  exact loop si 0 M (by omega) fr_.r (fun j hj a b c d e r f hh => by rw [if_neg (by omega)]; exact hh.1)
/-- what keepTrends leaves -/
def kt_ (s : Sta) (b : Nat) (pt : Nat → Int64) (i : Nat) : Nat → Int64 := fun x => if 4 * b ≤ x ∧ x < 4 * b + i then lset (be_ s (x - 4 * b)) (sAl s) else pt x
theorem m_Top_keepTrends {b : Nat} {pt : Nat → Int64} {s : Sta} {dw nw : Nat} {gc pa : Int32} {sl : Nat → Option Nat} (hK : KC M s dw nw gc pa sl) (hnw : 79 ≤ nw) (h_past : lA M 78 48 pt) (hb : b < 12) (hq : Q none (lP M 78 48 (kt_ s b pt 4))) : ax_G g mt_Top_keepTrends (h + 5) 0 0 0 [.ref 0, .int (nI b), .float 0] [] M Q := by
  refine s_iconst 0 1 rfl rfl (by decide) ?_
  refine s_ist2 2 rfl rfl rfl ?_
  -- Top_keepTrends 2: end
  have loop : ∀ (d i : Nat), i + d = 4 → ax_G g mt_Top_keepTrends (h + 5) 0 0 2 [.ref 0, .int (nI b), .int (nI i)] [] (lP M 78 48 (kt_ s b pt i)) Q := by
    intro d
    induction d with
    | zero =>
      intro i hi
      obtain rfl : i = 4 := by omega
      refine s_iload_n 3 rfl rfl rfl ?_
      refine s_iconst 4 4 rfl rfl (by decide) ?_
      refine s_icmp_ge 28 7 rfl rfl (by decide) (fun c1 => ?_) (fun c1 => ?_)
      -- Top_keepTrends 7: branch 28 7
      · exact s_return rfl rfl (hq)
      · exact absurd (by decide) c1
    | succ d ih =>
      intro i hi
      have hK2 : KC (lP M 78 48 (kt_ s b pt i)) s dw nw gc pa sl := hK.mv (fun k hk => ax_ne (by omega) rfl) (fun k _ p _ w hw => ax_ne (fun q => by have hw2 : M.2 78 = some (.inr (8, w)) := (by rw [← q]; exact hw); rw [h_past] at hw2; cases hw2) hw) hnw
      refine s_iload_n 3 rfl rfl rfl ?_
      refine s_iconst 4 4 rfl rfl (by decide) ?_
      refine s_icmp_ge 28 7 rfl rfl (by decide) (fun c2 => ?_) (fun c2 => ?_)
      -- Top_keepTrends 7: branch 28 7
      · exact absurd (nn_le (a := 4) c2) (by omega)
      · refine s_aload_n 8 rfl rfl rfl ?_
        refine s_getfield 11 11 11 rfl rfl fl_Top_76 hK2.top rfl ?_
        refine s_iload_n 12 rfl rfl rfl ?_
        refine s_iconst 4 13 rfl rfl (by decide) ?_
        refine s_imul 14 rfl rfl ?_
        -- Top_keepTrends 14: end
        rw [show nI b * 4 = nI (4 * b) by rw [show (4 : Int32) = nI 4 from rfl, pk_mul, Nat.mul_comm]]
        refine s_iload_n 15 rfl rfl rfl ?_
        refine s_iadd 16 rfl rfl ?_
        -- Top_keepTrends 16: end
        rw [nI_add]
        refine s_aload_n 17 rfl rfl rfl ?_
        refine s_iload_n 18 rfl rfl rfl ?_
        refine c_callV1 (h+4) 21 rfl rfl mv_Top_208 (by omega) (Nat.le_of_ble_eq_true rfl) (Nat.le_of_ble_eq_true rfl) hK2.top rfl rfl ?_
        -- Top_keepTrends 21: call Top_setNow
        refine m_Top_setNow (h := h) (w := i) hK2 (by omega) ?_
        dsimp only [ax_rs]
        refine s_lastore (4 * b + i) 22 rfl rfl rfl rfl (by omega) (by decide) ?_
        refine s_inc2 _ 25 rfl rfl rfl rfl ?_
        refine s_goto 2 rfl (by decide) ?_
        -- Top_keepTrends 2: end
        have nx := ih (i + 1) (by omega)
        have e : kt_ s b pt (i + 1) = vp_updL (kt_ s b pt i) (4 * b + i) (lset (be_ s i) (sAl s)) := by
          funext x
          unfold vp_updL kt_
          by_cases z : x = 4 * b + i
          · rw [if_pos (by omega), if_pos z, show x - 4 * b = i by omega]
          · rw [if_neg z]
            by_cases w : 4 * b ≤ x ∧ x < 4 * b + i
            · rw [if_pos w, if_pos (by omega)]
            · rw [if_neg w, if_neg (by omega)]
        unfold lP
        rw [ax_pp, inc1, ← e]
        exact nx
  have h0 := loop 4 0 (by omega)
  rw [show kt_ s b pt 0 = pt from by funext x; unfold kt_; rw [if_neg (by omega)]] at h0
  unfold lP at h0
  rw [ax_id h_past] at h0
  exact h0
end CAR
