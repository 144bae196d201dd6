/-! split, and what takes tokens -/
section SPL
variable {g : ax_Y} {M : ax_M} {Q : Option Value → ax_M → Prop} {h n : Nat} {f1 f2 : Nat → Int32} {z1 z2 : Int32}
/-- the class's end of a token -/
def e0_ (T : Nat → Int32) (q : Nat) : Int32 := if s0_ (T q) = 1 then nI (ru_ T 97 122 200 q) else if s0_ (T q) = 2 then nI (ru_ T 48 57 200 q) else if s0_ (T q) = 3 then (if T (qr_ T 20 (q + 1)) = 39 then nI (qr_ T 20 (q + 1) + 1) else -1) else nI (q + 1)
theorem s0_5 (x : Int32) : s0_ x ≤ 5 := by
  unfold s0_
  repeat' split
  all_goals decide
theorem m_Tokens_endAt {p : Nat} (h_this : oC M 24 10 (tk_f z1 z2)) (h_text : oC M 25 7 [.ref 26, .int (nI n)]) (h_bytes : bA M 26 160 f1) (hb : by_ n f1 f2) (hn : n ≤ 160) (hp : p ≤ n) (hq : Q (some (.int (e0_ (tb_ f2 n) p))) M) : ax_G g mt_Tokens_endAt (h + 2) 0 0 0 [.ref 24, .int (nI p), .int (nI (s0_ (tb_ f2 n p)))] [] M Q := by
  unfold e0_ at hq
  have s5 := s0_5 (tb_ f2 n p)
  have s3 : s0_ (tb_ f2 n p) = 3 → p < n := by
    intro e
    by_cases z : p < n
    · exact z
    · rw [tb_m1 z] at e
      exact absurd e (by decide)
  generalize hs : s0_ (tb_ f2 n p) = c at hq s5 s3 ⊢
  refine s_iload_n 1 rfl rfl rfl ?_
  -- Tokens_endAt 1: end
  rcases (by omega : c = 0 ∨ c = 1 ∨ c = 2 ∨ c = 3 ∨ c = 4 ∨ c = 5) with rfl | rfl | rfl | rfl | rfl | rfl
  · refine s_tabOut 54 rfl ((by decide)) (by decide) ?_
    -- to 54
    refine s_iload_n 55 rfl rfl rfl ?_
    refine s_iconst 1 56 rfl rfl (by decide) ?_
    refine s_iadd 57 rfl rfl ?_
    -- Tokens_endAt 57: end
    rw [nI_1]
    exact s_ireturn rfl .int rfl rfl (hq)
  · refine s_tabIn 28 rfl (by decide) (by decide) rfl (by decide) ?_
    -- to 28
    refine s_aload_n 29 rfl rfl rfl ?_
    refine s_iload_n 30 rfl rfl rfl ?_
    refine s_bipush 97 32 rfl rfl (by decide) ?_
    refine s_bipush 122 34 rfl rfl (by decide) ?_
    refine c_callV3 (h+1) 37 rfl rfl mv_Tokens_47 (by omega) (Nat.le_of_ble_eq_true rfl) (Nat.le_of_ble_eq_true rfl) h_this rfl rfl ?_
    -- Tokens_endAt 37: call Tokens_endOfRun
    refine m_Tokens_endOfRun (h := h) h_this h_text h_bytes hb hn hp (by decide) ?_
    dsimp only [ax_rs]
    -- Tokens_endAt 37: ireturn
    exact s_ireturn rfl .int rfl rfl (hq)
  · refine s_tabIn 38 rfl (by decide) (by decide) rfl (by decide) ?_
    -- to 38
    refine s_aload_n 39 rfl rfl rfl ?_
    refine s_iload_n 40 rfl rfl rfl ?_
    refine s_bipush 48 42 rfl rfl (by decide) ?_
    refine s_bipush 57 44 rfl rfl (by decide) ?_
    refine c_callV3 (h+1) 47 rfl rfl mv_Tokens_47 (by omega) (Nat.le_of_ble_eq_true rfl) (Nat.le_of_ble_eq_true rfl) h_this rfl rfl ?_
    -- Tokens_endAt 47: call Tokens_endOfRun
    refine m_Tokens_endOfRun (h := h) h_this h_text h_bytes hb hn hp (by decide) ?_
    dsimp only [ax_rs]
    -- Tokens_endAt 47: ireturn
    exact s_ireturn rfl .int rfl rfl (hq)
  · refine s_tabIn 48 rfl (by decide) (by decide) rfl (by decide) ?_
    -- to 48
    refine s_aload_n 49 rfl rfl rfl ?_
    refine s_iload_n 50 rfl rfl rfl ?_
    refine c_callV1 (h+1) 53 rfl rfl mv_Tokens_69 (by omega) (Nat.le_of_ble_eq_true rfl) (Nat.le_of_ble_eq_true rfl) h_this rfl rfl ?_
    -- Tokens_endAt 53: call Tokens_endOfQuoted
    refine m_Tokens_endOfQuoted (h := h) h_this h_text h_bytes hb hn (s3 rfl) ?_
    dsimp only [ax_rs]
    -- Tokens_endAt 53: ireturn
    exact s_ireturn rfl .int rfl rfl (hq)
  · refine s_tabOut 54 rfl ((by decide)) (by decide) ?_
    -- to 54
    refine s_iload_n 55 rfl rfl rfl ?_
    refine s_iconst 1 56 rfl rfl (by decide) ?_
    refine s_iadd 57 rfl rfl ?_
    -- Tokens_endAt 57: end
    rw [nI_1]
    exact s_ireturn rfl .int rfl rfl (hq)
  · refine s_tabOut 54 rfl ((by decide)) (by decide) ?_
    -- to 54
    refine s_iload_n 55 rfl rfl rfl ?_
    refine s_iconst 1 56 rfl rfl (by decide) ?_
    refine s_iadd 57 rfl rfl ?_
    -- Tokens_endAt 57: end
    rw [nI_1]
    exact s_ireturn rfl .int rfl rfl (hq)
/-- the token out of what the class finds -/
theorem tk_c {T : Nat → Int32} {p : Nat} : (tk_ T p).2.1 = ru_ T 32 32 200 p ∧ ((s0_ (T (ru_ T 32 32 200 p)) = 2 ∧ 6 < ru_ T 48 57 200 (ru_ T 32 32 200 p) - ru_ T 32 32 200 p ∧ (tk_ T p).1 = 5) ∨ (s0_ (T (ru_ T 32 32 200 p)) = 2 ∧ ¬ 6 < ru_ T 48 57 200 (ru_ T 32 32 200 p) - ru_ T 32 32 200 p ∧ (tk_ T p).1 = 2 ∧ e0_ T (ru_ T 32 32 200 p) = nI (tk_ T p).2.2) ∨ (s0_ (T (ru_ T 32 32 200 p)) = 3 ∧ e0_ T (ru_ T 32 32 200 p) = -1 ∧ (tk_ T p).1 = 5) ∨ (s0_ (T (ru_ T 32 32 200 p)) ≠ 2 ∧ (tk_ T p).1 = s0_ (T (ru_ T 32 32 200 p)) ∧ e0_ T (ru_ T 32 32 200 p) = nI (tk_ T p).2.2)) := by
  generalize hq : ru_ T 32 32 200 p = q
  by_cases c1 : 97 ≤ T q ∧ T q ≤ 122
  · have hs : s0_ (T q) = 1 := by unfold s0_; rw [if_pos c1]
    have ht : tk_ T p = (1, q, ru_ T 97 122 200 q) := by unfold tk_; rw [hq, if_pos c1]
    have he : e0_ T q = nI (ru_ T 97 122 200 q) := by unfold e0_; rw [hs]; rfl
    rw [ht, hs, he]
    exact ⟨rfl, Or.inr (Or.inr (Or.inr ⟨by decide, rfl, rfl⟩))⟩
  · by_cases c2 : 48 ≤ T q ∧ T q ≤ 57
    · have hs : s0_ (T q) = 2 := by unfold s0_; rw [if_neg c1, if_pos c2]
      have ht : tk_ T p = (if 6 < ru_ T 48 57 200 q - q then 5 else 2, q, ru_ T 48 57 200 q) := by unfold tk_; rw [hq, if_neg c1, if_pos c2]
      have he : e0_ T q = nI (ru_ T 48 57 200 q) := by unfold e0_; rw [hs]; rfl
      rw [ht, hs, he]
      by_cases z : 6 < ru_ T 48 57 200 q - q
      · rw [if_pos z]
        exact ⟨rfl, Or.inl ⟨rfl, z, rfl⟩⟩
      · rw [if_neg z]
        exact ⟨rfl, Or.inr (Or.inl ⟨rfl, z, rfl, rfl⟩)⟩
    · by_cases c3 : T q = -1
      · have hs : s0_ (T q) = 0 := by unfold s0_; rw [if_neg c1, if_neg c2, if_pos c3]
        have ht : tk_ T p = (0, q, q + 1) := by unfold tk_; rw [hq, if_neg c1, if_neg c2, if_pos c3]
        have he : e0_ T q = nI (q + 1) := by unfold e0_; rw [hs]; rfl
        rw [ht, hs, he]
        exact ⟨rfl, Or.inr (Or.inr (Or.inr ⟨by decide, rfl, rfl⟩))⟩
      · by_cases c4 : T q = 59
        · have hs : s0_ (T q) = 4 := by unfold s0_; rw [if_neg c1, if_neg c2, if_neg c3, if_pos c4]
          have ht : tk_ T p = (4, q, q + 1) := by unfold tk_; rw [hq, if_neg c1, if_neg c2, if_neg c3, if_pos c4]
          have he : e0_ T q = nI (q + 1) := by unfold e0_; rw [hs]; rfl
          rw [ht, hs, he]
          exact ⟨rfl, Or.inr (Or.inr (Or.inr ⟨by decide, rfl, rfl⟩))⟩
        · by_cases c5 : T q = 39
          · have hs : s0_ (T q) = 3 := by unfold s0_; rw [if_neg c1, if_neg c2, if_neg c3, if_neg c4, if_pos c5]
            have ht : tk_ T p = (if T (qr_ T 20 (q + 1)) = 39 then 3 else 5, q, qr_ T 20 (q + 1) + 1) := by unfold tk_; rw [hq, if_neg c1, if_neg c2, if_neg c3, if_neg c4, if_pos c5]
            have he : e0_ T q = if T (qr_ T 20 (q + 1)) = 39 then nI (qr_ T 20 (q + 1) + 1) else -1 := by unfold e0_; rw [hs]; rfl
            rw [ht, hs, he]
            by_cases z : T (qr_ T 20 (q + 1)) = 39
            · rw [if_pos z, if_pos z]
              exact ⟨rfl, Or.inr (Or.inr (Or.inr ⟨by decide, rfl, rfl⟩))⟩
            · rw [if_neg z, if_neg z]
              exact ⟨rfl, Or.inr (Or.inr (Or.inl ⟨rfl, rfl, rfl⟩))⟩
          · have hs : s0_ (T q) = 5 := by unfold s0_; rw [if_neg c1, if_neg c2, if_neg c3, if_neg c4, if_neg c5]
            have ht : tk_ T p = (5, q, q + 1) := by unfold tk_; rw [hq, if_neg c1, if_neg c2, if_neg c3, if_neg c4, if_neg c5]
            have he : e0_ T q = nI (q + 1) := by unfold e0_; rw [hs]; rfl
            rw [ht, hs, he]
            exact ⟨rfl, Or.inr (Or.inr (Or.inr ⟨by decide, rfl, rfl⟩))⟩
theorem tk_e {f : Nat → Int32} {n p : Nat} (hp : p ≤ n) : (tk_ (tb_ f n) p).2.2 ≤ n + 1 := by
  have a := ru_b (f := f) (n := n) (lo := 32) (hi := 32) (by decide) 200 p hp
  unfold tk_
  generalize ru_ (tb_ f n) 32 32 200 p = q at a
  have a1 := ru_b (f := f) (n := n) (lo := 97) (hi := 122) (by decide) 200 q a.2
  have a2 := ru_b (f := f) (n := n) (lo := 48) (hi := 57) (by decide) 200 q a.2
  by_cases c1 : 97 ≤ tb_ f n q ∧ tb_ f n q ≤ 122
  · rw [if_pos c1]
    exact Nat.le_succ_of_le a1.2
  · rw [if_neg c1]
    by_cases c2 : 48 ≤ tb_ f n q ∧ tb_ f n q ≤ 57
    · rw [if_pos c2]
      exact Nat.le_succ_of_le a2.2
    · rw [if_neg c2]
      by_cases c3 : tb_ f n q = -1
      · rw [if_pos c3]
        show q + 1 ≤ n + 1
        omega
      · rw [if_neg c3]
        by_cases c4 : tb_ f n q = 59
        · rw [if_pos c4]
          show q + 1 ≤ n + 1
          omega
        · rw [if_neg c4]
          by_cases c5 : tb_ f n q = 39
          · rw [if_pos c5]
            have qn := tb_ge (f := f) (n := n) (lo := 39) (by decide) (by rw [c5]; decide : (39 : Int32) ≤ tb_ f n q)
            have a3 := qr_b (f := f) (n := n) 20 (q + 1) (by omega)
            show qr_ (tb_ f n) 20 (q + 1) + 1 ≤ n + 1
            omega
          · rw [if_neg c5]
            show q + 1 ≤ n + 1
            omega
/-- the tokens in the class's rows -/
def TK_ (N : ax_M) (f1 f2 : Nat → Int32) (n sz : Nat) (so sa se : Nat → Int32) : Prop := oC N 25 7 [.ref 26, .int (nI n)] ∧ bA N 26 160 f1 ∧ by_ n f1 f2 ∧ n ≤ 160 ∧ iA N 27 161 so ∧ iA N 28 161 sa ∧ iA N 29 161 se ∧ (1 ≤ sz ∧ sz ≤ 161) ∧ (∀ k, k < sz → so k = nI (ti_ (tb_ f2 n) k).1 ∧ sa k = nI (ti_ (tb_ f2 n) k).2.1 ∧ ((ti_ (tb_ f2 n) k).1 ≠ 0 → (ti_ (tb_ f2 n) k).1 ≠ 5 → se k = nI (ti_ (tb_ f2 n) k).2.2)) ∧ (∀ k, k + 1 < sz → (ti_ (tb_ f2 n) k).1 ≠ 0 ∧ (ti_ (tb_ f2 n) k).1 ≠ 5) ∧ ((ti_ (tb_ f2 n) (sz - 1)).1 = 0 ∨ (ti_ (tb_ f2 n) (sz - 1)).1 = 5)
theorem TK_.mv {M N : ax_M} {sz : Nat} {so sa se : Nat → Int32} (h : TK_ M f1 f2 n sz so sa se) (e : ∀ k, 25 ≤ k ∧ k ≤ 29 → N.2 k = M.2 k) : TK_ N f1 f2 n sz so sa se := by
  obtain ⟨h1, h2, h3, h4, h5, h6, h7, h8⟩ := h
  exact ⟨(e _ (by omega)).trans h1, (e _ (by omega)).trans h2, h3, h4, (e _ (by omega)).trans h5, (e _ (by omega)).trans h6, (e _ (by omega)).trans h7, h8⟩
theorem by_f {n : Nat} {f1 f2 : Nat → Int32} (h : by_ n f1 f2) : ∀ j, j < n → ∃ c, c < 256 ∧ f2 j = nI c := fun j hj => (h j hj).2
theorem m_Tokens_split {r0 : Nat} {f0 e27 e28 e29 : Nat → Int32} (h_this : oC M 24 10 (tk_f z1 z2)) (h_text : oC M 25 7 [.ref 26, .int (nI r0)]) (h_bytes : bA M 26 160 f0) (h27 : iA M 27 161 e27) (h28 : iA M 28 161 e28) (h29 : iA M 29 161 e29) (h_from : oC M 1 7 [.ref 2, .int (nI n)]) (h_fb : bA M 2 160 f1) (hb : by_ n f1 f2) (hn : n ≤ 160) (hq : ∀ (N : ax_M) (g1 so sa se : Nat → Int32) (sz : Nat), fr_ M N (fun k => 24 ≤ k ∧ k ≤ 29) → oC N 24 10 (tk_f (nI sz) (nI 0)) → TK_ N g1 f2 n sz so sa se → Q none N) : ax_G g mt_Tokens_split (h + 3) 0 0 0 [.ref 24, .ref 1, .float 0, .float 0, .float 0, .float 0] [] M Q := by
  have hf := by_f hb
  refine s_aload_n 1 rfl rfl rfl ?_
  refine s_getfield 10 0 4 rfl rfl fl_Tokens_14 h_this rfl ?_
  refine c_callV0 (h+2) 7 rfl rfl mv_Tokens_30 (by omega) (Nat.le_of_ble_eq_true rfl) (Nat.le_of_ble_eq_true rfl) h_text rfl rfl ?_
  -- Tokens_split 7: call Row_clear
  refine m_Row_clear h_text ?_
  dsimp only [ax_rs]
  refine s_aload_n 8 rfl rfl rfl ?_
  refine s_getfield 10 0 11 rfl rfl fl_Tokens_14 h_this rfl ?_
  refine s_aload_n 12 rfl rfl rfl ?_
  refine s_iconst 0 13 rfl rfl (by decide) ?_
  refine s_aload_n 14 rfl rfl rfl ?_
  refine c_callV0 (h+2) 17 rfl rfl mv_Tokens_33 (by omega) (Nat.le_of_ble_eq_true rfl) (Nat.le_of_ble_eq_true rfl) h_from rfl rfl ?_
  -- Tokens_split 17: call Row_size
  refine m_Row_size (a := 1) (b := 2) (n := n) h_from ?_
  dsimp only [ax_rs]
  refine c_callV3 (h+2) 20 rfl rfl mv_Tokens_37 (by omega) (Nat.le_of_ble_eq_true rfl) (Nat.le_of_ble_eq_true rfl) rfl rfl rfl ?_
  -- Tokens_split 20: call Row_addPart
  refine m_Row_addPart (s := 0) (k := n) (n := 0) (a := 25) (b := 26) (cap := 160) (f := f0) rfl h_bytes h_from h_fb (by omega) (by omega) (by omega) (by omega) (by omega) (by omega) (by omega) ?_
  dsimp only [ax_rs]
  have hb2 : by_ n (rw_ap f0 0 f1 0 n) f2 := by_cp hb
  rw [Nat.zero_add]
  generalize rw_ap f0 0 f1 0 n = F at hb2 ⊢
  have e0 : oC (rw_m (ax_put M 25 (.inr (7, [.ref 26, .int (nI 0)]))) 25 26 160 F n) 24 10 (tk_f z1 z2) := h_this
  refine s_aload_n 21 rfl rfl rfl ?_
  refine s_iconst 0 22 rfl rfl (by decide) ?_
  refine s_putfield 10 4 (.int) 25 rfl rfl fp_Tokens_41 e0 (Nat.le_of_ble_eq_true rfl) ⟨rfl, rfl⟩ (fun h => absurd h (by decide)) ?_
  refine s_aload_n 26 rfl rfl rfl ?_
  refine s_iconst 0 27 rfl rfl (by decide) ?_
  refine s_putfield 10 5 (.int) 30 rfl rfl fp_Tokens_44 rfl (Nat.le_of_ble_eq_true rfl) ⟨rfl, rfl⟩ (fun h => absurd h (by decide)) ?_
  refine s_iconst 0 31 rfl rfl (by decide) ?_
  refine s_ist2 32 rfl rfl rfl ?_
  refine s_iconst 0 33 rfl rfl (by decide) ?_
  refine s_ist3 34 rfl rfl rfl ?_
  -- Tokens_split 34: end
  have loop : ∀ (d i p : Nat) (N : ax_M) (so sa se : Nat → Int32) (z4 z5 : Value), z4.category = 1 → z5.category = 1 → n < i + d → i ≤ p → p ≤ n → tk_ (tb_ f2 n) p = ti_ (tb_ f2 n) i → fr_ M N (fun k => 24 ≤ k ∧ k ≤ 29) → oC N 24 10 (tk_f (nI i) (nI 0)) → oC N 25 7 [.ref 26, .int (nI n)] → bA N 26 160 F → iA N 27 161 so → iA N 28 161 sa → iA N 29 161 se → (∀ k, k < i → (so k = nI (ti_ (tb_ f2 n) k).1 ∧ sa k = nI (ti_ (tb_ f2 n) k).2.1 ∧ ((ti_ (tb_ f2 n) k).1 ≠ 0 → (ti_ (tb_ f2 n) k).1 ≠ 5 → se k = nI (ti_ (tb_ f2 n) k).2.2)) ∧ (ti_ (tb_ f2 n) k).1 ≠ 0 ∧ (ti_ (tb_ f2 n) k).1 ≠ 5) → ax_G g mt_Tokens_split (h + 3) 0 0 34 [.ref 24, .ref 1, .int (nI p), .int (nI i), z4, z5] [] N Q := by
    intro d
    induction d with
    | zero => intro i p N so sa se z4 z5 _ _ h1 h2 h3; omega
    | succ d ih =>
      intro i p N so sa se z4 z5 _ w5 hd hip hp et hN y24 y25 y26 y27 y28 y29 hk
      obtain ⟨t1, t2, t3, t4, t5⟩ := tk_b (f := f2) (n := n) hf hp hn
      obtain ⟨u1, u2⟩ := tk_c (T := tb_ f2 n) (p := p)
      rw [et] at t1 t2 t3 t4 t5 u1 u2
      generalize hqq : ru_ (tb_ f2 n) 32 32 200 p = q at u1 u2
      have hqn : q ≤ n := by omega
      -- the rows of token i
      have store : ∀ (v : Int32), ((ti_ (tb_ f2 n) i).1 ≠ 0 → (ti_ (tb_ f2 n) i).1 ≠ 5 → v = nI (ti_ (tb_ f2 n) i).2.2) → ax_G g mt_Tokens_split (h + 3) 0 0 91 [.ref 24, .ref 1, .int (nI q), .int (nI i), .int (nI (ti_ (tb_ f2 n) i).1), .int v] [] N Q := by
        intro v hv
        have row : ∀ k, k < i + 1 → (upd so i (nI (ti_ (tb_ f2 n) i).1) k = nI (ti_ (tb_ f2 n) k).1 ∧ upd sa i (nI q) k = nI (ti_ (tb_ f2 n) k).2.1 ∧ ((ti_ (tb_ f2 n) k).1 ≠ 0 → (ti_ (tb_ f2 n) k).1 ≠ 5 → upd se i v k = nI (ti_ (tb_ f2 n) k).2.2)) := by
          intro k hk2
          unfold upd
          by_cases z : k = i
          · subst z
            rw [if_pos rfl, if_pos rfl, if_pos rfl]
            exact ⟨rfl, by rw [u1], hv⟩
          · rw [if_neg z, if_neg z, if_neg z]
            exact (hk k (by omega)).1
        have frN : fr_ M (ax_put (ax_put (ax_put (ax_put N 27 (.inl (0, 161, .inl (upd so i (nI (ti_ (tb_ f2 n) i).1))))) 28 (.inl (0, 161, .inl (upd sa i (nI q))))) 29 (.inl (0, 161, .inl (upd se i v)))) 24 (.inr (10, tk_f (nI (i + 1)) (nI 0)))) (fun k => 24 ≤ k ∧ k ≤ 29) := (((hN.put (by omega)).put (by omega)).put (by omega)).put (by omega)
        have done : ((ti_ (tb_ f2 n) i).1 = 0 ∨ (ti_ (tb_ f2 n) i).1 = 5) → Q none (ax_put (ax_put (ax_put (ax_put N 27 (.inl (0, 161, .inl (upd so i (nI (ti_ (tb_ f2 n) i).1))))) 28 (.inl (0, 161, .inl (upd sa i (nI q))))) 29 (.inl (0, 161, .inl (upd se i v)))) 24 (.inr (10, tk_f (nI (i + 1)) (nI 0)))) := by
          intro w
          exact hq _ F _ _ _ (i + 1) frN rfl ⟨y25, y26, hb2, hn, rfl, rfl, rfl, ⟨by omega, by omega⟩, row, fun k hk2 => (hk k (by omega)).2, w⟩
        refine s_aload_n 92 rfl rfl rfl ?_
        refine s_getfield 10 1 95 rfl rfl fl_Tokens_20 y24 rfl ?_
        refine s_iload_n 96 rfl rfl rfl ?_
        refine s_iload 98 rfl rfl rfl ?_
        refine s_iastore (i) 99 rfl rfl y27 rfl (by omega) (by decide) ?_
        refine s_aload_n 100 rfl rfl rfl ?_
        refine s_getfield 10 2 103 rfl rfl fl_Tokens_24 y24 rfl ?_
        refine s_iload_n 104 rfl rfl rfl ?_
        refine s_iload_n 105 rfl rfl rfl ?_
        refine s_iastore (i) 106 rfl rfl y28 rfl (by omega) (by decide) ?_
        refine s_aload_n 107 rfl rfl rfl ?_
        refine s_getfield 10 3 110 rfl rfl fl_Tokens_27 y24 rfl ?_
        refine s_iload_n 111 rfl rfl rfl ?_
        refine s_iload 113 rfl rfl rfl ?_
        refine s_iastore (i) 114 rfl rfl y29 rfl (by omega) (by decide) ?_
        refine s_aload_n 115 rfl rfl rfl ?_
        refine s_iload_n 116 rfl rfl rfl ?_
        refine s_iconst 1 117 rfl rfl (by decide) ?_
        refine s_iadd 118 rfl rfl ?_
        -- Tokens_split 118: end
        rw [nI_1]
        refine s_putfield 10 4 (.int) 121 rfl rfl fp_Tokens_41 y24 (Nat.le_of_ble_eq_true rfl) ⟨rfl, rfl⟩ (fun h => absurd h (by decide)) ?_
        refine s_iload 123 rfl rfl rfl ?_
        refine s_if_eq 144 126 rfl rfl (by decide) (fun c1 => ?_) (fun c1 => ?_)
        -- Tokens_split 126: branch 144 126
        · exact s_return rfl rfl (done (Or.inl (nn_eq (b := 0) c1)))
        · have c1 : (ti_ (tb_ f2 n) i).1 ≠ 0 := fun w => c1 (by rw [w]; rfl)
          refine s_iload 128 rfl rfl rfl ?_
          refine s_iconst 5 129 rfl rfl (by decide) ?_
          refine s_icmp_ne 135 132 rfl rfl (by decide) (fun c2 => ?_) (fun c2 => ?_)
          -- Tokens_split 132: branch 135 132
          · have c2 : (ti_ (tb_ f2 n) i).1 ≠ 5 := fun w => c2 (by rw [w]; rfl)
            obtain ⟨x1, x2⟩ := t4 c1 c2
            have hv2 := hv c1 c2
            subst hv2
            refine s_iload 137 rfl rfl rfl ?_
            refine s_ist2 138 rfl rfl rfl ?_
            refine s_inc3 _ 141 rfl rfl rfl rfl ?_
            refine s_goto 34 rfl (by decide) ?_
            -- Tokens_split 34: end
            rw [inc1]
            refine ih (i + 1) _ _ _ _ _ _ _ rfl rfl (by omega) (by omega) x2 ?_ frN rfl y25 y26 rfl rfl rfl (fun k hk2 => ⟨row k hk2, ?_⟩)
            · rw [ti_]
            · by_cases z : k = i
              · subst z; exact ⟨c1, c2⟩
              · exact (hk k (by omega)).2
          · refine s_goto 144 rfl (by decide) ?_
            -- Tokens_split 144: return_
            exact s_return rfl rfl (done (Or.inr (nn_eq (b := 5) c2)))
      have five : ∀ (z4 : Value) (v : Int32), z4.category = 1 → (ti_ (tb_ f2 n) i).1 = 5 → ax_G g mt_Tokens_split (h + 3) 0 0 88 [.ref 24, .ref 1, .int (nI q), .int (nI i), z4, .int v] [] N Q := by
        intro z4 v _ e5
        have st := store v (fun _ w => absurd e5 w)
        rw [e5] at st
        refine s_iconst 5 89 rfl rfl (by decide) ?_
        refine s_ist4 91 rfl rfl rfl ?_
        -- Tokens_split 91: end
        exact st
      refine s_iload_n 35 rfl rfl rfl ?_
      refine s_sipush 160 38 rfl rfl (by decide) ?_
      refine s_icmp_gt 144 41 rfl rfl (by decide) (fun c1 => ?_) (fun c1 => ?_)
      -- Tokens_split 41: branch 144 41
      · exact absurd (nn_lt (a := 160) c1) (by omega)
      · refine s_aload_n 42 rfl rfl rfl ?_
        refine s_iload_n 43 rfl rfl rfl ?_
        refine s_bipush 32 45 rfl rfl (by decide) ?_
        refine s_bipush 32 47 rfl rfl (by decide) ?_
        refine c_callV3 (h+2) 50 rfl rfl mv_Tokens_47 (by omega) (Nat.le_of_ble_eq_true rfl) (Nat.le_of_ble_eq_true rfl) y24 rfl rfl ?_
        -- Tokens_split 50: call Tokens_endOfRun
        refine m_Tokens_endOfRun (h := h + 1) y24 y25 y26 hb2 hn hp (by decide) ?_
        dsimp only [ax_rs]
        rw [hqq]
        refine s_ist2 51 rfl rfl rfl ?_
        refine s_aload_n 52 rfl rfl rfl ?_
        refine s_iload_n 53 rfl rfl rfl ?_
        refine c_callV1 (h+2) 56 rfl rfl mv_Tokens_51 (by omega) (Nat.le_of_ble_eq_true rfl) (Nat.le_of_ble_eq_true rfl) y24 rfl rfl ?_
        -- Tokens_split 56: call Tokens_sortAt
        refine m_Tokens_sortAt (h := h + 1) y24 y25 y26 hb2 hn hqn ?_
        dsimp only [ax_rs]
        refine s_ist4 58 rfl rfl rfl ?_
        refine s_aload_n 59 rfl rfl rfl ?_
        refine s_iload_n 60 rfl rfl rfl ?_
        refine s_iload 62 rfl rfl rfl ?_
        refine c_callV2 (h+2) 65 rfl rfl mv_Tokens_55 (by omega) (Nat.le_of_ble_eq_true rfl) (Nat.le_of_ble_eq_true rfl) y24 rfl rfl ?_
        -- Tokens_split 65: call Tokens_endAt
        refine m_Tokens_endAt (h := h) y24 y25 y26 hb2 hn hqn ?_
        dsimp only [ax_rs]
        refine s_ist5 67 rfl rfl rfl ?_
        refine s_iload 69 rfl rfl rfl ?_
        refine s_iconst 2 70 rfl rfl (by decide) ?_
        refine s_icmp_ne 82 73 rfl rfl (by decide) (fun c2 => ?_) (fun c2 => ?_)
        -- Tokens_split 73: branch 82 73
        · have c2 : s0_ (tb_ f2 n q) ≠ 2 := fun w => c2 (by rw [w]; rfl)
          refine s_iload 84 rfl rfl rfl ?_
          refine s_iconst (-1) 85 rfl rfl (by decide) ?_
          refine s_icmp_ne 91 88 rfl rfl (by decide) (fun c3 => ?_) (fun c3 => ?_)
          -- Tokens_split 88: branch 91 88
          · rcases u2 with ⟨w, -⟩ | ⟨w, -⟩ | ⟨-, w, -⟩ | ⟨-, w1, w2⟩
            · exact absurd w c2
            · exact absurd w c2
            · exact absurd w c3
            · have st := store (e0_ (tb_ f2 n) q) (fun _ _ => w2)
              rw [w1] at st
              exact st
          · rcases u2 with ⟨w, -⟩ | ⟨w, -⟩ | ⟨-, -, w⟩ | ⟨-, -, w2⟩
            · exact absurd w c2
            · exact absurd w c2
            · exact five _ _ rfl w
            · rw [w2] at c3
              exact absurd c3 (nn_m1 (by have := tk_e (f := f2) (n := n) hp; rw [et] at this; omega))
        · have c2 := nn_eq (b := 2) c2 (by have := s0_5 (tb_ f2 n q); omega)
          rw [show e0_ (tb_ f2 n) q = nI (ru_ (tb_ f2 n) 48 57 200 q) from by unfold e0_; rw [c2]; rfl]
          have a2 := ru_b (f := f2) (n := n) (lo := 48) (hi := 57) (by decide) 200 q hqn
          refine s_iload 75 rfl rfl rfl ?_
          refine s_iload_n 76 rfl rfl rfl ?_
          refine s_isub 77 rfl rfl ?_
          -- Tokens_split 77: end
          rw [pk_sub a2.1]
          refine s_bipush 6 79 rfl rfl (by decide) ?_
          refine s_icmp_gt 88 82 rfl rfl (by decide) (fun c4 => ?_) (fun c4 => ?_)
          -- Tokens_split 82: branch 88 82
          · have c4 := nn_lt (a := 6) c4
            rcases u2 with ⟨-, -, w⟩ | ⟨-, w, -⟩ | ⟨w, -⟩ | ⟨w, -⟩
            · exact five _ _ rfl w
            · exact absurd c4 w
            · rw [c2] at w; cases w
            · exact absurd c2 w
          · have c4 : ¬ 6 < ru_ (tb_ f2 n) 48 57 200 q - q := fun w => c4 ((nI_ltI (a := 6) (by omega) (by omega)).mpr w)
            rcases u2 with ⟨-, w, -⟩ | ⟨-, -, w1, w2⟩ | ⟨w, -⟩ | ⟨w, -⟩
            · exact absurd w c4
            · have e1 : e0_ (tb_ f2 n) q = nI (ru_ (tb_ f2 n) 48 57 200 q) := by unfold e0_; rw [c2]; rfl
              refine s_iload 84 rfl rfl rfl ?_
              refine s_iconst (-1) 85 rfl rfl (by decide) ?_
              refine s_icmp_ne 91 88 rfl rfl (by decide) (fun c5 => ?_) (fun c5 => ?_)
              -- Tokens_split 88: branch 91 88
              · have st := store (nI (ru_ (tb_ f2 n) 48 57 200 q)) (fun _ _ => by rw [← e1]; exact w2)
                rw [w1] at st
                rw [c2]
                exact st
              · exact absurd c5 (nn_m1 (by omega))
            · rw [c2] at w; cases w
            · exact absurd c2 w
  refine loop (n + 1) 0 0 _ e27 e28 e29 _ _ rfl rfl (by omega) (Nat.le_refl _) (Nat.zero_le _) rfl ?_ rfl rfl rfl h27 h28 h29 (fun k hk => absurd hk (Nat.not_lt_zero k))
  unfold rw_m
  exact ((((fr_.r.put (by omega)).put (by omega)).put (by omega)).put (by omega)).put (by omega)
end SPL
