/-! one silence: the class -/
/-- bits from i on, d of them -/
def sx_ (ls : Int64) : Nat → Nat → Int64
  | 0, _ => ls
  | d + 1, i => sx_ (ls ||| ((1 : Int64) <<< ((nI i).toInt64 &&& 63))) d (i + 1)
/-- where: whether, the next token, form, file, lines -/
def wh_ (T : Nat → Int32) (m : Int32) (k : Nat) : Bool × Nat × Int32 × Int32 × Int64 :=
  if iw_ T (ti_ T k) 1 = true then (true, k + 1, 2, -1, 0)
  else if iw_ T (ti_ T k) 2 = true then (if nu_ T (ti_ T (k + 1)) 0 5 = true then (true, k + 2, 1, vt_ T (ti_ T (k + 1)), 0) else (false, k + 1, 0, 0, 0))
  else if iw_ T (ti_ T k) 3 = true then (if nu_ T (ti_ T (k + 1)) 0 m = true then (true, k + 2, 0, -1, sx_ 0 1 (vt_ T (ti_ T (k + 1))).toNatClampNeg) else (false, k + 1, 0, 0, 0))
  else if iw_ T (ti_ T k) 4 = true then (if nu_ T (ti_ T (k + 1)) 0 m = true then (if iw_ T (ti_ T (k + 2)) 5 = true then (if nu_ T (ti_ T (k + 3)) (vt_ T (ti_ T (k + 1))) m = true then (true, k + 4, 0, -1, sx_ 0 ((vt_ T (ti_ T (k + 3))).toNatClampNeg + 1 - (vt_ T (ti_ T (k + 1))).toNatClampNeg) (vt_ T (ti_ T (k + 1))).toNatClampNeg) else (false, k + 3, 0, 0, 0)) else (false, k + 2, 0, 0, 0)) else (false, k + 1, 0, 0, 0))
  else (false, k, 0, 0, 0)
/-- a word and a number behind it, or nothing -/
def on2_ (T : Nat → Int32) (i : Nat) (lo hi : Int32) (k : Nat) : Bool × Nat × Int32 := if iw_ T (ti_ T k) i = true then (if nu_ T (ti_ T (k + 1)) lo hi = true then (true, k + 2, vt_ T (ti_ T (k + 1))) else (false, k + 1, 0)) else (true, k, -1)
/-- because: whether, the next token, where the reason begins, how long it is -/
def be2_ (T : Nat → Int32) (k : Nat) : Bool × Nat × Nat × Nat := if iw_ T (ti_ T k) 8 = true then (if (ti_ T (k + 1)).1 = 3 then (true, k + 2, (ti_ T (k + 1)).2.1 + 1, (ti_ T (k + 1)).2.2 - (ti_ T (k + 1)).2.1 - 2) else (false, k + 1, 0, 0)) else (true, k, 0, 0)
abbrev iN (N : ax_M) (a : Nat) (un kd fo fi : Int32) (ls : Int64) : ax_M := oP N a 8 [.int un, .int kd, .int fo, .int fi, .long ls, .ref (a + 1)]
theorem iw_1 {T : Nat → Int32} {t : Nat × Nat × Nat} {i : Nat} (h : iw_ T t i = true) : t.1 = 1 := (of_decide_eq_true h).1
theorem nu_2 {T : Nat → Int32} {t : Nat × Nat × Nat} {lo hi : Int32} (h : nu_ T t lo hi = true) : t.1 = 2 ∧ lo ≤ vt_ T t ∧ vt_ T t ≤ hi := of_decide_eq_true h
/-- a number that is below n -/
theorem nu_n {T : Nat → Int32} {t : Nat × Nat × Nat} {lo : Int32} {n : Nat} (hl : 0 ≤ lo) (hn : n < 65536) (h : nu_ T t lo (nI n - 1) = true) : ∃ v, v < n ∧ vt_ T t = nI v := by
  obtain ⟨-, h1, h2⟩ := nu_2 h
  obtain ⟨v, hv, e⟩ := nI_of (Int32.not_lt.mpr (Int32.le_trans hl h1))
  rw [e] at h2
  refine ⟨v, ?_, e⟩
  cases n with
  | zero => exact absurd h2 (by
      rw [Int32.le_iff_toInt_le, nI_toInt hv]
      have : (nI 0 - 1).toInt = -1 := by decide
      omega)
  | succ n =>
    rw [nI_pred] at h2
    have := nn_le h2
    omega
section ONE
variable {g : ax_Y} {N : ax_M} {Q : Option Value → ax_M → Prop} {h n sz k a si : Nat} {f1 f2 so sa se : Nat → Int32} {un kd fo fi : Int32} {ls : Int64}
theorem TK_.i (hT : TK_ N f1 f2 n sz so sa se) (ha : 30 ≤ a) : TK_ (tN (iN N a un kd fo fi ls) sz k) f1 f2 n sz so sa se := hT.mv (fun j hj => ax_ne (by omega) (ax_ne (by omega) rfl))
theorem i_a (ha : 30 ≤ a) : oC (tN (iN N a un kd fo fi ls) sz k) a 8 [.int un, .int kd, .int fo, .int fi, .long ls, .ref (a + 1)] := ax_ne (by omega) ax_eq
theorem i_22 (ha : 30 ≤ a) (h22 : oC N 22 9 [.ref 23, .int (nI si), .ref 24]) : oC (tN (iN N a un kd fo fi ls) sz k) 22 9 [.ref 23, .int (nI si), .ref 24] := ax_ne (by omega) (ax_ne (by omega) h22)
theorem i_p {un2 kd2 fo2 fi2 : Int32} {ls2 : Int64} (ha : 30 ≤ a) : oP (tN (iN N a un kd fo fi ls) sz k) a 8 [.int un2, .int kd2, .int fo2, .int fi2, .long ls2, .ref (a + 1)] = tN (iN N a un2 kd2 fo2 fi2 ls2) sz k := by
  unfold tN iN oP
  rw [ax_p3 (by omega)]
theorem i_t {k2 : Nat} : tN (tN (iN N a un kd fo fi ls) sz k) sz k2 = tN (iN N a un kd fo fi ls) sz k2 := by
  unfold tN oP
  rw [ax_pp]
theorem m_Silences_setLines {u v : Nat} (ha : 30 ≤ a) (hu : u < 64) (hv : v < 64) (hq : Q (some (.int 1)) (tN (iN N a un kd fo fi (sx_ ls (v + 1 - u) u)) sz k)) : ax_G g mt_Silences_setLines h 0 0 0 [.ref a, .int (nI u), .int (nI v), .float 0] [] (tN (iN N a un kd fo fi ls) sz k) Q := by
  refine s_iload_n 1 rfl rfl rfl ?_
  refine s_iconst (-1) 2 rfl rfl (by decide) ?_
  refine s_icmp_eq 10 5 rfl rfl (by decide) (fun c1 => ?_) (fun c1 => ?_)
  -- Silences_setLines 5: branch 10 5
  · exact absurd c1 (nn_m1 (by omega))
  · refine s_iload_n 6 rfl rfl rfl ?_
    refine s_iconst (-1) 7 rfl rfl (by decide) ?_
    refine s_icmp_ne 12 10 rfl rfl (by decide) (fun c2 => ?_) (fun c2 => ?_)
    -- Silences_setLines 10: branch 12 10
    · refine s_iload_n 13 rfl rfl rfl ?_
      refine s_ist3 14 rfl rfl rfl ?_
      -- Silences_setLines 14: end
      have loop : ∀ (d i : Nat) (ls : Int64), (i + d = v + 1 ∨ (d = 0 ∧ v < i)) → i ≤ 65 → Q (some (.int 1)) (tN (iN N a un kd fo fi (sx_ ls d i)) sz k) → ax_G g mt_Silences_setLines h 0 0 14 [.ref a, .int (nI u), .int (nI v), .int (nI i)] [] (tN (iN N a un kd fo fi ls) sz k) Q := by
        intro d
        induction d with
        | zero =>
          intro i ls hi h65 hq
          rw [sx_] at hq
          refine s_iload_n 15 rfl rfl rfl ?_
          refine s_iload_n 16 rfl rfl rfl ?_
          refine s_icmp_gt 37 19 rfl rfl (by decide) (fun c3 => ?_) (fun c3 => ?_)
          -- Silences_setLines 19: branch 37 19
          · refine s_iconst 1 38 rfl rfl (by decide) ?_
            -- Silences_setLines 38: ireturn
            exact s_ireturn rfl .boolean rfl rfl (hq)
          · exact absurd ((nI_ltI (by omega) (by omega)).mpr (by omega)) c3
        | succ d ih =>
          intro i ls hi h65 hq
          rw [sx_] at hq
          refine s_iload_n 15 rfl rfl rfl ?_
          refine s_iload_n 16 rfl rfl rfl ?_
          refine s_icmp_gt 37 19 rfl rfl (by decide) (fun c4 => ?_) (fun c4 => ?_)
          -- Silences_setLines 19: branch 37 19
          · exact absurd (nn_lt c4) (by omega)
          · refine s_aload_n 20 rfl rfl rfl ?_
            refine s_dup 21 rfl rfl rfl ?_
            refine s_getfield 8 4 24 rfl rfl fl_Silences_29 (i_a ha) rfl ?_
            refine s_lconst 1 25 rfl rfl (by decide) ?_
            refine s_iload_n 26 rfl rfl rfl ?_
            refine s_lshl 27 rfl rfl ?_
            refine s_lor 28 rfl rfl ?_
            refine s_putfield 8 4 (.long) 31 rfl rfl fp_Silences_29 (i_a ha) (Nat.le_of_ble_eq_true rfl) ⟨rfl, rfl⟩ (fun h => absurd h (by decide)) ?_
            refine s_inc3 _ 34 rfl rfl rfl rfl ?_
            refine s_goto 14 rfl (by decide) ?_
            -- Silences_setLines 14: end
            have e := i_p (N := N) (a := a) (un := un) (kd := kd) (fo := fo) (fi := fi) (ls := ls) (sz := sz) (k := k) (un2 := un) (kd2 := kd) (fo2 := fo) (fi2 := fi) (ls2 := ls ||| ((1 : Int64) <<< ((nI i).toInt64 &&& 63))) ha
            unfold oP at e
            show ax_G g mt_Silences_setLines h 0 0 14 _ [] (ax_put (tN (iN N a un kd fo fi ls) sz k) a (.inr (8, [.int un, .int kd, .int fo, .int fi, .long (ls ||| ((1 : Int64) <<< ((nI i).toInt64 &&& 63))), .ref (a + 1)]))) Q
            rw [e, inc1]
            exact ih (i + 1) _ (by omega) (by omega) hq
      refine loop (v + 1 - u) u ls ?_ (by omega) hq
      by_cases z : u ≤ v + 1
      · exact Or.inl (by omega)
      · exact Or.inr ⟨by omega, by omega⟩
    · exact absurd c2 (nn_m1 (by omega))
theorem m_Silences_setLines_no {x y : Int32} {M : ax_M} (hxy : x = -1 ∨ y = -1) (hq : Q (some (.int 0)) M) : ax_G g mt_Silences_setLines h 0 0 0 [.ref a, .int x, .int y, .float 0] [] M Q := by
  refine s_iload_n 1 rfl rfl rfl ?_
  refine s_iconst (-1) 2 rfl rfl (by decide) ?_
  refine s_icmp_eq 10 5 rfl rfl (by decide) (fun c1 => ?_) (fun c1 => ?_)
  -- Silences_setLines 5: branch 10 5
  · refine s_iconst 0 11 rfl rfl (by decide) ?_
    -- Silences_setLines 11: ireturn
    exact s_ireturn rfl .boolean rfl rfl (hq)
  · refine s_iload_n 6 rfl rfl rfl ?_
    refine s_iconst (-1) 7 rfl rfl (by decide) ?_
    refine s_icmp_ne 12 10 rfl rfl (by decide) (fun c2 => ?_) (fun c2 => ?_)
    -- Silences_setLines 10: branch 12 10
    · exact absurd hxy (fun q => q.elim c1 c2)
    · refine s_iconst 0 11 rfl rfl (by decide) ?_
      -- Silences_setLines 11: ireturn
      exact s_ireturn rfl .boolean rfl rfl (hq)
theorem vt_m1 {T : Nat → Int32} {t : Nat × Nat × Nat} {lo hi : Int32} (hl : 0 ≤ lo) (h : nu_ T t lo hi = true) : vt_ T t ≠ -1 := by
  intro q
  obtain ⟨-, h1, -⟩ := nu_2 h
  rw [q] at h1
  exact absurd (Int32.le_trans hl h1) (by decide)
theorem m_Silences_takeSpan {ln : Nat} (ha : 30 ≤ a) (hln : ln ≤ 40) (hT : TK_ N f1 f2 n sz so sa se) (h22 : oC N 22 9 [.ref 23, .int (nI si), .ref 24]) (hk : k < sz) (h0 : (nu_ (tb_ f2 n) (ti_ (tb_ f2 n) k) 0 (nI ln - 1) = false → Q (some (.int 0)) (tN (iN N a un kd fo fi ls) sz k)) ∧ (nu_ (tb_ f2 n) (ti_ (tb_ f2 n) k) 0 (nI ln - 1) = true → iw_ (tb_ f2 n) (ti_ (tb_ f2 n) (k + 1)) 5 = false → Q (some (.int 0)) (tN (iN N a un kd fo fi ls) sz (k + 1))) ∧ (nu_ (tb_ f2 n) (ti_ (tb_ f2 n) k) 0 (nI ln - 1) = true → iw_ (tb_ f2 n) (ti_ (tb_ f2 n) (k + 1)) 5 = true → nu_ (tb_ f2 n) (ti_ (tb_ f2 n) (k + 2)) (vt_ (tb_ f2 n) (ti_ (tb_ f2 n) k)) (nI ln - 1) = false → Q (some (.int 0)) (tN (iN N a un kd fo fi ls) sz (k + 2)))) (h1 : nu_ (tb_ f2 n) (ti_ (tb_ f2 n) k) 0 (nI ln - 1) = true → iw_ (tb_ f2 n) (ti_ (tb_ f2 n) (k + 1)) 5 = true → nu_ (tb_ f2 n) (ti_ (tb_ f2 n) (k + 2)) (vt_ (tb_ f2 n) (ti_ (tb_ f2 n) k)) (nI ln - 1) = true → Q (some (.int 1)) (tN (iN N a un kd fo fi (sx_ ls ((vt_ (tb_ f2 n) (ti_ (tb_ f2 n) (k + 2))).toNatClampNeg + 1 - (vt_ (tb_ f2 n) (ti_ (tb_ f2 n) k)).toNatClampNeg) (vt_ (tb_ f2 n) (ti_ (tb_ f2 n) k)).toNatClampNeg)) sz (k + 3))) : ax_G g mt_Silences_takeSpan (h + 5) 0 0 0 [.ref 22, .ref a, .int (nI ln), .float 0] [] (tN (iN N a un kd fo fi ls) sz k) Q := by
  refine s_aload_n 1 rfl rfl rfl ?_
  refine s_getfield 9 2 4 rfl rfl fl_Silences_20 (i_22 ha h22) rfl ?_
  refine s_iconst 0 5 rfl rfl (by decide) ?_
  refine s_iload_n 6 rfl rfl rfl ?_
  refine s_iconst 1 7 rfl rfl (by decide) ?_
  refine s_isub 8 rfl rfl ?_
  refine c_callV2 (h+4) 11 rfl rfl mv_Silences_108 (by omega) (Nat.le_of_ble_eq_true rfl) (Nat.le_of_ble_eq_true rfl) ax_eq rfl rfl ?_
  -- Silences_takeSpan 11: call Tokens_takeNumber
  refine m_Tokens_takeNumber (h := h + 3) (lo := 0) (hi := nI ln - 1) ax_eq (hT.i ha) hk ?_
  dsimp only [ax_rs]
  rw [i_t]
  cases e1 : nu_ (tb_ f2 n) (ti_ (tb_ f2 n) k) 0 (nI ln - 1) with
  | false =>
    rw [if_neg (by decide), if_neg (by decide)]
    refine s_ist3 12 rfl rfl rfl ?_
    refine s_iload_n 13 rfl rfl rfl ?_
    refine s_iconst (-1) 14 rfl rfl (by decide) ?_
    refine s_icmp_eq 29 17 rfl rfl (by decide) (fun c1 => ?_) (fun c1 => ?_)
    -- Silences_takeSpan 17: branch 29 17
    · refine s_iconst 0 30 rfl rfl (by decide) ?_
      -- Silences_takeSpan 30: ireturn
      exact s_ireturn rfl .boolean rfl rfl (h0.1 e1)
    · exact absurd rfl c1
  | true =>
    rw [if_pos rfl, if_pos rfl]
    have k1 := (hT.b hk).2.2 (by rw [(nu_2 e1).1]; decide) (by rw [(nu_2 e1).1]; decide)
    obtain ⟨v, hv, ev⟩ := nu_n (by decide) (by omega) e1
    refine s_ist3 12 rfl rfl rfl ?_
    refine s_iload_n 13 rfl rfl rfl ?_
    refine s_iconst (-1) 14 rfl rfl (by decide) ?_
    refine s_icmp_eq 29 17 rfl rfl (by decide) (fun c2 => ?_) (fun c2 => ?_)
    -- Silences_takeSpan 17: branch 29 17
    · exact absurd c2 (vt_m1 (by decide) e1)
    · refine s_aload_n 18 rfl rfl rfl ?_
      refine s_getfield 9 2 21 rfl rfl fl_Silences_20 (i_22 ha h22) rfl ?_
      refine s_ldcS 5 23 rfl rfl rfl ?_
      refine c_callV1 (h+4) 26 rfl rfl mv_Silences_79 (by omega) (Nat.le_of_ble_eq_true rfl) (Nat.le_of_ble_eq_true rfl) ax_eq rfl rfl ?_
      -- Silences_takeSpan 26: call Tokens_takeWord
      refine m_Tokens_takeWord (h := h) (i := 5) (by decide) ax_eq (hT.i ha) k1.1 ?_
      dsimp only [ax_rs]
      rw [i_t]
      cases e2 : iw_ (tb_ f2 n) (ti_ (tb_ f2 n) (k + 1)) 5 with
      | false =>
        rw [if_neg (by decide), if_neg (by decide)]
        refine s_if_ne 31 29 rfl rfl (by decide) (fun c3 => ?_) (fun c3 => ?_)
        -- Silences_takeSpan 29: branch 31 29
        · exact absurd rfl c3
        · refine s_iconst 0 30 rfl rfl (by decide) ?_
          -- Silences_takeSpan 30: ireturn
          exact s_ireturn rfl .boolean rfl rfl (h0.2.1 e1 e2)
      | true =>
        rw [if_pos rfl, if_pos rfl]
        have k2 := (hT.b k1.1).2.2 (by rw [iw_1 e2]; decide) (by rw [iw_1 e2]; decide)
        refine s_if_ne 31 29 rfl rfl (by decide) (fun c4 => ?_) (fun c4 => ?_)
        -- Silences_takeSpan 29: branch 31 29
        · refine s_aload_n 32 rfl rfl rfl ?_
          refine s_iload_n 33 rfl rfl rfl ?_
          refine s_aload_n 34 rfl rfl rfl ?_
          refine s_getfield 9 2 37 rfl rfl fl_Silences_20 (i_22 ha h22) rfl ?_
          refine s_iload_n 38 rfl rfl rfl ?_
          refine s_iload_n 39 rfl rfl rfl ?_
          refine s_iconst 1 40 rfl rfl (by decide) ?_
          refine s_isub 41 rfl rfl ?_
          refine c_callV2 (h+4) 44 rfl rfl mv_Silences_108 (by omega) (Nat.le_of_ble_eq_true rfl) (Nat.le_of_ble_eq_true rfl) ax_eq rfl rfl ?_
          -- Silences_takeSpan 44: call Tokens_takeNumber
          refine m_Tokens_takeNumber (h := h + 3) (lo := vt_ (tb_ f2 n) (ti_ (tb_ f2 n) k)) (hi := nI ln - 1) ax_eq (hT.i ha) k2.1 ?_
          dsimp only [ax_rs]
          rw [i_t]
          cases e3 : nu_ (tb_ f2 n) (ti_ (tb_ f2 n) (k + 1 + 1)) (vt_ (tb_ f2 n) (ti_ (tb_ f2 n) k)) (nI ln - 1) with
          | false =>
            rw [if_neg (by decide), if_neg (by decide)]
            refine c_callS3 (h+4) 47 rfl rfl mv_Silences_115 (by omega) (Nat.le_of_ble_eq_true rfl) (Nat.le_of_ble_eq_true rfl) ?_
            -- Silences_takeSpan 47: call Silences_setLines
            refine m_Silences_setLines_no (Or.inr rfl) ?_
            dsimp only [ax_rs]
            exact s_ireturn rfl .boolean rfl rfl (h0.2.2 e1 e2 e3)
          | true =>
            rw [if_pos rfl, if_pos rfl]
            obtain ⟨w, hw, ew⟩ := nu_n (by rw [ev, Int32.le_iff_toInt_le, nI_toInt (by omega)]; show (0 : Int) ≤ _; omega) (by omega) e3
            have h1 := h1 e1 e2 e3
            rw [show k + 2 = k + 1 + 1 from rfl, ew, ev, nI_clamp (by omega), nI_clamp (by omega)] at h1
            rw [ew, ev]
            refine c_callS3 (h+4) 47 rfl rfl mv_Silences_115 (by omega) (Nat.le_of_ble_eq_true rfl) (Nat.le_of_ble_eq_true rfl) ?_
            -- Silences_takeSpan 47: call Silences_setLines
            refine m_Silences_setLines ha (by omega) (by omega) ?_
            dsimp only [ax_rs]
            exact s_ireturn rfl .boolean rfl rfl (h1)
        · exact absurd c4 (by decide)
end ONE
