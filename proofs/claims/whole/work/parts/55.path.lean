/-! path, pattern -/
theorem ft_neg : ∀ j, j < 25 → (-10 : Int32) - nI j < 0 := by decide +kernel
theorem ft_r {b : Nat → Int32} {ip : Bool} {n : Nat} {r : Int32} (h : ft_ b ip n r) (hr : r ≠ -1) : ∃ j, j < 25 ∧ r = nI j := by
  rcases h with ⟨i, a1, a2, a3, a4, a5⟩ | ⟨⟨a1, a2⟩, a3⟩
  · exact ⟨i, by omega, a5⟩
  · split at a3
    · exact ⟨n, by omega, a3⟩
    · exact absurd a3 hr
theorem ft_24 {b : Nat → Int32} {ip : Bool} {n : Nat} (h : ft_ b ip n (-1)) : n ≤ 24 := by
  rcases h with ⟨i, a1, a2, a3, a4, a5⟩ | ⟨⟨a1, a2⟩, a3⟩
  · exact absurd a5.symm (nn_m1 (by omega))
  · exact a1
theorem vp_of {b f : Nat → Int32} {ip : Bool} {n : Nat} (h : ft_ b ip n (-1)) (hf : ∀ j, j < n → f j &&& 255 = b j) : vp_ n f := by
  rcases h with ⟨i, a1, a2, a3, a4, a5⟩ | ⟨⟨a1, a2⟩, a3⟩
  · exact absurd a5.symm (nn_m1 (by omega))
  · refine ⟨?_, fun i hi h2 h3 h4 => ?_⟩
    · by_cases z : n = 0
      · exact Or.inl z
      · refine Or.inr (fun q => ?_)
        rw [hf _ (by omega)] at q
        have e : pa_ b n = 0 := by
          rw [show n = (n - 1) + 1 by omega, pa_, if_pos q]
        rw [if_pos ⟨e, Or.inl (by omega)⟩] at a3
        exact absurd a3.symm (nn_m1 (by omega))
    · rw [hf i (by omega)] at h3
      rw [hf (i + 1) (by omega)] at h4
      by_cases z : i + 2 = n
      · exact Or.inl z
      · refine Or.inr ?_
        rw [hf (i + 2) (by omega)]
        have e0 : pa_ b i = 0 := by
          rcases hi with hi | hi
          · subst hi; rfl
          · by_cases q : i = 0
            · subst q; rfl
            · rw [hf _ (by omega)] at hi
              rw [show i = (i - 1) + 1 by omega, pa_, if_pos hi]
        have e1 : pa_ b (i + 1) = 1 := by
          rw [pa_, if_neg (by rw [h3]; decide), e0]
        have e2 : pa_ b (i + 2) = 2 := by
          rw [pa_, if_neg (by rw [h4]; decide), e1]
        have ed : db_ b (i + 2) = true := decide_eq_true ⟨e2, h4, h3⟩
        have m := a2 (i + 2) (by omega)
        unfold my_ at m
        by_cases q : b (i + 2) = 47
        · exact q
        · rw [if_neg q, ed] at m
          split at m <;> simp at m
section PATH
variable {g : ax_Y} {M : ax_M} {Q : Option Value → ax_M → Prop} {h : Nat} {dw nw n : Nat} {bl pa : Int32} {f b : Nat → Int32} {hp : Nat → Option Nat}
theorem c_path {x : Int32} (h_this : oC M 0 11 (tp_f dw nw bl pa)) (h_text : oC M 1 7 [.ref 2, .int (nI n)]) (h_bytes : bA M 2 160 f) (hn : n ≤ 160) (hb : ∀ j, j < n → f j &&& 255 = b j) (h_paths : oA M 75 4 6 hp) (hh : ∀ i, i < 6 → hp i = some (87 + 4 * i)) (h1 : (x < 0 ∨ nI 6 ≤ x) → Q (some (.int (-2))) (oP M 1 7 [.ref 2, .int (nI 0)])) (h2 : ∀ i r, i < 6 → x = nI i → ft_ b false n r → r ≠ -1 → Q (some (.int (-10 - r))) (oP M 1 7 [.ref 2, .int (nI 0)])) (h3 : ∀ i, i < 6 → x = nI i → ft_ b false n (-1) → ∃ n0 f0 k0 s0, pt_ M (87 + 4 * i) n0 f0 k0 s0 ∧ ∀ k s, ps_ n (rw_ap f0 0 f 0 n) k s → Q (some (.int (nI n))) (oP (pp_m M (87 + 4 * i) n (rw_ap f0 0 f 0 n) k s) 1 7 [.ref 2, .int (nI 0)])) : ax_G g mt_Top_path (h + 3) 0 0 0 [.ref 0, .int x, .float 0] [] M Q := by
  refine s_bipush (-2) 2 rfl rfl (by decide) ?_
  refine s_ist2 3 rfl rfl rfl ?_
  refine s_iload_n 4 rfl rfl rfl ?_
  refine c_callS1 (h+2) 7 rfl rfl mv_Top_104 (by omega) (Nat.le_of_ble_eq_true rfl) (Nat.le_of_ble_eq_true rfl) ?_
  -- Top_path 7: call Top_isFile
  refine m_Top_isFile ?_
  dsimp only [ax_rs]
  rcases in_or (x := x) (n := 6) (by omega) with ⟨i, hi, rfl⟩ | c
  · rw [bi_t (in_bi hi (by omega) rfl)]
    refine s_if_eq 36 10 rfl rfl (by decide) (fun c1 => ?_) (fun c1 => ?_)
    -- Top_path 10: branch 36 10
    · exact absurd c1 (by decide)
    · refine s_aload_n 11 rfl rfl rfl ?_
      refine s_getfield 11 0 14 rfl rfl fl_Top_14 h_this rfl ?_
      refine s_iconst 0 15 rfl rfl (by decide) ?_
      refine c_callS2 (h+2) 18 rfl rfl mv_Top_270 (by omega) (Nat.le_of_ble_eq_true rfl) (Nat.le_of_ble_eq_true rfl) ?_
      -- Top_path 18: call Parts_check
      refine m_Parts_check (ip := false) h_text h_bytes hn hb (fun r hr => ?_)
      dsimp only [ax_rs]
      by_cases z : r = -1
      · subst z
        rw [if_pos rfl]
        have n24 := ft_24 hr
        obtain ⟨n0, f0, k0, s0, ⟨p1, p2, p3, p4, p5⟩, h3⟩ := h3 i hi rfl hr
        refine s_ist2 19 rfl rfl rfl ?_
        refine s_iload_n 20 rfl rfl rfl ?_
        refine s_if_lt 36 23 rfl rfl (by decide) (fun c2 => ?_) (fun c2 => ?_)
        -- Top_path 23: branch 36 23
        · exact absurd c2 (nI_pos (by omega))
        · have y_one := hh i hi
          refine s_aload_n 24 rfl rfl rfl ?_
          refine s_getfield 11 8 27 rfl rfl fl_Top_65 h_this rfl ?_
          refine s_iload_n 28 rfl rfl rfl ?_
          refine s_aaload 4 "AlarmGroups$Parts" (i) 29 rfl rfl rfl h_paths rfl (by omega) (by decide) (y_one) ?_
          refine s_aload_n 30 rfl rfl rfl ?_
          refine s_getfield 11 0 33 rfl rfl fl_Top_14 h_this rfl ?_
          refine c_callV1 (h+2) 36 rfl rfl mv_Top_274 (by omega) (Nat.le_of_ble_eq_true rfl) (Nat.le_of_ble_eq_true rfl) p1 rfl rfl ?_
          -- Top_path 36: call Parts_set
          refine m_Parts_set p1 p2 p3 p4 (by omega) h_text h_bytes n24 (fun k s hps => ?_)
          dsimp only [ax_rs]
          have t1 : oC (pp_m M (87 + 4 * i) n (rw_ap f0 0 f 0 n) k s) 0 11 (tp_f dw nw bl pa) := ax_ne (by omega) (ax_ne (by omega) (ax_ne (by omega) (ax_ne (by omega) h_this)))
          have t2 : oC (pp_m M (87 + 4 * i) n (rw_ap f0 0 f 0 n) k s) 1 7 [.ref 2, .int (nI n)] := ax_ne (by omega) (ax_ne (by omega) (ax_ne (by omega) (ax_ne (by omega) h_text)))
          refine s_aload_n 37 rfl rfl rfl ?_
          refine s_getfield 11 0 40 rfl rfl fl_Top_14 t1 rfl ?_
          refine c_callV0 (h+2) 43 rfl rfl mv_Top_229 (by omega) (Nat.le_of_ble_eq_true rfl) (Nat.le_of_ble_eq_true rfl) t2 rfl rfl ?_
          -- Top_path 43: call Row_clear
          refine m_Row_clear t2 ?_
          dsimp only [ax_rs]
          refine s_iload_n 44 rfl rfl rfl ?_
          -- Top_path 44: ireturn
          exact s_ireturn rfl .int rfl rfl (h3 k s hps)
      · rw [if_neg z]
        obtain ⟨j, hj, e⟩ := ft_r hr z
        refine s_ist2 19 rfl rfl rfl ?_
        refine s_iload_n 20 rfl rfl rfl ?_
        refine s_if_lt 36 23 rfl rfl (by decide) (fun c3 => ?_) (fun c3 => ?_)
        -- Top_path 23: branch 36 23
        · refine s_aload_n 37 rfl rfl rfl ?_
          refine s_getfield 11 0 40 rfl rfl fl_Top_14 h_this rfl ?_
          refine c_callV0 (h+2) 43 rfl rfl mv_Top_229 (by omega) (Nat.le_of_ble_eq_true rfl) (Nat.le_of_ble_eq_true rfl) h_text rfl rfl ?_
          -- Top_path 43: call Row_clear
          refine m_Row_clear h_text ?_
          dsimp only [ax_rs]
          refine s_iload_n 44 rfl rfl rfl ?_
          -- Top_path 44: ireturn
          exact s_ireturn rfl .int rfl rfl (h2 i r hi rfl hr z)
        · exact absurd (by rw [e]; exact ft_neg j hj) c3
  · rw [bi_f (in_no c)]
    refine s_if_eq 36 10 rfl rfl (by decide) (fun c4 => ?_) (fun c4 => ?_)
    -- Top_path 10: branch 36 10
    · refine s_aload_n 37 rfl rfl rfl ?_
      refine s_getfield 11 0 40 rfl rfl fl_Top_14 h_this rfl ?_
      refine c_callV0 (h+2) 43 rfl rfl mv_Top_229 (by omega) (Nat.le_of_ble_eq_true rfl) (Nat.le_of_ble_eq_true rfl) h_text rfl rfl ?_
      -- Top_path 43: call Row_clear
      refine m_Row_clear h_text ?_
      dsimp only [ax_rs]
      refine s_iload_n 44 rfl rfl rfl ?_
      -- Top_path 44: ireturn
      exact s_ireturn rfl .int rfl rfl (h1 c)
    · exact absurd rfl c4
theorem m_Top_addPattern {x : Int32} {pt : Nat} {po : Nat → Int32} (h_this : oC M 0 11 (tp_f dw nw bl (nI pt))) (h_text : oC M 1 7 [.ref 2, .int (nI n)]) (h_bytes : bA M 2 160 f) (hn : n ≤ 24) (h_patterns : oA M 76 4 8 hp) (hh : ∀ i, i < 8 → hp i = some (111 + 4 * i)) (h_patternOwners : iA M 77 8 po) (hpt : pt ≤ 8) (h1 : pt = 8 → Q (some (.int (-4))) M) (h2 : pt < 8 → ∃ n0 f0 k0 s0, pt_ M (111 + 4 * pt) n0 f0 k0 s0 ∧ ∀ k s, ps_ n (rw_ap f0 0 f 0 n) k s → Q (some (.int (nI (pt + 1)))) (oP (iP (pp_m M (111 + 4 * pt) n (rw_ap f0 0 f 0 n) k s) 77 8 (upd po pt x)) 0 11 (tp_f dw nw bl (nI (pt + 1))))) : ax_G g mt_Top_addPattern (h + 3) 0 0 0 [.ref 0, .int x] [] M Q := by
  refine s_aload_n 1 rfl rfl rfl ?_
  refine s_getfield 11 15 4 rfl rfl fl_Top_326 h_this rfl ?_
  refine s_bipush 8 6 rfl rfl (by decide) ?_
  refine s_icmp_lt 12 9 rfl rfl (by decide) (fun c1 => ?_) (fun c1 => ?_)
  -- Top_addPattern 9: branch 12 9
  · have hp8 := nn_lt (b := 8) c1
    obtain ⟨n0, f0, k0, s0, ⟨p1, p2, p3, p4, p5⟩, h2⟩ := h2 hp8
    have y_one := hh pt hp8
    refine s_aload_n 13 rfl rfl rfl ?_
    refine s_getfield 11 9 16 rfl rfl fl_Top_69 h_this rfl ?_
    refine s_aload_n 17 rfl rfl rfl ?_
    refine s_getfield 11 15 20 rfl rfl fl_Top_326 h_this rfl ?_
    refine s_aaload 4 "AlarmGroups$Parts" (pt) 21 rfl rfl rfl h_patterns rfl (by omega) (by decide) (y_one) ?_
    refine s_aload_n 22 rfl rfl rfl ?_
    refine s_getfield 11 0 25 rfl rfl fl_Top_14 h_this rfl ?_
    refine c_callV1 (h+2) 28 rfl rfl mv_Top_274 (by omega) (Nat.le_of_ble_eq_true rfl) (Nat.le_of_ble_eq_true rfl) p1 rfl rfl ?_
    -- Top_addPattern 28: call Parts_set
    refine m_Parts_set p1 p2 p3 p4 (by omega) h_text h_bytes hn (fun k s hps => ?_)
    dsimp only [ax_rs]
    have h2 := h2 k s hps
    have t1 : oC (pp_m M (111 + 4 * pt) n (rw_ap f0 0 f 0 n) k s) 0 11 (tp_f dw nw bl (nI pt)) := ax_ne (by omega) (ax_ne (by omega) (ax_ne (by omega) (ax_ne (by omega) h_this)))
    have t2 : iA (pp_m M (111 + 4 * pt) n (rw_ap f0 0 f 0 n) k s) 77 8 po := ax_ne (by omega) (ax_ne (by omega) (ax_ne (by omega) (ax_ne (by omega) h_patternOwners)))
    generalize pp_m M (111 + 4 * pt) n (rw_ap f0 0 f 0 n) k s = Y at h2 t1 t2 ⊢
    refine s_aload_n 29 rfl rfl rfl ?_
    refine s_getfield 11 10 32 rfl rfl fl_Top_72 t1 rfl ?_
    refine s_aload_n 33 rfl rfl rfl ?_
    refine s_getfield 11 15 36 rfl rfl fl_Top_326 t1 rfl ?_
    refine s_iload_n 37 rfl rfl rfl ?_
    refine s_iastore (pt) 38 rfl rfl t2 rfl (by omega) (by decide) ?_
    refine s_aload_n 39 rfl rfl rfl ?_
    refine s_dup 40 rfl rfl rfl ?_
    refine s_getfield 11 15 43 rfl rfl fl_Top_326 t1 rfl ?_
    refine s_iconst 1 44 rfl rfl (by decide) ?_
    refine s_iadd 45 rfl rfl ?_
    -- Top_addPattern 45: end
    rw [nI_1]
    refine s_putfield 11 15 (.int) 48 rfl rfl fp_Top_326 t1 (Nat.le_of_ble_eq_true rfl) ⟨rfl, rfl⟩ (fun h => absurd h (by decide)) ?_
    refine s_aload_n 49 rfl rfl rfl ?_
    refine s_getfield 11 15 52 rfl rfl fl_Top_326 rfl rfl ?_
    -- Top_addPattern 52: ireturn
    exact s_ireturn rfl .int rfl rfl (h2)
  · refine s_bipush (-4) 11 rfl rfl (by decide) ?_
    -- Top_addPattern 11: ireturn
    exact s_ireturn rfl .int rfl rfl (h1 (by have := nn_nlt (b := 8) c1; omega))
theorem c_pattern {x : Int32} {pt : Nat} {po : Nat → Int32} (h_this : oC M 0 11 (tp_f dw nw bl (nI pt))) (h_text : oC M 1 7 [.ref 2, .int (nI n)]) (h_bytes : bA M 2 160 f) (hn : n ≤ 160) (hb : ∀ j, j < n → f j &&& 255 = b j) (h_patterns : oA M 76 4 8 hp) (hh : ∀ i, i < 8 → hp i = some (111 + 4 * i)) (h_patternOwners : iA M 77 8 po) (hpt : pt ≤ 8) (h1 : (x < 0 ∨ nI 10 ≤ x) → Q (some (.int (-2))) (oP M 1 7 [.ref 2, .int (nI 0)])) (h2 : ∀ i r, i < 10 → x = nI i → ft_ b true n r → r ≠ -1 → Q (some (.int (-10 - r))) (oP M 1 7 [.ref 2, .int (nI 0)])) (h3 : ∀ i, i < 10 → x = nI i → ft_ b true n (-1) → pt = 8 → Q (some (.int (-4))) (oP M 1 7 [.ref 2, .int (nI 0)])) (h4 : ∀ i, i < 10 → x = nI i → ft_ b true n (-1) → pt < 8 → ∃ n0 f0 k0 s0, pt_ M (111 + 4 * pt) n0 f0 k0 s0 ∧ ∀ k s, ps_ n (rw_ap f0 0 f 0 n) k s → Q (some (.int (nI (pt + 1)))) (oP (oP (iP (pp_m M (111 + 4 * pt) n (rw_ap f0 0 f 0 n) k s) 77 8 (upd po pt x)) 0 11 (tp_f dw nw bl (nI (pt + 1)))) 1 7 [.ref 2, .int (nI 0)])) : ax_G g mt_Top_pattern (h + 4) 0 0 0 [.ref 0, .int x, .float 0] [] M Q := by
  have fin : ∀ {M2 : ax_M} {dw nw : Nat} {bl pa v : Int32}, oC M2 0 11 (tp_f dw nw bl pa) → oC M2 1 7 [.ref 2, .int (nI n)] → Q (some (.int v)) (oP M2 1 7 [.ref 2, .int (nI 0)]) → ax_G g mt_Top_pattern (h + 4) 0 0 32 [.ref 0, .int x, .int v] [] M2 Q := by
    intro M2 dw nw bl pa v h_this h_text hq
    refine s_aload_n 33 rfl rfl rfl ?_
    refine s_getfield 11 0 36 rfl rfl fl_Top_14 h_this rfl ?_
    refine c_callV0 (h+3) 39 rfl rfl mv_Top_229 (by omega) (Nat.le_of_ble_eq_true rfl) (Nat.le_of_ble_eq_true rfl) h_text rfl rfl ?_
    -- Top_pattern 39: call Row_clear
    refine m_Row_clear h_text ?_
    dsimp only [ax_rs]
    refine s_iload_n 40 rfl rfl rfl ?_
    -- Top_pattern 40: ireturn
    exact s_ireturn rfl .int rfl rfl (hq)
  refine s_bipush (-2) 2 rfl rfl (by decide) ?_
  refine s_ist2 3 rfl rfl rfl ?_
  refine s_iload_n 4 rfl rfl rfl ?_
  refine s_if_lt 32 7 rfl rfl (by decide) (fun c1 => ?_) (fun c1 => ?_)
  -- Top_pattern 7: branch 32 7
  · exact fin h_this h_text (h1 (Or.inl c1))
  · obtain ⟨i, hi, rfl⟩ := nI_of c1
    refine s_iload_n 8 rfl rfl rfl ?_
    refine s_bipush 10 10 rfl rfl (by decide) ?_
    refine s_icmp_ge 32 13 rfl rfl (by decide) (fun c2 => ?_) (fun c2 => ?_)
    -- Top_pattern 13: branch 32 13
    · exact fin h_this h_text (h1 (Or.inr c2))
    · have hi10 := nn_nle (a := 10) c2
      refine s_aload_n 14 rfl rfl rfl ?_
      refine s_getfield 11 0 17 rfl rfl fl_Top_14 h_this rfl ?_
      refine s_iconst 1 18 rfl rfl (by decide) ?_
      refine c_callS2 (h+3) 21 rfl rfl mv_Top_270 (by omega) (Nat.le_of_ble_eq_true rfl) (Nat.le_of_ble_eq_true rfl) ?_
      -- Top_pattern 21: call Parts_check
      refine m_Parts_check (ip := true) h_text h_bytes hn hb (fun r hr => ?_)
      dsimp only [ax_rs]
      by_cases z : r = -1
      · subst z
        rw [if_pos rfl]
        have n24 := ft_24 hr
        refine s_ist2 22 rfl rfl rfl ?_
        refine s_iload_n 23 rfl rfl rfl ?_
        refine s_if_lt 32 26 rfl rfl (by decide) (fun c3 => ?_) (fun c3 => ?_)
        -- Top_pattern 26: branch 32 26
        · exact absurd c3 (nI_pos (by omega))
        · refine s_aload_n 27 rfl rfl rfl ?_
          refine s_iload_n 28 rfl rfl rfl ?_
          refine c_callV1 (h+3) 31 rfl rfl mv_Top_278 (by omega) (Nat.le_of_ble_eq_true rfl) (Nat.le_of_ble_eq_true rfl) h_this rfl rfl ?_
          -- Top_pattern 31: call Top_addPattern
          refine m_Top_addPattern (h := h) h_this h_text h_bytes n24 h_patterns hh h_patternOwners hpt (fun e => ?_) (fun e => ?_)
          · dsimp only [ax_rs]
            refine s_ist2 32 rfl rfl rfl ?_
            -- Top_pattern 32: end
            exact fin h_this h_text (h3 i hi10 rfl hr e)
          · obtain ⟨n0, f0, k0, s0, q1, h4⟩ := h4 i hi10 rfl hr e
            refine ⟨n0, f0, k0, s0, q1, fun k s hps => ?_⟩
            dsimp only [ax_rs]
            refine s_ist2 32 rfl rfl rfl ?_
            -- Top_pattern 32: end
            exact fin ax_eq (ax_ne (by omega) (ax_ne (by omega) (ax_ne (by omega) (ax_ne (by omega) (ax_ne (by omega) (ax_ne (by omega) h_text)))))) (h4 k s hps)
      · rw [if_neg z]
        obtain ⟨j, hj, e⟩ := ft_r hr z
        refine s_ist2 22 rfl rfl rfl ?_
        refine s_iload_n 23 rfl rfl rfl ?_
        refine s_if_lt 32 26 rfl rfl (by decide) (fun c4 => ?_) (fun c4 => ?_)
        -- Top_pattern 26: branch 32 26
        · exact fin h_this h_text (h2 i r hi10 rfl hr z)
        · exact absurd (by rw [e]; exact ft_neg j hj) c4
end PATH
theorem by_cp {f0 f1 f2 : Nat → Int32} {n : Nat} (h : by_ n f1 f2) : ∀ j, j < n → rw_ap f0 0 f1 0 n j &&& 255 = f2 j ∧ ∃ c, c < 256 ∧ f2 j = nI c := by
  intro j hj
  obtain ⟨e1, c, hc, e2⟩ := h j hj
  refine ⟨?_, c, hc, e2⟩
  unfold rw_ap
  rw [if_pos (by omega), bp_b, show 0 + (j - 0) = j by omega, e1, e2, pk_andN (by omega) 8 (by decide), Nat.mod_eq_of_lt (by omega)]
theorem both_path {g : ax_Y} (x : Int32) : BI g (Rel g) mt_Top_path mt_Mod_path [.int x] := by
  intro M hR
  obtain ⟨n, bl, ln, dr, al, ru, si, pa, cm, os, dw, nw, pv, gm, tk, pl, bh, va, iw, od, h0, h143, ⟨f1, f2, t1, t2, t3, t4, t5⟩, hL, hA, hF, hS, hO, hU, hC, hX, hz⟩ := hR
  have hO' := hO
  obtain ⟨⟨x1, y1, y2⟩, ⟨x2, v1, v2⟩, po, p2, pz, pt, tz, o2, o3, o4, o5, o6, o7, o8, o9, o10, o11⟩ := hO
  have bad : ∀ {v : Int32}, (v = v) → Rel g (md_m (oP M 1 7 [.ref 2, .int (nI 0)]) (nI 0) (nI bl) (nI ln) (nI dr) (nI al) (nI ru) pv (nI si) (nI pa) (nI cm) (nI os) gm tk pl bh va iw od) := fun _ => Rel.textOf h0 hL hA hF hS hO' hU hC hX hz (fun j a b c d => ax_ne c (ax_ne a rfl)) rfl ⟨_, _, rfl, t2, t3, by omega, fun j hj => absurd hj (Nat.not_lt_zero j)⟩
  have nb : ∀ i, i < 6 → x = nI i → ¬ (x < 0 ∨ nI 6 ≤ x) := fun i hi e q => in_no q (in_bi hi (by omega) e)
  refine c_path (h := 8) (b := f2) h0 t1 t2 t4 (fun j hj => (t5 j hj).1) y1 y2 (fun q => ?_) (fun i r a1 a2 a3 a4 => ?_) (fun i a1 a2 a3 => ?_)
  · exact ⟨_, rfl, ⟨_, h143⟩, d_path (h := 9) (M := oP M 1 7 [.ref 2, .int (nI 0)]) h143 t3 t4 o4 o5 (fun _ => ⟨rfl, bad (v := 0) rfl⟩) (fun i r a1 a2 a3 a4 => absurd q (nb i a1 a2)) (fun i a1 a2 a3 => absurd q (nb i a1 a2))⟩
  · refine ⟨_, rfl, ⟨_, h143⟩, d_path (h := 9) (M := oP M 1 7 [.ref 2, .int (nI 0)]) h143 t3 t4 o4 o5 (fun q => absurd q (nb i a1 a2)) (fun i' r' b1 b2 b3 b4 => ?_) (fun i' b1 b2 b3 => absurd (ft_u a3 b3) a4)⟩
    rw [ft_u b3 a3]
    exact ⟨rfl, bad (v := 0) rfl⟩
  · obtain ⟨n0, f0, k0, s0, q1, q2⟩ := o10 i a1
    refine ⟨n0, f0, k0, s0, q1, fun k s hps => ?_⟩
    have n24 := ft_24 a3
    have k1 : ∀ j, ¬ (j = 1 ∨ (87 + 4 * i ≤ j ∧ j ≤ 90 + 4 * i)) → (oP (pp_m M (87 + 4 * i) n (rw_ap f0 0 f1 0 n) k s) 1 7 [.ref 2, .int (nI 0)]).2 j = M.2 j := fun j hj => ax_ne (by omega) (ax_ne (by omega) (ax_ne (by omega) (ax_ne (by omega) (ax_ne (by omega) rfl))))
    refine ⟨_, rfl, ⟨_, (k1 143 (by omega)).trans h143⟩, d_path (h := 9) (M := oP (pp_m M (87 + 4 * i) n (rw_ap f0 0 f1 0 n) k s) 1 7 [.ref 2, .int (nI 0)]) ((k1 143 (by omega)).trans h143) ((k1 144 (by omega)).trans t3) t4 ((k1 173 (by omega)).trans o4) ((k1 174 (by omega)).trans o5) (fun q => absurd q (nb i a1 a2)) (fun i' r' b1 b2 b3 b4 => absurd (ft_u b3 a3) b4) (fun i' b1 b2 b3 => ?_)⟩
    obtain rfl : i = i' := nn_eq (a2.symm.trans b2)
    refine ⟨rfl, ?_⟩
    have key : ∀ j, ¬ (j = 1 ∨ (87 + 4 * i ≤ j ∧ j ≤ 90 + 4 * i) ∨ j = 143 ∨ j = 173 ∨ j = 174) → (iP (iP (md_m (oP (pp_m M (87 + 4 * i) n (rw_ap f0 0 f1 0 n) k s) 1 7 [.ref 2, .int (nI 0)]) (nI 0) (nI bl) (nI ln) (nI dr) (nI al) (nI ru) pv (nI si) (nI pa) (nI cm) (nI os) gm tk pl bh va iw od) 173 144 (pu_ p2 f2 i n)) 174 6 (upd pz i (nI n))).2 j = M.2 j := fun j hj => ax_ne (by omega) (ax_ne (by omega) (ax_ne (by omega) (k1 j (by omega))))
    have kp : ∀ j, 87 + 4 * i ≤ j ∧ j ≤ 90 + 4 * i → (iP (iP (md_m (oP (pp_m M (87 + 4 * i) n (rw_ap f0 0 f1 0 n) k s) 1 7 [.ref 2, .int (nI 0)]) (nI 0) (nI bl) (nI ln) (nI dr) (nI al) (nI ru) pv (nI si) (nI pa) (nI cm) (nI os) gm tk pl bh va iw od) 173 144 (pu_ p2 f2 i n)) 174 6 (upd pz i (nI n))).2 j = (pp_m M (87 + 4 * i) n (rw_ap f0 0 f1 0 n) k s).2 j := fun j hj => ax_ne (by omega) (ax_ne (by omega) (ax_ne (by omega) (ax_ne (by omega) rfl)))
    refine ⟨0, bl, ln, dr, al, ru, si, pa, cm, os, dw, nw, pv, gm, tk, pl, bh, va, iw, od, (key 0 (by omega)).trans h0, rfl, ⟨f1, f2, ?_, (key 2 (by omega)).trans t2, (key 144 (by omega)).trans t3, by omega, fun j hj => absurd hj (Nat.not_lt_zero j)⟩, hL.mv ?_, hA.mv ?_, hF.mv ?_, hS.mv ?_, ⟨⟨x1, (key _ (by omega)).trans y1, y2⟩, ⟨x2, (key _ (by omega)).trans v1, v2⟩, po, _, _, pt, tz, o2, (key _ (by omega)).trans o3, rfl, rfl, (key _ (by omega)).trans o6, (key _ (by omega)).trans o7, (key _ (by omega)).trans o8, o9, fun j hj => ?_, fun j hj => ?_⟩, hU.mv ?_, hC.mv ?_, hX.mv ?_, hz⟩
    case refine_6 =>
      by_cases e : j = i
      · subst e
        refine ⟨n, rw_ap f0 0 f1 0 n, k, s, ⟨(kp _ (by omega)).trans ax_eq, (kp _ (by omega)).trans (ax_ne (by omega) (ax_ne (by omega) ax_eq)), (kp _ (by omega)).trans (ax_ne (by omega) (ax_ne (by omega) (ax_ne (by omega) ax_eq))), (kp _ (by omega)).trans (ax_ne (by omega) ax_eq), n24⟩, ⟨hps, vp_of a3 (fun c hc => (by_cp (f0 := f0) t5 c hc).1)⟩, ?_, fun c hc => ?_⟩
        · unfold upd
          rw [if_pos rfl]
        · have q := by_cp (f0 := f0) t5 c hc
          have e2 : pu_ p2 f2 j n (24 * j + c) = f2 c := by
            unfold pu_
            rw [if_pos (by omega), show 24 * j + c - 24 * j = c by omega]
          show rw_ap f0 0 f1 0 n c &&& 255 = pu_ p2 f2 j n (24 * j + c) ∧ ∃ d, d < 256 ∧ pu_ p2 f2 j n (24 * j + c) = nI d
          rw [e2]
          exact q
      · obtain ⟨m0, g0, l0, u0, w1, w2, w3, w4⟩ := o10 j hj
        have hm := w1.2.2.2.2
        refine ⟨m0, g0, l0, u0, ⟨(key _ (by omega)).trans w1.1, (key _ (by omega)).trans w1.2.1, (key _ (by omega)).trans w1.2.2.1, (key _ (by omega)).trans w1.2.2.2.1, hm⟩, w2, ?_, fun c hc => ?_⟩
        · unfold upd
          rw [if_neg e]
          exact w3
        · have e2 : pu_ p2 f2 i n (24 * j + c) = p2 (24 * j + c) := by
            unfold pu_
            rw [if_neg (by omega)]
          show g0 c &&& 255 = pu_ p2 f2 i n (24 * j + c) ∧ ∃ d, d < 256 ∧ pu_ p2 f2 i n (24 * j + c) = nI d
          rw [e2]
          exact w4 c hc
    case refine_7 =>
      obtain ⟨m0, g0, l0, u0, w1, w2⟩ := o11 j hj
      exact ⟨m0, g0, l0, u0, ⟨(key _ (by omega)).trans w1.1, (key _ (by omega)).trans w1.2.1, (key _ (by omega)).trans w1.2.2.1, (key _ (by omega)).trans w1.2.2.2.1, w1.2.2.2.2⟩, w2⟩
    case refine_1 => exact ax_ne (by omega) (ax_ne (by omega) (ax_ne (by omega) ax_eq))
    all_goals exact fun k hk => key k (by omega)
theorem both_pattern {g : ax_Y} (x : Int32) : BI g (Rel g) mt_Top_pattern mt_Mod_pattern [.int x] := by
  intro M hR
  obtain ⟨n, bl, ln, dr, al, ru, si, pa, cm, os, dw, nw, pv, gm, tk, pl, bh, va, iw, od, h0, h143, ⟨f1, f2, t1, t2, t3, t4, t5⟩, hL, hA, hF, hS, hO, hU, hC, hX, hz⟩ := hR
  have hO' := hO
  obtain ⟨⟨x1, y1, y2⟩, ⟨x2, v1, v2⟩, po, p2, pz, pt, tz, o2, o3, o4, o5, o6, o7, o8, o9, o10, o11⟩ := hO
  have bad : ∀ {v : Int32}, (v = v) → Rel g (md_m (oP M 1 7 [.ref 2, .int (nI 0)]) (nI 0) (nI bl) (nI ln) (nI dr) (nI al) (nI ru) pv (nI si) (nI pa) (nI cm) (nI os) gm tk pl bh va iw od) := fun _ => Rel.textOf h0 hL hA hF hS hO' hU hC hX hz (fun j a b c d => ax_ne c (ax_ne a rfl)) rfl ⟨_, _, rfl, t2, t3, by omega, fun j hj => absurd hj (Nat.not_lt_zero j)⟩
  have nb : ∀ i, i < 10 → x = nI i → ¬ (x < 0 ∨ nI 10 ≤ x) := fun i hi e q => in_no q (in_bi hi (by omega) e)
  refine c_pattern (h := 7) (b := f2) h0 t1 t2 t4 (fun j hj => (t5 j hj).1) v1 v2 o3 o9 (fun q => ?_) (fun i r a1 a2 a3 a4 => ?_) (fun i a1 a2 a3 a4 => ?_) (fun i a1 a2 a3 a4 => ?_)
  · exact ⟨_, rfl, ⟨_, h143⟩, d_pattern (h := 9) (M := oP M 1 7 [.ref 2, .int (nI 0)]) h143 t3 t4 o6 o7 o8 o9 (fun _ => ⟨rfl, bad (v := 0) rfl⟩) (fun i r a1 a2 a3 a4 => absurd q (nb i a1 a2)) (fun i a1 a2 a3 _ => absurd q (nb i a1 a2)) (fun i a1 a2 a3 _ => absurd q (nb i a1 a2))⟩
  · refine ⟨_, rfl, ⟨_, h143⟩, d_pattern (h := 9) (M := oP M 1 7 [.ref 2, .int (nI 0)]) h143 t3 t4 o6 o7 o8 o9 (fun q => absurd q (nb i a1 a2)) (fun i' r' b1 b2 b3 b4 => ?_) (fun i' b1 b2 b3 _ => absurd (ft_u a3 b3) a4) (fun i' b1 b2 b3 _ => absurd (ft_u a3 b3) a4)⟩
    rw [ft_u b3 a3]
    exact ⟨rfl, bad (v := 0) rfl⟩
  · exact ⟨_, rfl, ⟨_, h143⟩, d_pattern (h := 9) (M := oP M 1 7 [.ref 2, .int (nI 0)]) h143 t3 t4 o6 o7 o8 o9 (fun q => absurd q (nb i a1 a2)) (fun i' r' b1 b2 b3 b4 => absurd (ft_u b3 a3) b4) (fun i' b1 b2 b3 _ => ⟨rfl, bad (v := 0) rfl⟩) (fun i' b1 b2 b3 _ => by omega)⟩
  · obtain ⟨n0, f0, k0, s0, q1, q2⟩ := o11 pa a4
    refine ⟨n0, f0, k0, s0, q1, fun k s hps => ?_⟩
    have n24 := ft_24 a3
    have n1 : 1 ≤ n := by
      rcases a3 with ⟨j, b1, b2, b3, b4, b5⟩ | ⟨⟨b1, b2⟩, b3⟩
      · omega
      · by_cases z : n = 0
        · subst z
          rw [if_pos ⟨rfl, Or.inr rfl⟩] at b3
          exact absurd b3.symm (nn_m1 (by omega))
        · omega
    generalize hW : oP (oP (iP (pp_m M (111 + 4 * pa) n (rw_ap f0 0 f1 0 n) k s) 77 8 (upd po pa x)) 0 11 (tp_f dw nw (nI bl) (nI (pa + 1)))) 1 7 [.ref 2, .int (nI 0)] = W
    have k1 : ∀ j, ¬ (j = 0 ∨ j = 1 ∨ j = 77 ∨ (111 + 4 * pa ≤ j ∧ j ≤ 114 + 4 * pa)) → W.2 j = M.2 j := by
      intro j hj
      rw [← hW]
      exact ax_ne (by omega) (ax_ne (by omega) (ax_ne (by omega) (ax_ne (by omega) (ax_ne (by omega) (ax_ne (by omega) (ax_ne (by omega) rfl))))))
    have k2 : ∀ j, 111 + 4 * pa ≤ j ∧ j ≤ 114 + 4 * pa → W.2 j = (pp_m M (111 + 4 * pa) n (rw_ap f0 0 f1 0 n) k s).2 j := by
      intro j hj
      rw [← hW]
      exact ax_ne (by omega) (ax_ne (by omega) (ax_ne (by omega) rfl))
    have w0 : oC W 0 11 (tp_f dw nw (nI bl) (nI (pa + 1))) := by rw [← hW]; exact ax_ne (by omega) ax_eq
    have w1 : oC W 1 7 [.ref 2, .int (nI 0)] := by rw [← hW]; exact ax_eq
    have w77 : iA W 77 8 (upd po pa x) := by rw [← hW]; exact ax_ne (by omega) (ax_ne (by omega) ax_eq)
    refine ⟨_, rfl, ⟨_, (k1 143 (by omega)).trans h143⟩, d_pattern (h := 9) (M := W) ((k1 143 (by omega)).trans h143) ((k1 144 (by omega)).trans t3) t4 ((k1 175 (by omega)).trans o6) ((k1 176 (by omega)).trans o7) ((k1 177 (by omega)).trans o8) o9 (fun q => absurd q (nb i a1 a2)) (fun i' r' b1 b2 b3 b4 => absurd (ft_u b3 a3) b4) (fun i' b1 b2 b3 _ => by omega) (fun i' b1 b2 b3 _ => ?_)⟩
    refine ⟨rfl, ?_⟩
    generalize hN : iP (iP (iP (md_m W (nI 0) (nI bl) (nI ln) (nI dr) (nI al) (nI ru) pv (nI si) (nI (pa + 1)) (nI cm) (nI os) gm tk pl bh va iw od) 175 192 (pu_ pt f2 pa n)) 176 8 (upd tz pa (nI n))) 177 8 (upd o2 pa x) = N
    have kw : ∀ j, ¬ (j = 143 ∨ j = 175 ∨ j = 176 ∨ j = 177) → N.2 j = W.2 j := by
      intro j hj
      rw [← hN]
      exact ax_ne (by omega) (ax_ne (by omega) (ax_ne (by omega) (ax_ne (by omega) rfl)))
    have key : ∀ j, ¬ (j = 0 ∨ j = 1 ∨ j = 77 ∨ (111 + 4 * pa ≤ j ∧ j ≤ 114 + 4 * pa) ∨ j = 143 ∨ j = 175 ∨ j = 176 ∨ j = 177) → N.2 j = M.2 j := fun j hj => (kw j (by omega)).trans (k1 j (by omega))
    have kp : ∀ j, 111 + 4 * pa ≤ j ∧ j ≤ 114 + 4 * pa → N.2 j = (pp_m M (111 + 4 * pa) n (rw_ap f0 0 f1 0 n) k s).2 j := fun j hj => (kw j (by omega)).trans (k2 j hj)
    have z143 : oC N 143 12 (md_f (nI 0) (nI bl) (nI ln) (nI dr) (nI al) (nI ru) pv (nI si) (nI (pa + 1)) (nI cm) (nI os) gm tk pl bh va iw od) := by rw [← hN]; exact ax_ne (by omega) (ax_ne (by omega) (ax_ne (by omega) ax_eq))
    have z175 : iA N 175 192 (pu_ pt f2 pa n) := by rw [← hN]; exact ax_ne (by omega) (ax_ne (by omega) ax_eq)
    have z176 : iA N 176 8 (upd tz pa (nI n)) := by rw [← hN]; exact ax_ne (by omega) ax_eq
    have z177 : iA N 177 8 (upd o2 pa x) := by rw [← hN]; exact ax_eq
    refine ⟨0, bl, ln, dr, al, ru, si, pa + 1, cm, os, dw, nw, pv, gm, tk, pl, bh, va, iw, od, (kw 0 (by omega)).trans w0, z143, ⟨f1, f2, (kw 1 (by omega)).trans w1, (key 2 (by omega)).trans t2, (key 144 (by omega)).trans t3, by omega, fun j hj => absurd hj (Nat.not_lt_zero j)⟩, hL.mv ?_, hA.mv ?_, hF.mv ?_, hS.mv ?_, ⟨⟨x1, (key _ (by omega)).trans y1, y2⟩, ⟨x2, (key _ (by omega)).trans v1, v2⟩, _, p2, pz, _, _, _, (kw _ (by omega)).trans w77, (key _ (by omega)).trans o4, (key _ (by omega)).trans o5, z175, z176, z177, by omega, fun j hj => ?_, fun j hj => ?_⟩, hU.mv ?_, hC.mv ?_, hX.mv ?_, hz⟩
    case refine_5 =>
      obtain ⟨m0, g0, l0, u0, w1, w2⟩ := o10 j hj
      exact ⟨m0, g0, l0, u0, ⟨(key _ (by omega)).trans w1.1, (key _ (by omega)).trans w1.2.1, (key _ (by omega)).trans w1.2.2.1, (key _ (by omega)).trans w1.2.2.2.1, w1.2.2.2.2⟩, w2⟩
    case refine_6 =>
      by_cases e : j = pa
      · subst e
        refine ⟨n, rw_ap f0 0 f1 0 n, k, s, ⟨(kp _ (by omega)).trans ax_eq, (kp _ (by omega)).trans (ax_ne (by omega) (ax_ne (by omega) ax_eq)), (kp _ (by omega)).trans (ax_ne (by omega) (ax_ne (by omega) (ax_ne (by omega) ax_eq))), (kp _ (by omega)).trans (ax_ne (by omega) ax_eq), n24⟩, fun _ => ⟨⟨hps, vp_of a3 (fun c hc => (by_cp (f0 := f0) t5 c hc).1)⟩, n1, ?_, fun c hc => ?_, ?_, i, a1, ?_⟩⟩
        · unfold upd
          rw [if_pos rfl]
        · have q := by_cp (f0 := f0) t5 c hc
          have e2 : pu_ pt f2 j n (24 * j + c) = f2 c := by
            unfold pu_
            rw [if_pos (by omega), show 24 * j + c - 24 * j = c by omega]
          show rw_ap f0 0 f1 0 n c &&& 255 = pu_ pt f2 j n (24 * j + c) ∧ ∃ d, d < 256 ∧ pu_ pt f2 j n (24 * j + c) = nI d
          rw [e2]
          exact q
        · unfold upd
          rw [if_pos rfl, if_pos rfl]
        · unfold upd
          rw [if_pos rfl]
          exact a2
      · obtain ⟨m0, g0, l0, u0, w1, w2⟩ := o11 j hj
        refine ⟨m0, g0, l0, u0, ⟨(key _ (by omega)).trans w1.1, (key _ (by omega)).trans w1.2.1, (key _ (by omega)).trans w1.2.2.1, (key _ (by omega)).trans w1.2.2.2.1, w1.2.2.2.2⟩, fun hj2 => ?_⟩
        obtain ⟨b1, b2, b3, b4, b5, b6⟩ := w2 (by omega)
        have hm := w1.2.2.2.2
        refine ⟨b1, b2, ?_, fun c hc => ?_, ?_, ?_⟩
        · unfold upd
          rw [if_neg e]
          exact b3
        · have e2 : pu_ pt f2 pa n (24 * j + c) = pt (24 * j + c) := by
            unfold pu_
            rw [if_neg (by omega)]
          show g0 c &&& 255 = pu_ pt f2 pa n (24 * j + c) ∧ ∃ d, d < 256 ∧ pu_ pt f2 pa n (24 * j + c) = nI d
          rw [e2]
          exact b4 c hc
        · unfold upd
          rw [if_neg e, if_neg e]
          exact b5
        · unfold upd
          rw [if_neg e]
          exact b6
    all_goals exact fun k hk => key k (by omega)
