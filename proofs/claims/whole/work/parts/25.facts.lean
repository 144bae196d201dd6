/-! Facts: cell 16, its rows 17 to 21 -/
abbrev fa_f (gc ru pv : Int32) : List Value := [.ref 17, .ref 18, .int gc, .int ru, .ref 19, .ref 20, .ref 21, .int pv]
/-- one round over the first n rules: sets and heads as bits -/
def ap_ (rs rh : Nat → Int32) : Nat → Int32 → Int32
  | 0, x => x
  | n + 1, x => if cz (rs n) (ap_ rs rh n x) then ap_ rs rh n x ||| rh n else ap_ rs rh n x
/-- rounds, till one changes nothing -/
def kw_ (f : Int32 → Int32) : Nat → Int32 → Int32
  | 0, x => x
  | d + 1, x => if f x = x then x else kw_ f d (f x)
section FACTS
variable {g : ax_Y} {M : ax_M} {Q : Option Value → ax_M → Prop} {h ru : Nat} {gc pv : Int32} {rs rh : Nat → Int32}
theorem m_Facts_addRule {x : Int32} {f : Nat} (h_this : oC M 16 1 (fa_f gc (nI ru) pv)) (h_ruleSet : iA M 19 20 rs) (h_ruleHead : iA M 20 20 rh) (hn : ru < 20) (hq : Q none (oP (iP (iP M 19 20 (upd rs ru x)) 20 20 (upd rh ru ((1 : Int32) <<< (nI f &&& 31)))) 16 1 (fa_f gc (nI (ru + 1)) pv))) : ax_G g mt_Facts_addRule h 0 0 0 [.ref 16, .int x, .int (nI f)] [] M Q := by
  refine s_aload_n 1 rfl rfl rfl ?_
  refine s_getfield 1 3 4 rfl rfl fl_Facts_28 h_this rfl ?_
  refine s_bipush 20 6 rfl rfl (by decide) ?_
  refine s_icmp_ge 41 9 rfl rfl (by decide) (fun c1 => ?_) (fun c1 => ?_)
  -- Facts_addRule 9: branch 41 9
  · exact absurd (nn_le (a := 20) c1) (by omega)
  · refine s_aload_n 10 rfl rfl rfl ?_
    refine s_getfield 1 4 13 rfl rfl fl_Facts_19 h_this rfl ?_
    refine s_aload_n 14 rfl rfl rfl ?_
    refine s_getfield 1 3 17 rfl rfl fl_Facts_28 h_this rfl ?_
    refine s_iload_n 18 rfl rfl rfl ?_
    refine s_iastore (ru) 19 rfl rfl h_ruleSet rfl (by omega) (by decide) ?_
    refine s_aload_n 20 rfl rfl rfl ?_
    refine s_getfield 1 5 23 rfl rfl fl_Facts_22 h_this rfl ?_
    refine s_aload_n 24 rfl rfl rfl ?_
    refine s_getfield 1 3 27 rfl rfl fl_Facts_28 h_this rfl ?_
    refine s_iconst 1 28 rfl rfl (by decide) ?_
    refine s_iload_n 29 rfl rfl rfl ?_
    refine s_ishl 30 rfl rfl ?_
    refine s_iastore (ru) 31 rfl rfl h_ruleHead rfl (by omega) (by decide) ?_
    refine s_aload_n 32 rfl rfl rfl ?_
    refine s_dup 33 rfl rfl rfl ?_
    refine s_getfield 1 3 36 rfl rfl fl_Facts_28 h_this rfl ?_
    refine s_iconst 1 37 rfl rfl (by decide) ?_
    refine s_iadd 38 rfl rfl ?_
    refine s_putfield 1 3 (.int) 41 rfl rfl fp_Facts_28 h_this (Nat.le_of_ble_eq_true rfl) ⟨rfl, rfl⟩ (fun h => absurd h (by decide)) ?_
    -- Facts_addRule 41: return_
    rw [nI_1]
    exact s_return rfl rfl (hq)
theorem m_Facts_setProved {x b : Int32} (h_this : oC M 16 1 (fa_f gc (nI ru) pv)) (hq : Q none (oP M 16 1 (fa_f gc (nI ru) (if b = 0 then pv &&& (x ^^^ -1) else pv ||| x)))) : ax_G g mt_Facts_setProved h 0 0 0 [.ref 16, .int x, .int b] [] M Q := by
  refine s_aload_n 1 rfl rfl rfl ?_
  refine s_iload_n 2 rfl rfl rfl ?_
  refine s_if_eq 14 5 rfl rfl (by decide) (fun c1 => ?_) (fun c1 => ?_)
  -- Facts_setProved 5: branch 14 5
  · rw [if_pos c1] at hq
    refine s_aload_n 15 rfl rfl rfl ?_
    refine s_getfield 1 7 18 rfl rfl fl_Facts_32 h_this rfl ?_
    refine s_iload_n 19 rfl rfl rfl ?_
    refine s_iconst (-1) 20 rfl rfl (by decide) ?_
    refine s_ixor 21 rfl rfl ?_
    refine s_iand 22 rfl rfl ?_
    refine s_putfield 1 7 (.int) 25 rfl rfl fp_Facts_32 h_this (Nat.le_of_ble_eq_true rfl) ⟨rfl, rfl⟩ (fun h => absurd h (by decide)) ?_
    -- Facts_setProved 25: return_
    exact s_return rfl rfl (hq)
  · rw [if_neg c1] at hq
    refine s_aload_n 6 rfl rfl rfl ?_
    refine s_getfield 1 7 9 rfl rfl fl_Facts_32 h_this rfl ?_
    refine s_iload_n 10 rfl rfl rfl ?_
    refine s_ior 11 rfl rfl ?_
    refine s_goto 22 rfl (by decide) ?_
    refine s_putfield 1 7 (.int) 25 rfl rfl fp_Facts_32 h_this (Nat.le_of_ble_eq_true rfl) ⟨rfl, rfl⟩ (fun h => absurd h (by decide)) ?_
    -- Facts_setProved 25: return_
    exact s_return rfl rfl (hq)
theorem m_Facts_applied {x : Int32} (h_this : oC M 16 1 (fa_f gc (nI ru) pv)) (h_ruleSet : iA M 19 20 rs) (h_ruleHead : iA M 20 20 rh) (hn : ru ≤ 20) (hq : Q (some (.int (ap_ rs rh ru x))) M) : ax_G g mt_Facts_applied h 0 0 0 [.ref 16, .int x, .float 0, .float 0] [] M Q := by
  refine s_iload_n 1 rfl rfl rfl ?_
  refine s_ist2 2 rfl rfl rfl ?_
  refine s_iconst 0 3 rfl rfl (by decide) ?_
  refine s_ist3 4 rfl rfl rfl ?_
  -- Facts_applied 4: end
  have loop : ∀ (d i : Nat), i + d = ru → ax_G g mt_Facts_applied h 0 0 4 [.ref 16, .int x, .int (ap_ rs rh i x), .int (nI i)] [] M Q := by
    intro d
    induction d with
    | zero =>
      intro i hi
      obtain rfl : i = ru := by omega
      refine s_iload_n 5 rfl rfl rfl ?_
      refine s_aload_n 6 rfl rfl rfl ?_
      refine s_getfield 1 3 9 rfl rfl fl_Facts_28 h_this rfl ?_
      refine s_icmp_ge 40 12 rfl rfl (by decide) (fun c1 => ?_) (fun c1 => ?_)
      -- Facts_applied 12: branch 40 12
      · refine s_iload_n 41 rfl rfl rfl ?_
        -- Facts_applied 41: ireturn
        exact s_ireturn rfl .int rfl rfl (hq)
      · exact absurd (nn_nle c1) (by omega)
    | succ d ih =>
      intro i hi
      have nx := ih (i + 1) (by omega)
      rw [ap_] at nx
      refine s_iload_n 5 rfl rfl rfl ?_
      refine s_aload_n 6 rfl rfl rfl ?_
      refine s_getfield 1 3 9 rfl rfl fl_Facts_28 h_this rfl ?_
      refine s_icmp_ge 40 12 rfl rfl (by decide) (fun c2 => ?_) (fun c2 => ?_)
      -- Facts_applied 12: branch 40 12
      · exact absurd (nn_le c2) (by omega)
      · refine s_aload_n 13 rfl rfl rfl ?_
        refine s_getfield 1 4 16 rfl rfl fl_Facts_19 h_this rfl ?_
        refine s_iload_n 17 rfl rfl rfl ?_
        refine s_iaload (i) 18 rfl rfl h_ruleSet rfl (by omega) (by decide) ?_
        refine s_iload_n 19 rfl rfl rfl ?_
        refine s_iconst (-1) 20 rfl rfl (by decide) ?_
        refine s_ixor 21 rfl rfl ?_
        refine s_iand 22 rfl rfl ?_
        refine s_if_ne 34 25 rfl rfl (by decide) (fun c3 => ?_) (fun c3 => ?_)
        -- Facts_applied 25: branch 34 25
        · rw [if_neg (cz_f c3)] at nx
          refine s_inc3 _ 37 rfl rfl rfl rfl ?_
          refine s_goto 4 rfl (by decide) ?_
          -- Facts_applied 4: end
          rw [inc1]
          exact nx
        · rw [if_pos (cz_t c3)] at nx
          refine s_iload_n 26 rfl rfl rfl ?_
          refine s_aload_n 27 rfl rfl rfl ?_
          refine s_getfield 1 5 30 rfl rfl fl_Facts_22 h_this rfl ?_
          refine s_iload_n 31 rfl rfl rfl ?_
          refine s_iaload (i) 32 rfl rfl h_ruleHead rfl (by omega) (by decide) ?_
          refine s_ior 33 rfl rfl ?_
          refine s_ist2 34 rfl rfl rfl ?_
          refine s_inc3 _ 37 rfl rfl rfl rfl ?_
          refine s_goto 4 rfl (by decide) ?_
          -- Facts_applied 4: end
          rw [inc1]
          exact nx
  exact loop ru 0 (by omega)
theorem m_Facts_knownWith {x : Int32} (h_this : oC M 16 1 (fa_f gc (nI ru) pv)) (h_ruleSet : iA M 19 20 rs) (h_ruleHead : iA M 20 20 rh) (hn : ru ≤ 20) (hq : Q (some (.int (kw_ (ap_ rs rh ru) 16 (pv ||| x)))) M) : ax_G g mt_Facts_knownWith (h + 1) 0 0 0 [.ref 16, .int x, .float 0, .float 0, .float 0] [] M Q := by
  refine s_aload_n 1 rfl rfl rfl ?_
  refine s_getfield 1 7 4 rfl rfl fl_Facts_32 h_this rfl ?_
  refine s_iload_n 5 rfl rfl rfl ?_
  refine s_ior 6 rfl rfl ?_
  refine s_ist2 7 rfl rfl rfl ?_
  refine s_iconst 0 8 rfl rfl (by decide) ?_
  refine s_ist3 9 rfl rfl rfl ?_
  -- Facts_knownWith 9: end
  have loop : ∀ (d i : Nat) (y : Int32) (z : Value), z.category = 1 → i + d = 16 → Q (some (.int (kw_ (ap_ rs rh ru) d y))) M → ax_G g mt_Facts_knownWith (h + 1) 0 0 9 [.ref 16, .int x, .int y, .int (nI i), z] [] M Q := by
    intro d
    induction d with
    | zero =>
      intro i y z _ hi hq
      refine s_iload_n 10 rfl rfl rfl ?_
      refine s_bipush 16 12 rfl rfl (by decide) ?_
      refine s_icmp_ge 40 15 rfl rfl (by decide) (fun c1 => ?_) (fun c1 => ?_)
      -- Facts_knownWith 15: branch 40 15
      · refine s_iload_n 41 rfl rfl rfl ?_
        -- Facts_knownWith 41: ireturn
        exact s_ireturn rfl .int rfl rfl (hq)
      · exact absurd (nn_nle (a := 16) c1) (by omega)
    | succ d ih =>
      intro i y z _ hi hq
      rw [kw_] at hq
      refine s_iload_n 10 rfl rfl rfl ?_
      refine s_bipush 16 12 rfl rfl (by decide) ?_
      refine s_icmp_ge 40 15 rfl rfl (by decide) (fun c2 => ?_) (fun c2 => ?_)
      -- Facts_knownWith 15: branch 40 15
      · exact absurd (nn_le (a := 16) c2) (by omega)
      · refine s_aload_n 16 rfl rfl rfl ?_
        refine s_iload_n 17 rfl rfl rfl ?_
        refine c_callV1 h 20 rfl rfl mv_Facts_35 (by omega) (Nat.le_of_ble_eq_true rfl) (Nat.le_of_ble_eq_true rfl) h_this rfl rfl ?_
        -- Facts_knownWith 20: call Facts_applied
        refine m_Facts_applied h_this h_ruleSet h_ruleHead hn ?_
        dsimp only [ax_rs]
        refine s_ist4 22 rfl rfl rfl ?_
        refine s_iload 24 rfl rfl rfl ?_
        refine s_iload_n 25 rfl rfl rfl ?_
        refine s_icmp_ne 31 28 rfl rfl (by decide) (fun c3 => ?_) (fun c3 => ?_)
        -- Facts_knownWith 28: branch 31 28
        · rw [if_neg c3] at hq
          refine s_iload 33 rfl rfl rfl ?_
          refine s_ist2 34 rfl rfl rfl ?_
          refine s_inc3 _ 37 rfl rfl rfl rfl ?_
          refine s_goto 9 rfl (by decide) ?_
          -- Facts_knownWith 9: end
          rw [inc1]
          exact ih (i + 1) _ _ rfl (by omega) hq
        · rw [if_pos c3] at hq
          refine s_goto 40 rfl (by decide) ?_
          refine s_iload_n 41 rfl rfl rfl ?_
          -- Facts_knownWith 41: ireturn
          exact s_ireturn rfl .int rfl rfl (hq)
  exact loop 16 0 _ _ rfl (by omega) hq
end FACTS
