/-! rule, prove, known, closes -/
theorem b_nI (c : Nat) {i : Nat} (hi : i < 32) : bt (nI c) i = c.testBit i := by
  show (BitVec.ofNat 32 c).getLsbD i = _
  rw [BitVec.getLsbD_ofNat]
  simp [hi]
theorem lo_nI {c : Nat} (hc : c < 65536) : lo_ (nI c) := by
  intro i h1 h2
  rw [b_nI c h2]
  exact Nat.testBit_lt_two_pow (Nat.lt_of_lt_of_le hc (Nat.pow_le_pow_right (n := 2) (by decide) h1))
theorem lo_one {f : Nat} (hf : f < 16) : lo_ ((1 : Int32) <<< (nI f &&& 31)) := by
  intro i h1 h2
  rw [b_one f (by omega) h2]
  simp
  omega
theorem lo_or {x y : Int32} (hx : lo_ x) (hy : lo_ y) : lo_ (x ||| y) := by
  intro i h1 h2
  rw [b_or, hx i h1 h2, hy i h1 h2]
  rfl
theorem lo_and {x y : Int32} (hx : lo_ x) : lo_ (x &&& y) := by
  intro i h1 h2
  rw [b_and, hx i h1 h2]
  rfl
theorem b_65535 : ∀ i, i < 32 → bt 65535 i = decide (i < 16) := by decide +kernel
theorem lo_ex {x : Int32} (hx : lo_ x) : ∃ c, c < 65536 ∧ x = nI c := by
  have e : x = x &&& 65535 := by
    refine b_ext (fun i hi => ?_)
    rw [b_and, b_65535 i hi]
    rcases Nat.lt_or_ge i 16 with q | q
    · simp [q]
    · rw [hx i q hi]; rfl
  obtain ⟨c, hc, h⟩ := pk_andE x (m := 65535) 16 (by decide)
  exact ⟨c, hc, e.trans h⟩
/-- what is known, both ways -/
theorem kn_eq {rs rh s2 h2 : Nat → Int32} {ru : Nat} (hr : ∀ i, i < ru → s2 i = rs i ∧ (∃ c, c < 65536 ∧ rs i = nI c) ∧ ∃ f, f < 16 ∧ h2 i = nI f ∧ rh i = (1 : Int32) <<< (nI f &&& 31)) {x : Int32} (hx : lo_ x) : kw_ (ap_ s2 (fun i => (1 : Int32) <<< (h2 i &&& 31)) ru) 33 x = kw_ (ap_ rs rh ru) 16 x := by
  have e : ap_ s2 (fun i => (1 : Int32) <<< (h2 i &&& 31)) ru = ap_ rs rh ru := by
    funext y
    refine ap_cg ru (fun i hi => ?_) y
    obtain ⟨a, -, f, -, b, c⟩ := hr i hi
    exact ⟨a, by rw [b, c]⟩
  rw [e]
  refine kw_fix (ap_up rs rh ru) (ap_lo ru (fun i hi => ?_)) 33 16 x hx (by omega) (by omega)
  obtain ⟨-, -, f, hf, -, c⟩ := hr i hi
  rw [c]
  exact lo_one hf
/-- what is known is of low bits -/
theorem kn_lo {rs rh : Nat → Int32} {ru : Nat} (hr : ∀ i, i < ru → lo_ (rh i)) : ∀ (d : Nat) {x : Int32}, lo_ x → lo_ (kw_ (ap_ rs rh ru) d x) := by
  intro d
  induction d with
  | zero => intro x h; exact h
  | succ d ih =>
    intro x h
    rw [kw_]
    split
    · exact h
    · exact ih (ap_lo ru hr x h)
theorem or0 (x : Int32) : x ||| 0 = x := by
  refine b_ext (fun i _ => ?_)
  rw [b_or, b_0]
  simp
section F2
variable {g : ax_Y} {M : ax_M} {Q : Option Value → ax_M → Prop} {h ru : Nat} {n bl ln dr al pv si pa cm os gm tk pl bh : Int32} {va : Int64} {iw od : Int32} {rs rh : Nat → Int32} {dw nw : Nat} {gc : Int32}
theorem c_rule {x y : Int32} (h_this : oC M 0 11 (tp_f dw nw bl pa)) (h_facts : oC M 16 1 (fa_f gc (nI ru) pv)) (h_ruleSet : iA M 19 20 rs) (h_ruleHead : iA M 20 20 rh) (hn : ru ≤ 20) (h1 : ((x < 0 ∨ nI 65536 ≤ x) ∨ (y < 0 ∨ nI 16 ≤ y)) → Q (some (.int (-2))) M) (h2 : ∀ c f, c < 65536 → x = nI c → f < 16 → y = nI f → ru = 20 → Q (some (.int (-4))) M) (h3 : ∀ c f, c < 65536 → x = nI c → f < 16 → y = nI f → ru < 20 → Q (some (.int (nI (ru + 1)))) (oP (iP (iP M 19 20 (upd rs ru x)) 20 20 (upd rh ru ((1 : Int32) <<< (nI f &&& 31)))) 16 1 (fa_f gc (nI (ru + 1)) pv))) : ax_G g mt_Top_rule (h + 1) 0 0 0 [.ref 0, .int x, .int y] [] M Q := by
  refine s_iload_n 1 rfl rfl rfl ?_
  refine c_callS1 h 4 rfl rfl mv_Top_138 (by omega) (Nat.le_of_ble_eq_true rfl) (Nat.le_of_ble_eq_true rfl) ?_
  -- Top_rule 4: call Top_isSet
  refine m_Top_isSet ?_
  dsimp only [ax_rs]
  rcases in_or (x := x) (n := 65536) (by omega) with ⟨c, hc, rfl⟩ | c
  · rw [bi_t (in_bi hc (by omega) rfl)]
    refine s_if_eq 14 7 rfl rfl (by decide) (fun c1 => ?_) (fun c1 => ?_)
    -- Top_rule 7: branch 14 7
    · exact absurd c1 (by decide)
    · refine s_iload_n 8 rfl rfl rfl ?_
      refine c_callS1 h 11 rfl rfl mv_Top_195 (by omega) (Nat.le_of_ble_eq_true rfl) (Nat.le_of_ble_eq_true rfl) ?_
      -- Top_rule 11: call Top_isFact
      refine m_Top_isFact ?_
      dsimp only [ax_rs]
      rcases in_or (x := y) (n := 16) (by omega) with ⟨f, hf, rfl⟩ | c
      · rw [bi_t (in_bi hf (by omega) rfl)]
        refine s_if_ne 17 14 rfl rfl (by decide) (fun c2 => ?_) (fun c2 => ?_)
        -- Top_rule 14: branch 17 14
        · refine s_aload_n 18 rfl rfl rfl ?_
          refine s_getfield 11 4 21 rfl rfl fl_Top_38 h_this rfl ?_
          refine s_getfield 1 3 24 rfl rfl fl_Top_198 h_facts rfl ?_
          refine s_bipush 20 26 rfl rfl (by decide) ?_
          refine s_icmp_lt 32 29 rfl rfl (by decide) (fun c3 => ?_) (fun c3 => ?_)
          -- Top_rule 29: branch 32 29
          · have hru := nn_lt (b := 20) c3
            refine s_aload_n 33 rfl rfl rfl ?_
            refine s_getfield 11 4 36 rfl rfl fl_Top_38 h_this rfl ?_
            refine s_iload_n 37 rfl rfl rfl ?_
            refine s_iload_n 38 rfl rfl rfl ?_
            refine c_callV2 h 41 rfl rfl mv_Top_201 (by omega) (Nat.le_of_ble_eq_true rfl) (Nat.le_of_ble_eq_true rfl) h_facts rfl rfl ?_
            -- Top_rule 41: call Facts_addRule
            refine m_Facts_addRule h_facts h_ruleSet h_ruleHead hru ?_
            dsimp only [ax_rs]
            refine s_aload_n 42 rfl rfl rfl ?_
            refine s_getfield 11 4 45 rfl rfl fl_Top_38 h_this rfl ?_
            refine s_getfield 1 3 48 rfl rfl fl_Top_198 rfl rfl ?_
            -- Top_rule 48: ireturn
            exact s_ireturn rfl .int rfl rfl (h3 c f hc rfl hf rfl hru)
          · refine s_bipush (-4) 31 rfl rfl (by decide) ?_
            -- Top_rule 31: ireturn
            exact s_ireturn rfl .int rfl rfl (h2 c f hc rfl hf rfl (by have := nn_nlt (b := 20) c3; omega))
        · exact absurd c2 (by decide)
      · rw [bi_f (in_no c)]
        refine s_if_ne 17 14 rfl rfl (by decide) (fun c4 => ?_) (fun c4 => ?_)
        -- Top_rule 14: branch 17 14
        · exact absurd rfl c4
        · refine s_bipush (-2) 16 rfl rfl (by decide) ?_
          -- Top_rule 16: ireturn
          exact s_ireturn rfl .int rfl rfl (h1 (Or.inr c))
  · rw [bi_f (in_no c)]
    refine s_if_eq 14 7 rfl rfl (by decide) (fun c5 => ?_) (fun c5 => ?_)
    -- Top_rule 7: branch 14 7
    · refine s_bipush (-2) 16 rfl rfl (by decide) ?_
      -- Top_rule 16: ireturn
      exact s_ireturn rfl .int rfl rfl (h1 (Or.inl c))
    · exact absurd rfl c5
theorem d_rule {x y : Int32} (h_this : oC M 143 12 (md_f n bl ln dr al (nI ru) pv si pa cm os gm tk pl bh va iw od)) (h_ruleSet : iA M 162 20 rs) (h_ruleHead : iA M 163 20 rh) (hn : ru ≤ 20) (h1 : ((x < 0 ∨ nI 65536 ≤ x) ∨ (y < 0 ∨ nI 16 ≤ y)) → Q (some (.int (-2))) M) (h2 : ∀ c f, c < 65536 → x = nI c → f < 16 → y = nI f → ru = 20 → Q (some (.int (-4))) M) (h3 : ∀ c f, c < 65536 → x = nI c → f < 16 → y = nI f → ru < 20 → Q (some (.int (nI (ru + 1)))) (md_m (iP (iP M 162 20 (upd rs ru x)) 163 20 (upd rh ru y)) n bl ln dr al (nI (ru + 1)) pv si pa cm os gm tk pl bh va iw od)) : ax_G g mt_Mod_rule (h + 1) 0 0 0 [.ref 143, .int x, .int y] [] M Q := by
  refine s_iload_n 1 rfl rfl rfl ?_
  refine s_i2l 2 rfl rfl ?_
  refine s_lconst 0 3 rfl rfl (by decide) ?_
  refine s_ldc2_w 65535 6 rfl rfl kl_Mod_174 ?_
  refine c_callS3 h 9 rfl rfl mv_Mod_134 (by omega) (Nat.le_of_ble_eq_true rfl) (Nat.le_of_ble_eq_true rfl) ?_
  -- Mod_rule 9: call Mod_in
  refine m_Mod_inI (lo := 0) (hi := nI 65536 - 1) (by decide) (by decide) ?_
  dsimp only [ax_rs]
  rcases in_or (x := x) (n := 65536) (by omega) with ⟨c, hc, rfl⟩ | c
  · rw [bi_t (in_le (n := 65536) hc (by omega) rfl)]
    refine s_if_eq 24 12 rfl rfl (by decide) (fun c1 => ?_) (fun c1 => ?_)
    -- Mod_rule 12: branch 24 12
    · exact absurd c1 (by decide)
    · refine s_iload_n 13 rfl rfl rfl ?_
      refine s_i2l 14 rfl rfl ?_
      refine s_lconst 0 15 rfl rfl (by decide) ?_
      refine s_ldc2_w 15 18 rfl rfl kl_Mod_201 ?_
      refine c_callS3 h 21 rfl rfl mv_Mod_134 (by omega) (Nat.le_of_ble_eq_true rfl) (Nat.le_of_ble_eq_true rfl) ?_
      -- Mod_rule 21: call Mod_in
      refine m_Mod_inI (lo := 0) (hi := nI 16 - 1) (by decide) (by decide) ?_
      dsimp only [ax_rs]
      rcases in_or (x := y) (n := 16) (by omega) with ⟨f, hf, rfl⟩ | c
      · rw [bi_t (in_le (n := 16) hf (by omega) rfl)]
        refine s_if_ne 27 24 rfl rfl (by decide) (fun c2 => ?_) (fun c2 => ?_)
        -- Mod_rule 24: branch 27 24
        · refine s_aload_n 28 rfl rfl rfl ?_
          refine s_getfield 12 23 31 rfl rfl fl_Mod_198 h_this rfl ?_
          refine s_bipush 20 33 rfl rfl (by decide) ?_
          refine s_icmp_ne 39 36 rfl rfl (by decide) (fun c3 => ?_) (fun c3 => ?_)
          -- Mod_rule 36: branch 39 36
          · have hru : ru < 20 := by have := nn_ne (b := 20) c3; omega
            refine s_aload_n 40 rfl rfl rfl ?_
            refine s_getfield 12 24 43 rfl rfl fl_Mod_64 h_this rfl ?_
            refine s_aload_n 44 rfl rfl rfl ?_
            refine s_getfield 12 23 47 rfl rfl fl_Mod_198 h_this rfl ?_
            refine s_iload_n 48 rfl rfl rfl ?_
            refine s_iastore (ru) 49 rfl rfl h_ruleSet rfl (by omega) (by decide) ?_
            refine s_aload_n 50 rfl rfl rfl ?_
            refine s_getfield 12 25 53 rfl rfl fl_Mod_67 h_this rfl ?_
            refine s_aload_n 54 rfl rfl rfl ?_
            refine s_getfield 12 23 57 rfl rfl fl_Mod_198 h_this rfl ?_
            refine s_iload_n 58 rfl rfl rfl ?_
            refine s_iastore (ru) 59 rfl rfl h_ruleHead rfl (by omega) (by decide) ?_
            refine s_aload_n 60 rfl rfl rfl ?_
            refine s_dup 61 rfl rfl rfl ?_
            refine s_getfield 12 23 64 rfl rfl fl_Mod_198 h_this rfl ?_
            refine s_iconst 1 65 rfl rfl (by decide) ?_
            refine s_iadd 66 rfl rfl ?_
            -- Mod_rule 66: end
            rw [nI_1]
            refine s_putfield 12 23 (.int) 69 rfl rfl fp_Mod_198 h_this (Nat.le_of_ble_eq_true rfl) ⟨rfl, rfl⟩ (fun h => absurd h (by decide)) ?_
            refine s_aload_n 70 rfl rfl rfl ?_
            refine s_getfield 12 23 73 rfl rfl fl_Mod_198 rfl rfl ?_
            -- Mod_rule 73: ireturn
            exact s_ireturn rfl .int rfl rfl (h3 c f hc rfl hf rfl hru)
          · refine s_bipush (-4) 38 rfl rfl (by decide) ?_
            -- Mod_rule 38: ireturn
            exact s_ireturn rfl .int rfl rfl (h2 c f hc rfl hf rfl (nn_eq (b := 20) c3))
        · exact absurd c2 (by decide)
      · rw [bi_f (in_nle (n := 16) (by omega) c)]
        refine s_if_ne 27 24 rfl rfl (by decide) (fun c4 => ?_) (fun c4 => ?_)
        -- Mod_rule 24: branch 27 24
        · exact absurd rfl c4
        · refine s_bipush (-2) 26 rfl rfl (by decide) ?_
          -- Mod_rule 26: ireturn
          exact s_ireturn rfl .int rfl rfl (h1 (Or.inr c))
  · rw [bi_f (in_nle (n := 65536) (by omega) c)]
    refine s_if_eq 24 12 rfl rfl (by decide) (fun c5 => ?_) (fun c5 => ?_)
    -- Mod_rule 12: branch 24 12
    · refine s_bipush (-2) 26 rfl rfl (by decide) ?_
      -- Mod_rule 26: ireturn
      exact s_ireturn rfl .int rfl rfl (h1 (Or.inl c))
    · exact absurd rfl c5
theorem both_rule (x y : Int32) : BI g (Rel g) mt_Top_rule mt_Mod_rule [.int x, .int y] := by
  intro M hR
  have hR' := hR
  obtain ⟨n, bl, ln, dr, al, ru, si, pa, cm, os, dw, nw, pv, gm, tk, pl, bh, va, iw, od, h0, h143, hT, hL, hA, ⟨gc, rs, rh, s2, h2, gf, gs, ts, f1, f2, f3, f4, f5, f6, f7, f8, f9, f10, f11⟩, hS, hO, hU, hC, hX, hz⟩ := hR
  have ex1 : ∀ c f, c < 65536 → x = nI c → f < 16 → y = nI f → ¬ ((x < 0 ∨ nI 65536 ≤ x) ∨ (y < 0 ∨ nI 16 ≤ y)) := by
    intro c f a1 a2 a3 a4 q
    rcases q with q | q
    · exact in_no (n := 65536) q (in_bi a1 (by omega) a2)
    · exact in_no q (in_bi a3 (by omega) a4)
  refine c_rule (h := 10) h0 f1 f4 f5 f9 (fun q => ?_) (fun c f a1 a2 a3 a4 a5 => ?_) (fun c f a1 a2 a3 a4 a5 => ?_)
  · exact ⟨_, rfl, ⟨_, h143⟩, d_rule (h := 10) h143 f7 f8 f9 (fun _ => ⟨rfl, hR'⟩) (fun c f a1 a2 a3 a4 _ => absurd q (ex1 c f a1 a2 a3 a4)) (fun c f a1 a2 a3 a4 _ => absurd q (ex1 c f a1 a2 a3 a4))⟩
  · exact ⟨_, rfl, ⟨_, h143⟩, d_rule (h := 10) h143 f7 f8 f9 (fun q => absurd q (ex1 c f a1 a2 a3 a4)) (fun _ _ _ _ _ _ _ => ⟨rfl, hR'⟩) (fun _ _ _ _ _ _ _ => by omega)⟩
  · refine ⟨_, rfl, ⟨_, h143⟩, d_rule (h := 10) (M := oP (iP (iP M 19 20 (upd rs ru x)) 20 20 (upd rh ru ((1 : Int32) <<< (nI f &&& 31)))) 16 1 (fa_f gc (nI (ru + 1)) pv)) h143 f7 f8 f9 (fun q => absurd q (ex1 c f a1 a2 a3 a4)) (fun _ _ _ _ _ _ _ => by omega) (fun c' f' b1 b2 b3 b4 b5 => ⟨rfl, ?_⟩)⟩
    have key : ∀ k, ¬ (k = 16 ∨ k = 19 ∨ k = 20 ∨ k = 143 ∨ k = 162 ∨ k = 163) → (md_m (iP (iP (oP (iP (iP M 19 20 (upd rs ru x)) 20 20 (upd rh ru ((1 : Int32) <<< (nI f &&& 31)))) 16 1 (fa_f gc (nI (ru + 1)) pv)) 162 20 (upd s2 ru x)) 163 20 (upd h2 ru y)) (nI n) (nI bl) (nI ln) (nI dr) (nI al) (nI (ru + 1)) pv (nI si) (nI pa) (nI cm) (nI os) gm tk pl bh va iw od).2 k = M.2 k := fun k hk => ax_ne (by omega) (ax_ne (by omega) (ax_ne (by omega) (ax_ne (by omega) (ax_ne (by omega) (ax_ne (by omega) rfl)))))
    refine ⟨n, bl, ln, dr, al, ru + 1, si, pa, cm, os, dw, nw, pv, gm, tk, pl, bh, va, iw, od, h0, rfl, hT.mv ?_, hL.mv ?_, hA.mv ?_, ⟨gc, _, _, _, _, gf, gs, ts, rfl, f2, f3, rfl, rfl, f6, rfl, rfl, by omega, f10, fun i hi => ?_⟩, hS.mv ?_, hO.mv ?_, hU.mv ?_, hC.mv ?_, hX.mv ?_, hz⟩
    case refine_4 =>
      unfold upd
      by_cases q : i = ru
      · subst q
        rw [if_pos rfl, if_pos rfl, if_pos rfl, if_pos rfl]
        exact ⟨rfl, ⟨c, a1, a2⟩, f, a3, a4, rfl⟩
      · rw [if_neg q, if_neg q, if_neg q, if_neg q]
        exact f11 i (by omega)
    all_goals exact fun k hk => key k (by omega)
end F2
