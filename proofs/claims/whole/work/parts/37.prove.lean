/-! prove, known, closes -/
def pv_ (pv : Int32) (f : Nat) (b : Int32) : Int32 := if b = 0 then pv &&& (((1 : Int32) <<< (nI f &&& 31)) ^^^ -1) else pv ||| ((1 : Int32) <<< (nI f &&& 31))
theorem lo_pv {pv b : Int32} {f : Nat} (h : lo_ pv) (hf : f < 16) : lo_ (pv_ pv f b) := by
  unfold pv_
  split
  · exact lo_and h
  · exact lo_or h (lo_one hf)
section F3
variable {g : ax_Y} {M : ax_M} {Q : Option Value → ax_M → Prop} {h ru : Nat} {n bl ln dr pv si pa cm os gm tk pl bh : Int32} {va : Int64} {iw od : Int32} {rs rh wa : Nat → Int32} {dw nw al : Nat} {gc : Int32}
theorem c_prove {x b : Int32} (h_this : oC M 0 11 (tp_f dw nw bl pa)) (h_facts : oC M 16 1 (fa_f gc (nI ru) pv)) (h_ruleSet : iA M 19 20 rs) (h_ruleHead : iA M 20 20 rh) (hn : ru ≤ 20) (h1 : (x < 0 ∨ nI 16 ≤ x) → Q (some (.int (-2))) M) (h2 : ∀ f, f < 16 → x = nI f → Q (some (.int (kw_ (ap_ rs rh ru) 16 (pv_ pv f b)))) (oP M 16 1 (fa_f gc (nI ru) (pv_ pv f b)))) : ax_G g mt_Top_prove (h + 2) 0 0 0 [.ref 0, .int x, .int b] [] M Q := by
  refine s_iload_n 1 rfl rfl rfl ?_
  refine c_callS1 (h+1) 4 rfl rfl mv_Top_195 (by omega) (Nat.le_of_ble_eq_true rfl) (Nat.le_of_ble_eq_true rfl) ?_
  -- Top_prove 4: call Top_isFact
  refine m_Top_isFact ?_
  dsimp only [ax_rs]
  rcases in_or (x := x) (n := 16) (by omega) with ⟨f, hf, rfl⟩ | c
  · rw [bi_t (in_bi hf (by omega) rfl)]
    have h2 := h2 f hf rfl
    unfold pv_ at h2
    refine s_if_ne 10 7 rfl rfl (by decide) (fun c1 => ?_) (fun c1 => ?_)
    -- Top_prove 7: branch 10 7
    · refine s_aload_n 11 rfl rfl rfl ?_
      refine s_getfield 11 4 14 rfl rfl fl_Top_38 h_this rfl ?_
      refine s_iconst 1 15 rfl rfl (by decide) ?_
      refine s_iload_n 16 rfl rfl rfl ?_
      refine s_ishl 17 rfl rfl ?_
      refine s_iload_n 18 rfl rfl rfl ?_
      refine c_callV2 (h+1) 21 rfl rfl mv_Top_204 (by omega) (Nat.le_of_ble_eq_true rfl) (Nat.le_of_ble_eq_true rfl) h_facts rfl rfl ?_
      -- Top_prove 21: call Facts_setProved
      refine m_Facts_setProved h_facts ?_
      dsimp only [ax_rs]
      refine s_aload_n 22 rfl rfl rfl ?_
      refine s_getfield 11 4 25 rfl rfl fl_Top_38 h_this rfl ?_
      refine s_iconst 0 26 rfl rfl (by decide) ?_
      refine c_callV1 (h+1) 29 rfl rfl mv_Top_165 (by omega) (Nat.le_of_ble_eq_true rfl) (Nat.le_of_ble_eq_true rfl) rfl rfl rfl ?_
      -- Top_prove 29: call Facts_knownWith
      refine m_Facts_knownWith rfl h_ruleSet h_ruleHead hn ?_
      dsimp only [ax_rs]
      rw [or0]
      exact s_ireturn rfl .int rfl rfl (h2)
    · exact absurd c1 (by decide)
  · rw [bi_f (in_no c)]
    refine s_if_ne 10 7 rfl rfl (by decide) (fun c2 => ?_) (fun c2 => ?_)
    -- Top_prove 7: branch 10 7
    · exact absurd rfl c2
    · refine s_bipush (-2) 9 rfl rfl (by decide) ?_
      -- Top_prove 9: ireturn
      exact s_ireturn rfl .int rfl rfl (h1 c)
theorem d_prove {x b : Int32} (h_this : oC M 143 12 (md_f n bl ln dr (nI al) (nI ru) pv si pa cm os gm tk pl bh va iw od)) (h_ruleSet : iA M 162 20 rs) (h_ruleHead : iA M 163 20 rh) (hn : ru ≤ 20) (h1 : (x < 0 ∨ nI 16 ≤ x) → Q (some (.int (-2))) M) (h2 : ∀ f, f < 16 → x = nI f → Q (some (.int (kw_ (ap_ rs (fun i => (1 : Int32) <<< (rh i &&& 31)) ru) 33 (pv_ pv f b)))) (md_m M n bl ln dr (nI al) (nI ru) (pv_ pv f b) si pa cm os gm tk pl bh va iw od)) : ax_G g mt_Mod_prove (h + 1) 0 0 0 [.ref 143, .int x, .int b] [] M Q := by
  refine s_iload_n 1 rfl rfl rfl ?_
  refine s_i2l 2 rfl rfl ?_
  refine s_lconst 0 3 rfl rfl (by decide) ?_
  refine s_ldc2_w 15 6 rfl rfl kl_Mod_201 ?_
  refine c_callS3 h 9 rfl rfl mv_Mod_134 (by omega) (Nat.le_of_ble_eq_true rfl) (Nat.le_of_ble_eq_true rfl) ?_
  -- Mod_prove 9: call Mod_in
  refine m_Mod_inI (lo := 0) (hi := nI 16 - 1) (by decide) (by decide) ?_
  dsimp only [ax_rs]
  rcases in_or (x := x) (n := 16) (by omega) with ⟨f, hf, rfl⟩ | c
  · rw [bi_t (in_le hf (by omega) rfl)]
    have h2 := h2 f hf rfl
    unfold pv_ at h2
    refine s_if_ne 15 12 rfl rfl (by decide) (fun c1 => ?_) (fun c1 => ?_)
    -- Mod_prove 12: branch 15 12
    · refine s_aload_n 16 rfl rfl rfl ?_
      refine s_iload_n 17 rfl rfl rfl ?_
      refine s_if_eq 31 20 rfl rfl (by decide) (fun c2 => ?_) (fun c2 => ?_)
      -- Mod_prove 20: branch 31 20
      · rw [if_pos c2] at h2
        refine s_aload_n 32 rfl rfl rfl ?_
        refine s_getfield 12 26 35 rfl rfl fl_Mod_182 h_this rfl ?_
        refine s_iconst 1 36 rfl rfl (by decide) ?_
        refine s_iload_n 37 rfl rfl rfl ?_
        refine s_ishl 38 rfl rfl ?_
        refine s_iconst (-1) 39 rfl rfl (by decide) ?_
        refine s_ixor 40 rfl rfl ?_
        refine s_iand 41 rfl rfl ?_
        refine s_putfield 12 26 (.int) 44 rfl rfl fp_Mod_182 h_this (Nat.le_of_ble_eq_true rfl) ⟨rfl, rfl⟩ (fun h => absurd h (by decide)) ?_
        refine s_aload_n 45 rfl rfl rfl ?_
        refine s_aload_n 46 rfl rfl rfl ?_
        refine s_getfield 12 26 49 rfl rfl fl_Mod_182 rfl rfl ?_
        refine c_callV1 h 52 rfl rfl mv_Mod_185 (by omega) (Nat.le_of_ble_eq_true rfl) (Nat.le_of_ble_eq_true rfl) rfl rfl rfl ?_
        -- Mod_prove 52: call Mod_knownBy
        refine m_Mod_knownBy (M := md_m M n bl ln dr (nI al) (nI ru) _ si pa cm os gm tk pl bh va iw od) rfl h_ruleSet h_ruleHead hn ?_
        dsimp only [ax_rs]
        exact s_ireturn rfl .int rfl rfl (h2)
      · rw [if_neg c2] at h2
        refine s_aload_n 21 rfl rfl rfl ?_
        refine s_getfield 12 26 24 rfl rfl fl_Mod_182 h_this rfl ?_
        refine s_iconst 1 25 rfl rfl (by decide) ?_
        refine s_iload_n 26 rfl rfl rfl ?_
        refine s_ishl 27 rfl rfl ?_
        refine s_ior 28 rfl rfl ?_
        refine s_goto 41 rfl (by decide) ?_
        refine s_putfield 12 26 (.int) 44 rfl rfl fp_Mod_182 h_this (Nat.le_of_ble_eq_true rfl) ⟨rfl, rfl⟩ (fun h => absurd h (by decide)) ?_
        refine s_aload_n 45 rfl rfl rfl ?_
        refine s_aload_n 46 rfl rfl rfl ?_
        refine s_getfield 12 26 49 rfl rfl fl_Mod_182 rfl rfl ?_
        refine c_callV1 h 52 rfl rfl mv_Mod_185 (by omega) (Nat.le_of_ble_eq_true rfl) (Nat.le_of_ble_eq_true rfl) rfl rfl rfl ?_
        -- Mod_prove 52: call Mod_knownBy
        refine m_Mod_knownBy (M := md_m M n bl ln dr (nI al) (nI ru) _ si pa cm os gm tk pl bh va iw od) rfl h_ruleSet h_ruleHead hn ?_
        dsimp only [ax_rs]
        exact s_ireturn rfl .int rfl rfl (h2)
    · exact absurd c1 (by decide)
  · rw [bi_f (in_nle (n := 16) (by omega) c)]
    refine s_if_ne 15 12 rfl rfl (by decide) (fun c3 => ?_) (fun c3 => ?_)
    -- Mod_prove 12: branch 15 12
    · exact absurd rfl c3
    · refine s_bipush (-2) 14 rfl rfl (by decide) ?_
      -- Mod_prove 14: ireturn
      exact s_ireturn rfl .int rfl rfl (h1 c)
theorem both_prove (x b : Int32) : BI g (Rel g) mt_Top_prove mt_Mod_prove [.int x, .int b] := by
  intro M hR
  have hR' := hR
  obtain ⟨n, bl, ln, dr, al, ru, si, pa, cm, os, dw, nw, pv, gm, tk, pl, bh, va, iw, od, h0, h143, hT, hL, hA, ⟨gc, rs, rh, s2, h2, gf, gs, ts, f1, f2, f3, f4, f5, f6, f7, f8, f9, ⟨cp, hcp, rfl⟩, f11⟩, hS, hO, hU, hC, hX, hz⟩ := hR
  refine c_prove (h := 9) h0 f1 f4 f5 f9 (fun q => ?_) (fun f hf e => ?_)
  · exact ⟨_, rfl, ⟨_, h143⟩, d_prove (h := 10) h143 f7 f8 f9 (fun _ => ⟨rfl, hR'⟩) (fun f hf e => absurd (in_bi hf (by omega) e) (in_no q))⟩
  · subst e
    refine ⟨_, rfl, ⟨_, h143⟩, d_prove (h := 10) (M := oP M 16 1 (fa_f gc (nI ru) (pv_ (nI cp) f b))) h143 f7 f8 f9 (fun q => absurd (in_bi hf (by omega) rfl) (in_no q)) (fun f' hf' e' => ?_)⟩
    obtain rfl : f = f' := nn_eq e'
    have lp : lo_ (pv_ (nI cp) f b) := lo_pv (lo_nI hcp) hf
    rw [kn_eq f11 lp]
    refine ⟨rfl, ?_⟩
    have key : ∀ k, ¬ (k = 16 ∨ k = 143) → (md_m (oP M 16 1 (fa_f gc (nI ru) (pv_ (nI cp) f b))) (nI n) (nI bl) (nI ln) (nI dr) (nI al) (nI ru) (pv_ (nI cp) f b) (nI si) (nI pa) (nI cm) (nI os) gm tk pl bh va iw od).2 k = M.2 k := fun k hk => ax_ne (by omega) (ax_ne (by omega) rfl)
    refine ⟨n, bl, ln, dr, al, ru, si, pa, cm, os, dw, nw, _, gm, tk, pl, bh, va, iw, od, h0, rfl, hT.mv ?_, hL.mv ?_, hA.mv ?_, ⟨gc, rs, rh, s2, h2, gf, gs, ts, rfl, f2, f3, f4, f5, f6, f7, f8, f9, lo_ex lp, f11⟩, hS.mv ?_, hO.mv ?_, hU.mv ?_, hC.mv ?_, hX.mv ?_, hz⟩
    all_goals exact fun k hk => key k (by omega)
theorem c_known {x : Int32} (h_this : oC M 0 11 (tp_f dw nw bl pa)) (h_facts : oC M 16 1 (fa_f gc (nI ru) pv)) (h_ruleSet : iA M 19 20 rs) (h_ruleHead : iA M 20 20 rh) (hn : ru ≤ 20) (h0 : x = -1 → Q (some (.int (kw_ (ap_ rs rh ru) 16 pv))) M) (h1 : x ≠ -1 → (x < 0 ∨ nI 16 ≤ x) → Q (some (.int (-2))) M) (h2 : ∀ f, f < 16 → x = nI f → Q (some (.int (kw_ (ap_ rs rh ru) 16 (pv ||| ((1 : Int32) <<< (nI f &&& 31)))))) M) : ax_G g mt_Top_known (h + 2) 0 0 0 [.ref 0, .int x] [] M Q := by
  refine s_iload_n 1 rfl rfl rfl ?_
  refine s_iconst (-1) 2 rfl rfl (by decide) ?_
  refine s_icmp_ne 14 5 rfl rfl (by decide) (fun c1 => ?_) (fun c1 => ?_)
  -- Top_known 5: branch 14 5
  · refine s_iload_n 15 rfl rfl rfl ?_
    refine c_callS1 (h+1) 18 rfl rfl mv_Top_195 (by omega) (Nat.le_of_ble_eq_true rfl) (Nat.le_of_ble_eq_true rfl) ?_
    -- Top_known 18: call Top_isFact
    refine m_Top_isFact ?_
    dsimp only [ax_rs]
    rcases in_or (x := x) (n := 16) (by omega) with ⟨f, hf, rfl⟩ | c
    · rw [bi_t (in_bi hf (by omega) rfl)]
      refine s_if_eq 34 21 rfl rfl (by decide) (fun c2 => ?_) (fun c2 => ?_)
      -- Top_known 21: branch 34 21
      · exact absurd c2 (by decide)
      · refine s_aload_n 22 rfl rfl rfl ?_
        refine s_getfield 11 4 25 rfl rfl fl_Top_38 h_this rfl ?_
        refine s_iconst 1 26 rfl rfl (by decide) ?_
        refine s_iload_n 27 rfl rfl rfl ?_
        refine s_ishl 28 rfl rfl ?_
        refine c_callV1 (h+1) 31 rfl rfl mv_Top_165 (by omega) (Nat.le_of_ble_eq_true rfl) (Nat.le_of_ble_eq_true rfl) h_facts rfl rfl ?_
        -- Top_known 31: call Facts_knownWith
        refine m_Facts_knownWith h_facts h_ruleSet h_ruleHead hn ?_
        dsimp only [ax_rs]
        refine s_goto 36 rfl (by decide) ?_
        -- Top_known 36: ireturn
        exact s_ireturn rfl .int rfl rfl (h2 f hf rfl)
    · rw [bi_f (in_no c)]
      refine s_if_eq 34 21 rfl rfl (by decide) (fun c3 => ?_) (fun c3 => ?_)
      -- Top_known 21: branch 34 21
      · refine s_bipush (-2) 36 rfl rfl (by decide) ?_
        -- Top_known 36: ireturn
        exact s_ireturn rfl .int rfl rfl (h1 c1 c)
      · exact absurd rfl c3
  · refine s_aload_n 6 rfl rfl rfl ?_
    refine s_getfield 11 4 9 rfl rfl fl_Top_38 h_this rfl ?_
    refine s_iconst 0 10 rfl rfl (by decide) ?_
    refine c_callV1 (h+1) 13 rfl rfl mv_Top_165 (by omega) (Nat.le_of_ble_eq_true rfl) (Nat.le_of_ble_eq_true rfl) h_facts rfl rfl ?_
    -- Top_known 13: call Facts_knownWith
    refine m_Facts_knownWith h_facts h_ruleSet h_ruleHead hn ?_
    dsimp only [ax_rs]
    rw [or0]
    exact s_ireturn rfl .int rfl rfl (h0 c1)
theorem d_known {x : Int32} (h_this : oC M 143 12 (md_f n bl ln dr (nI al) (nI ru) pv si pa cm os gm tk pl bh va iw od)) (h_ruleSet : iA M 162 20 rs) (h_ruleHead : iA M 163 20 rh) (hn : ru ≤ 20) (h0 : x = -1 → Q (some (.int (kw_ (ap_ rs (fun i => (1 : Int32) <<< (rh i &&& 31)) ru) 33 pv))) M) (h1 : x ≠ -1 → (x < 0 ∨ nI 16 ≤ x) → Q (some (.int (-2))) M) (h2 : ∀ f, f < 16 → x = nI f → Q (some (.int (kw_ (ap_ rs (fun i => (1 : Int32) <<< (rh i &&& 31)) ru) 33 (pv ||| ((1 : Int32) <<< (nI f &&& 31)))))) M) : ax_G g mt_Mod_known (h + 1) 0 0 0 [.ref 143, .int x] [] M Q := by
  refine s_iload_n 1 rfl rfl rfl ?_
  refine s_i2l 2 rfl rfl ?_
  refine s_ldc2_w (-1) 5 rfl rfl kl_Mod_203 ?_
  refine s_ldc2_w 15 8 rfl rfl kl_Mod_201 ?_
  refine c_callS3 h 11 rfl rfl mv_Mod_134 (by omega) (Nat.le_of_ble_eq_true rfl) (Nat.le_of_ble_eq_true rfl) ?_
  -- Mod_known 11: call Mod_in
  refine m_Mod_inI (lo := -1) (hi := nI 16 - 1) (by decide) (by decide) ?_
  dsimp only [ax_rs]
  by_cases z : x = -1
  · subst z
    rw [bi_t (by decide)]
    refine s_if_ne 17 14 rfl rfl (by decide) (fun c1 => ?_) (fun c1 => ?_)
    -- Mod_known 14: branch 17 14
    · refine s_aload_n 18 rfl rfl rfl ?_
      refine s_iload_n 19 rfl rfl rfl ?_
      refine s_iconst (-1) 20 rfl rfl (by decide) ?_
      refine s_icmp_ne 30 23 rfl rfl (by decide) (fun c2 => ?_) (fun c2 => ?_)
      -- Mod_known 23: branch 30 23
      · exact absurd rfl c2
      · skip
        refine s_aload_n 24 rfl rfl rfl ?_
        refine s_getfield 12 26 27 rfl rfl fl_Mod_182 h_this rfl ?_
        refine s_goto 38 rfl (by decide) ?_
        refine c_callV1 h 41 rfl rfl mv_Mod_185 (by omega) (Nat.le_of_ble_eq_true rfl) (Nat.le_of_ble_eq_true rfl) h_this rfl rfl ?_
        -- Mod_known 41: call Mod_knownBy
        refine m_Mod_knownBy h_this h_ruleSet h_ruleHead hn ?_
        dsimp only [ax_rs]
        exact s_ireturn rfl .int rfl rfl (h0 rfl)
    · exact absurd c1 (by decide)
  · rcases in_or (x := x) (n := 16) (by omega) with ⟨f, hf, rfl⟩ | c
    · rw [bi_t ⟨Int32.le_trans (by decide) (in_le hf (by omega) rfl).1, (in_le hf (by omega) rfl).2⟩]
      refine s_if_ne 17 14 rfl rfl (by decide) (fun c3 => ?_) (fun c3 => ?_)
      -- Mod_known 14: branch 17 14
      · refine s_aload_n 18 rfl rfl rfl ?_
        refine s_iload_n 19 rfl rfl rfl ?_
        refine s_iconst (-1) 20 rfl rfl (by decide) ?_
        refine s_icmp_ne 30 23 rfl rfl (by decide) (fun c4 => ?_) (fun c4 => ?_)
        -- Mod_known 23: branch 30 23
        · skip
          refine s_aload_n 31 rfl rfl rfl ?_
          refine s_getfield 12 26 34 rfl rfl fl_Mod_182 h_this rfl ?_
          refine s_iconst 1 35 rfl rfl (by decide) ?_
          refine s_iload_n 36 rfl rfl rfl ?_
          refine s_ishl 37 rfl rfl ?_
          refine s_ior 38 rfl rfl ?_
          refine c_callV1 h 41 rfl rfl mv_Mod_185 (by omega) (Nat.le_of_ble_eq_true rfl) (Nat.le_of_ble_eq_true rfl) h_this rfl rfl ?_
          -- Mod_known 41: call Mod_knownBy
          refine m_Mod_knownBy h_this h_ruleSet h_ruleHead hn ?_
          dsimp only [ax_rs]
          exact s_ireturn rfl .int rfl rfl (h2 f hf rfl)
        · exact absurd c4 z
      · exact absurd c3 (by decide)
    · have no : ¬ (-1 ≤ x ∧ x ≤ nI 16 - 1) := by
        rintro ⟨q1, q2⟩
        refine in_nle (n := 16) (by omega) c ⟨?_, q2⟩
        rw [Int32.le_iff_toInt_le] at q1 ⊢
        have e1 : (-1 : Int32).toInt = -1 := by decide
        have e2 : (0 : Int32).toInt = 0 := by decide
        have e3 : x.toInt ≠ -1 := fun q => z (Int32.toInt_inj.mp (q.trans e1.symm))
        omega
      rw [bi_f no]
      refine s_if_ne 17 14 rfl rfl (by decide) (fun c5 => ?_) (fun c5 => ?_)
      -- Mod_known 14: branch 17 14
      · exact absurd rfl c5
      · refine s_bipush (-2) 16 rfl rfl (by decide) ?_
        -- Mod_known 16: ireturn
        exact s_ireturn rfl .int rfl rfl (h1 z c)
theorem both_known (x : Int32) : BI g (Rel g) mt_Top_known mt_Mod_known [.int x] := by
  intro M hR
  have hR' := hR
  obtain ⟨n, bl, ln, dr, al, ru, si, pa, cm, os, dw, nw, pv, gm, tk, pl, bh, va, iw, od, h0, h143, hT, hL, hA, ⟨gc, rs, rh, s2, h2, gf, gs, ts, f1, f2, f3, f4, f5, f6, f7, f8, f9, ⟨cp, hcp, rfl⟩, f11⟩, hS, hO, hU, hC, hX, hz⟩ := hR
  refine c_known (h := 9) h0 f1 f4 f5 f9 (fun e => ?_) (fun z c => ?_) (fun f hf e => ?_)
  · subst e
    refine ⟨_, rfl, ⟨_, h143⟩, d_known (h := 10) h143 f7 f8 f9 (fun _ => ?_) (fun z => absurd rfl z) (fun f hf e => absurd e.symm (nn_m1 (by omega)))⟩
    rw [kn_eq f11 (lo_nI hcp)]
    exact ⟨rfl, hR'⟩
  · exact ⟨_, rfl, ⟨_, h143⟩, d_known (h := 10) h143 f7 f8 f9 (fun e => absurd e z) (fun _ _ => ⟨rfl, hR'⟩) (fun f hf e => absurd (in_bi hf (by omega) e) (in_no c))⟩
  · subst e
    refine ⟨_, rfl, ⟨_, h143⟩, d_known (h := 10) h143 f7 f8 f9 (fun e => absurd e (nn_m1 (by omega))) (fun _ c => absurd (in_bi hf (by omega) rfl) (in_no c)) (fun f' hf' e' => ?_)⟩
    obtain rfl : f = f' := nn_eq e'
    rw [kn_eq f11 (lo_or (lo_nI hcp) (lo_one hf))]
    exact ⟨rfl, hR'⟩
theorem c_closes {x y : Int32} (h_this : oC M 0 11 (tp_f dw nw bl pa)) (h_facts : oC M 16 1 (fa_f gc (nI ru) pv)) (h_ruleSet : iA M 19 20 rs) (h_ruleHead : iA M 20 20 rh) (hn : ru ≤ 20) (h_alarms : oC M 9 0 (al_f al)) (h_wants : iA M 12 50 wa) (hal : al ≤ 50) (h1 : ((x < 0 ∨ nI 16 ≤ x) ∨ (y < 0 ∨ nI al ≤ y)) → Q (some (.int (-2))) M) (h2 : ∀ f a, f < 16 → x = nI f → a < al → y = nI a → Q (some (.int (bi (cz (wa a) (kw_ (ap_ rs rh ru) 16 (pv ||| ((1 : Int32) <<< (nI f &&& 31)))) = true)))) M) : ax_G g mt_Top_closes (h + 2) 0 0 0 [.ref 0, .int x, .int y] [] M Q := by
  refine s_iload_n 1 rfl rfl rfl ?_
  refine c_callS1 (h+1) 4 rfl rfl mv_Top_195 (by omega) (Nat.le_of_ble_eq_true rfl) (Nat.le_of_ble_eq_true rfl) ?_
  -- Top_closes 4: call Top_isFact
  refine m_Top_isFact ?_
  dsimp only [ax_rs]
  rcases in_or (x := x) (n := 16) (by omega) with ⟨f, hf, rfl⟩ | c
  · rw [bi_t (in_bi hf (by omega) rfl)]
    refine s_if_eq 18 7 rfl rfl (by decide) (fun c1 => ?_) (fun c1 => ?_)
    -- Top_closes 7: branch 18 7
    · exact absurd c1 (by decide)
    · refine s_aload_n 8 rfl rfl rfl ?_
      refine s_getfield 11 3 11 rfl rfl fl_Top_31 h_this rfl ?_
      refine s_iload_n 12 rfl rfl rfl ?_
      refine c_callV1 (h+1) 15 rfl rfl mv_Top_152 (by omega) (Nat.le_of_ble_eq_true rfl) (Nat.le_of_ble_eq_true rfl) h_alarms rfl rfl ?_
      -- Top_closes 15: call Alarms_has
      refine m_Alarms_has h_alarms ?_
      dsimp only [ax_rs]
      rcases in_or (x := y) (n := al) (by omega) with ⟨a, ha, rfl⟩ | c
      · rw [bi_t (in_bi ha (by omega) rfl)]
        have h2 := h2 f a hf rfl ha rfl
        refine s_if_ne 21 18 rfl rfl (by decide) (fun c2 => ?_) (fun c2 => ?_)
        -- Top_closes 18: branch 21 18
        · refine s_aload_n 22 rfl rfl rfl ?_
          refine s_getfield 11 3 25 rfl rfl fl_Top_31 h_this rfl ?_
          refine s_iload_n 26 rfl rfl rfl ?_
          refine s_aload_n 27 rfl rfl rfl ?_
          refine s_getfield 11 4 30 rfl rfl fl_Top_38 h_this rfl ?_
          refine s_iconst 1 31 rfl rfl (by decide) ?_
          refine s_iload_n 32 rfl rfl rfl ?_
          refine s_ishl 33 rfl rfl ?_
          refine c_callV1 (h+1) 36 rfl rfl mv_Top_165 (by omega) (Nat.le_of_ble_eq_true rfl) (Nat.le_of_ble_eq_true rfl) h_facts rfl rfl ?_
          -- Top_closes 36: call Facts_knownWith
          refine m_Facts_knownWith h_facts h_ruleSet h_ruleHead hn ?_
          dsimp only [ax_rs]
          refine c_callV2 (h+1) 39 rfl rfl mv_Top_169 (by omega) (Nat.le_of_ble_eq_true rfl) (Nat.le_of_ble_eq_true rfl) h_alarms rfl rfl ?_
          -- Top_closes 39: call Alarms_isClosed
          refine m_Alarms_isClosed h_alarms h_wants (by omega) ?_
          dsimp only [ax_rs]
          refine s_if_eq 46 42 rfl rfl (by decide) (fun c3 => ?_) (fun c3 => ?_)
          -- Top_closes 42: branch 46 42
          · rw [bi_0] at c3
            rw [bi_f c3] at h2
            refine s_iconst 0 47 rfl rfl (by decide) ?_
            -- Top_closes 47: ireturn
            exact s_ireturn rfl .int rfl rfl (h2)
          · rw [bi_0, Classical.not_not] at c3
            rw [bi_t c3] at h2
            refine s_iconst 1 43 rfl rfl (by decide) ?_
            refine s_goto 47 rfl (by decide) ?_
            -- Top_closes 47: ireturn
            exact s_ireturn rfl .int rfl rfl (h2)
        · exact absurd c2 (by decide)
      · rw [bi_f (in_no c)]
        refine s_if_ne 21 18 rfl rfl (by decide) (fun c4 => ?_) (fun c4 => ?_)
        -- Top_closes 18: branch 21 18
        · exact absurd rfl c4
        · refine s_bipush (-2) 20 rfl rfl (by decide) ?_
          -- Top_closes 20: ireturn
          exact s_ireturn rfl .int rfl rfl (h1 (Or.inr c))
  · rw [bi_f (in_no c)]
    refine s_if_eq 18 7 rfl rfl (by decide) (fun c5 => ?_) (fun c5 => ?_)
    -- Top_closes 7: branch 18 7
    · refine s_bipush (-2) 20 rfl rfl (by decide) ?_
      -- Top_closes 20: ireturn
      exact s_ireturn rfl .int rfl rfl (h1 (Or.inl c))
    · exact absurd rfl c5
theorem m_Mod_isAlarm {x : Int32} (h_this : oC M 143 12 (md_f n bl ln dr (nI al) (nI ru) pv si pa cm os gm tk pl bh va iw od)) (hq : Q (some (.int (bi (0 ≤ x ∧ x ≤ nI al - 1)))) M) : ax_G g mt_Mod_isAlarm (h + 1) 0 0 0 [.ref 143, .int x] [] M Q := by
  refine s_iload_n 1 rfl rfl rfl ?_
  refine s_i2l 2 rfl rfl ?_
  refine s_lconst 0 3 rfl rfl (by decide) ?_
  refine s_aload_n 4 rfl rfl rfl ?_
  refine s_getfield 12 15 7 rfl rfl fl_Mod_169 h_this rfl ?_
  refine s_iconst 1 8 rfl rfl (by decide) ?_
  refine s_isub 9 rfl rfl ?_
  refine s_i2l 10 rfl rfl ?_
  refine c_callS3 h 13 rfl rfl mv_Mod_134 (by omega) (Nat.le_of_ble_eq_true rfl) (Nat.le_of_ble_eq_true rfl) ?_
  -- Mod_isAlarm 13: call Mod_in
  refine m_Mod_inI (lo := 0) (hi := nI al - 1) (by decide) rfl ?_
  dsimp only [ax_rs]
  exact s_ireturn rfl .boolean rfl  (bi_n _) (hq )
theorem m_Mod_isClosed {i : Nat} {k : Int32} (h_this : oC M 143 12 (md_f n bl ln dr (nI al) (nI ru) pv si pa cm os gm tk pl bh va iw od)) (h_wants : iA M 157 50 wa) (hi : i < 50) (hq : Q (some (.int (bi (cz (wa i) k = true)))) M) : ax_G g mt_Mod_isClosed h 0 0 0 [.ref 143, .int (nI i), .int k] [] M Q := by
  refine s_aload_n 1 rfl rfl rfl ?_
  refine s_getfield 12 18 4 rfl rfl fl_Mod_49 h_this rfl ?_
  refine s_iload_n 5 rfl rfl rfl ?_
  refine s_iaload (i) 6 rfl rfl h_wants rfl (by omega) (by decide) ?_
  refine s_iload_n 7 rfl rfl rfl ?_
  refine s_iconst (-1) 8 rfl rfl (by decide) ?_
  refine s_ixor 9 rfl rfl ?_
  refine s_iand 10 rfl rfl ?_
  refine s_if_ne 17 13 rfl rfl (by decide) (fun c1 => ?_) (fun c1 => ?_)
  -- Mod_isClosed 13: branch 17 13
  · rw [bi_f (cz_f c1)] at hq
    refine s_iconst 0 18 rfl rfl (by decide) ?_
    -- Mod_isClosed 18: ireturn
    exact s_ireturn rfl .boolean rfl rfl (hq)
  · rw [bi_t (cz_t c1)] at hq
    refine s_iconst 1 14 rfl rfl (by decide) ?_
    refine s_goto 18 rfl (by decide) ?_
    -- Mod_isClosed 18: ireturn
    exact s_ireturn rfl .boolean rfl rfl (hq)
theorem d_closes {x y : Int32} (h_this : oC M 143 12 (md_f n bl ln dr (nI al) (nI ru) pv si pa cm os gm tk pl bh va iw od)) (h_ruleSet : iA M 162 20 rs) (h_ruleHead : iA M 163 20 rh) (hn : ru ≤ 20) (h_wants : iA M 157 50 wa) (hal : al ≤ 50) (h1 : ((x < 0 ∨ nI 16 ≤ x) ∨ (y < 0 ∨ nI al ≤ y)) → Q (some (.int (-2))) M) (h2 : ∀ f a, f < 16 → x = nI f → a < al → y = nI a → Q (some (.int (bi (cz (wa a) (kw_ (ap_ rs (fun i => (1 : Int32) <<< (rh i &&& 31)) ru) 33 (pv ||| ((1 : Int32) <<< (nI f &&& 31)))) = true)))) M) : ax_G g mt_Mod_closes (h + 2) 0 0 0 [.ref 143, .int x, .int y] [] M Q := by
  refine s_iload_n 1 rfl rfl rfl ?_
  refine s_i2l 2 rfl rfl ?_
  refine s_lconst 0 3 rfl rfl (by decide) ?_
  refine s_ldc2_w 15 6 rfl rfl kl_Mod_201 ?_
  refine c_callS3 (h+1) 9 rfl rfl mv_Mod_134 (by omega) (Nat.le_of_ble_eq_true rfl) (Nat.le_of_ble_eq_true rfl) ?_
  -- Mod_closes 9: call Mod_in
  refine m_Mod_inI (lo := 0) (hi := nI 16 - 1) (by decide) (by decide) ?_
  dsimp only [ax_rs]
  rcases in_or (x := x) (n := 16) (by omega) with ⟨f, hf, rfl⟩ | c
  · rw [bi_t (in_le hf (by omega) rfl)]
    refine s_if_eq 20 12 rfl rfl (by decide) (fun c1 => ?_) (fun c1 => ?_)
    -- Mod_closes 12: branch 20 12
    · exact absurd c1 (by decide)
    · refine s_aload_n 13 rfl rfl rfl ?_
      refine s_iload_n 14 rfl rfl rfl ?_
      refine c_callV1 (h+1) 17 rfl rfl mv_Mod_178 (by omega) (Nat.le_of_ble_eq_true rfl) (Nat.le_of_ble_eq_true rfl) h_this rfl rfl ?_
      -- Mod_closes 17: call Mod_isAlarm
      refine m_Mod_isAlarm h_this ?_
      dsimp only [ax_rs]
      rcases in_or (x := y) (n := al) (by omega) with ⟨a, ha, rfl⟩ | c
      · rw [bi_t (in_le ha (by omega) rfl)]
        have h2 := h2 f a hf rfl ha rfl
        refine s_if_ne 23 20 rfl rfl (by decide) (fun c2 => ?_) (fun c2 => ?_)
        -- Mod_closes 20: branch 23 20
        · refine s_aload_n 24 rfl rfl rfl ?_
          refine s_iload_n 25 rfl rfl rfl ?_
          refine s_aload_n 26 rfl rfl rfl ?_
          refine s_aload_n 27 rfl rfl rfl ?_
          refine s_getfield 12 26 30 rfl rfl fl_Mod_182 h_this rfl ?_
          refine s_iconst 1 31 rfl rfl (by decide) ?_
          refine s_iload_n 32 rfl rfl rfl ?_
          refine s_ishl 33 rfl rfl ?_
          refine s_ior 34 rfl rfl ?_
          refine c_callV1 (h+1) 37 rfl rfl mv_Mod_185 (by omega) (Nat.le_of_ble_eq_true rfl) (Nat.le_of_ble_eq_true rfl) h_this rfl rfl ?_
          -- Mod_closes 37: call Mod_knownBy
          refine m_Mod_knownBy h_this h_ruleSet h_ruleHead hn ?_
          dsimp only [ax_rs]
          refine c_callV2 (h+1) 40 rfl rfl mv_Mod_188 (by omega) (Nat.le_of_ble_eq_true rfl) (Nat.le_of_ble_eq_true rfl) h_this rfl rfl ?_
          -- Mod_closes 40: call Mod_isClosed
          refine m_Mod_isClosed h_this h_wants (by omega) ?_
          dsimp only [ax_rs]
          refine s_if_eq 47 43 rfl rfl (by decide) (fun c3 => ?_) (fun c3 => ?_)
          -- Mod_closes 43: branch 47 43
          · rw [bi_0] at c3
            rw [bi_f c3] at h2
            refine s_iconst 0 48 rfl rfl (by decide) ?_
            -- Mod_closes 48: ireturn
            exact s_ireturn rfl .int rfl rfl (h2)
          · rw [bi_0, Classical.not_not] at c3
            rw [bi_t c3] at h2
            refine s_iconst 1 44 rfl rfl (by decide) ?_
            refine s_goto 48 rfl (by decide) ?_
            -- Mod_closes 48: ireturn
            exact s_ireturn rfl .int rfl rfl (h2)
        · exact absurd c2 (by decide)
      · rw [bi_f (in_nle (by omega) c)]
        refine s_if_ne 23 20 rfl rfl (by decide) (fun c4 => ?_) (fun c4 => ?_)
        -- Mod_closes 20: branch 23 20
        · exact absurd rfl c4
        · refine s_bipush (-2) 22 rfl rfl (by decide) ?_
          -- Mod_closes 22: ireturn
          exact s_ireturn rfl .int rfl rfl (h1 (Or.inr c))
  · rw [bi_f (in_nle (n := 16) (by omega) c)]
    refine s_if_eq 20 12 rfl rfl (by decide) (fun c5 => ?_) (fun c5 => ?_)
    -- Mod_closes 12: branch 20 12
    · refine s_bipush (-2) 22 rfl rfl (by decide) ?_
      -- Mod_closes 22: ireturn
      exact s_ireturn rfl .int rfl rfl (h1 (Or.inl c))
    · exact absurd rfl c5
theorem both_closes (x y : Int32) : BI g (Rel g) mt_Top_closes mt_Mod_closes [.int x, .int y] := by
  intro M hR
  have hR' := hR
  obtain ⟨n, bl, ln, dr, al, ru, si, pa, cm, os, dw, nw, pv, gm, tk, pl, bh, va, iw, od, h0, h143, hT, hL, ⟨li, ki, wa, pp, qq, st, l2, k2, w2, p2, q2, s3, ob, tr, ps, a1, a2, a3, a4, a5, a6, a7, a8, a9, a10, a11, a12, a13, a14, a15, a16, a17, a18, a19, a20⟩, ⟨gc, rs, rh, s2, h2, gf, gs, ts, f1, f2, f3, f4, f5, f6, f7, f8, f9, ⟨cp, hcp, rfl⟩, f11⟩, hS, hO, hU, hC, hX, hz⟩ := hR
  have ex1 : ∀ f a, f < 16 → x = nI f → a < al → y = nI a → ¬ ((x < 0 ∨ nI 16 ≤ x) ∨ (y < 0 ∨ nI al ≤ y)) := by
    intro f a b1 b2 b3 b4 q
    rcases q with q | q
    · exact in_no q (in_bi b1 (by omega) b2)
    · exact in_no q (in_bi b3 (by omega) b4)
  refine c_closes (h := 9) h0 f1 f4 f5 f9 a1 a4 a17 (fun q => ?_) (fun f a b1 b2 b3 b4 => ?_)
  · exact ⟨_, rfl, ⟨_, h143⟩, d_closes (h := 9) h143 f7 f8 f9 a11 a17 (fun _ => ⟨rfl, hR'⟩) (fun f a b1 b2 b3 b4 => absurd q (ex1 f a b1 b2 b3 b4))⟩
  · refine ⟨_, rfl, ⟨_, h143⟩, d_closes (h := 9) h143 f7 f8 f9 a11 a17 (fun q => absurd q (ex1 f a b1 b2 b3 b4)) (fun f' a' d1 d2 d3 d4 => ?_)⟩
    obtain rfl : f = f' := nn_eq (b2.symm.trans d2)
    obtain rfl : a = a' := nn_eq (b4.symm.trans d4)
    rw [kn_eq f11 (lo_or (lo_nI hcp) (lo_one b1)), (a19 a b3).1.2.2.1]
    exact ⟨rfl, hR'⟩
end F3
