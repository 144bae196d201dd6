/-! chosen, outByte, partner, line -/
theorem s_ldc_w {g : ax_Y} {P : ax_P} {h mc ms pc : Nat} {lv st : List Value} {M : ax_M} {Q : Option Value → ax_M → Prop} {n : Nat} (v : Int32) (pc2 : Nat) (hi : P.2.2.2.2 pc = some (.ldc_w n, 3)) (hp : pc + 3 = pc2) (hw : Jvm.Cond.constant P.1.cls n v ∈ ax_tbl) (k : ax_G g P h mc ms pc2 lv (.int v :: st) M Q) : ax_G g P h mc ms pc lv st M Q := by
  subst hp
  exact fun p e R s m args below meth c H locs cells slots ls QQ C hh hr hL hR hS hK => lv_ldcw C.1 C.2.1 C.2.2.2.2.1 (C.2.2.2.2.2.1 _ hw) (C.2.2.2.2.2.2.2.2.1 _ _ _ hi) (k p e R s m args below meth c H locs cells slots ls QQ C hh hr hL hR hS hK)
theorem kw_Top_329 : Jvm.Cond.constant "AlarmGroups" 329 65536 ∈ ax_tbl := ax_in (by decide +kernel) rfl
section SMALL
variable {g : ax_Y} {M : ax_M} {Q : Option Value → ax_M → Prop} {h : Nat}
theorem m_Top_isFile {x : Int32} (hq : Q (some (.int (bi (¬ x < 0 ∧ ¬ nI 6 ≤ x)))) M) : ax_G g mt_Top_isFile h 0 0 0 [.int x] [] M Q := by
  refine s_iload_n 1 rfl rfl rfl ?_
  refine s_if_lt 14 4 rfl rfl (by decide) (fun c1 => ?_) (fun c1 => ?_)
  -- Top_isFile 4: branch 14 4
  · rw [bi_f (fun q => q.1 c1)] at hq
    refine s_iconst 0 15 rfl rfl (by decide) ?_
    -- Top_isFile 15: ireturn
    exact s_ireturn rfl .boolean rfl rfl (hq)
  · refine s_iload_n 5 rfl rfl rfl ?_
    refine s_bipush 6 7 rfl rfl (by decide) ?_
    refine s_icmp_ge 14 10 rfl rfl (by decide) (fun c2 => ?_) (fun c2 => ?_)
    -- Top_isFile 10: branch 14 10
    · rw [bi_f (fun q => q.2 c2)] at hq
      refine s_iconst 0 15 rfl rfl (by decide) ?_
      -- Top_isFile 15: ireturn
      exact s_ireturn rfl .boolean rfl rfl (hq)
    · rw [bi_t ⟨c1, c2⟩] at hq
      refine s_iconst 1 11 rfl rfl (by decide) ?_
      refine s_goto 15 rfl (by decide) ?_
      -- Top_isFile 15: ireturn
      exact s_ireturn rfl .boolean rfl rfl (hq)
theorem m_Top_isFact {x : Int32} (hq : Q (some (.int (bi (¬ x < 0 ∧ ¬ nI 16 ≤ x)))) M) : ax_G g mt_Top_isFact h 0 0 0 [.int x] [] M Q := by
  refine s_iload_n 1 rfl rfl rfl ?_
  refine s_if_lt 14 4 rfl rfl (by decide) (fun c1 => ?_) (fun c1 => ?_)
  -- Top_isFact 4: branch 14 4
  · rw [bi_f (fun q => q.1 c1)] at hq
    refine s_iconst 0 15 rfl rfl (by decide) ?_
    -- Top_isFact 15: ireturn
    exact s_ireturn rfl .boolean rfl rfl (hq)
  · refine s_iload_n 5 rfl rfl rfl ?_
    refine s_bipush 16 7 rfl rfl (by decide) ?_
    refine s_icmp_ge 14 10 rfl rfl (by decide) (fun c2 => ?_) (fun c2 => ?_)
    -- Top_isFact 10: branch 14 10
    · rw [bi_f (fun q => q.2 c2)] at hq
      refine s_iconst 0 15 rfl rfl (by decide) ?_
      -- Top_isFact 15: ireturn
      exact s_ireturn rfl .boolean rfl rfl (hq)
    · rw [bi_t ⟨c1, c2⟩] at hq
      refine s_iconst 1 11 rfl rfl (by decide) ?_
      refine s_goto 15 rfl (by decide) ?_
      -- Top_isFact 15: ireturn
      exact s_ireturn rfl .boolean rfl rfl (hq)
theorem m_Top_isSet {x : Int32} (hq : Q (some (.int (bi (¬ x < 0 ∧ ¬ nI 65536 ≤ x)))) M) : ax_G g mt_Top_isSet h 0 0 0 [.int x] [] M Q := by
  refine s_iload_n 1 rfl rfl rfl ?_
  refine s_if_lt 15 4 rfl rfl (by decide) (fun c1 => ?_) (fun c1 => ?_)
  -- Top_isSet 4: branch 15 4
  · rw [bi_f (fun q => q.1 c1)] at hq
    refine s_iconst 0 16 rfl rfl (by decide) ?_
    -- Top_isSet 16: ireturn
    exact s_ireturn rfl .boolean rfl rfl (hq)
  · refine s_iload_n 5 rfl rfl rfl ?_
    refine s_ldc_w 65536 8 rfl rfl kw_Top_329 ?_
    refine s_icmp_ge 15 11 rfl rfl (by decide) (fun c2 => ?_) (fun c2 => ?_)
    -- Top_isSet 11: branch 15 11
    · rw [bi_f (fun q => q.2 c2)] at hq
      refine s_iconst 0 16 rfl rfl (by decide) ?_
      -- Top_isSet 16: ireturn
      exact s_ireturn rfl .boolean rfl rfl (hq)
    · rw [bi_t ⟨c1, c2⟩] at hq
      refine s_iconst 1 12 rfl rfl (by decide) ?_
      refine s_goto 16 rfl (by decide) ?_
      -- Top_isSet 16: ireturn
      exact s_ireturn rfl .boolean rfl rfl (hq)
/-- an int is a number below n, or it isn't -/
theorem in_or {x : Int32} {n : Nat} (hn : n < 2147483648) : (∃ k, k < n ∧ x = nI k) ∨ (x < 0 ∨ nI n ≤ x) := by
  rcases pk_ix x hn with q | q | q
  · exact Or.inr (Or.inl q)
  · exact Or.inr (Or.inr q)
  · exact Or.inl q
theorem in_bi {x : Int32} {n k : Nat} (hk : k < n) (hn : n < 2147483648) (e : x = nI k) : ¬ x < 0 ∧ ¬ nI n ≤ x := by
  subst e
  exact ⟨nI_pos (by omega), nI_ge hk (by omega)⟩
theorem in_no {x : Int32} {n : Nat} (c : x < 0 ∨ nI n ≤ x) : ¬ (¬ x < 0 ∧ ¬ nI n ≤ x) := fun q => c.elim q.1 q.2
/-- the reference's in(x, 0, n - 1) -/
theorem in_le {x : Int32} {n k : Nat} (hk : k < n) (hn : n < 2147483648) (e : x = nI k) : 0 ≤ x ∧ x ≤ nI n - 1 := by
  subst e
  obtain ⟨m, rfl⟩ : ∃ m, n = m + 1 := ⟨n - 1, by omega⟩
  rw [nI_pred]
  exact ⟨nI_pos' (by omega), nI_le (by omega) (by omega)⟩
theorem in_nle {x : Int32} {n : Nat} (hn : n < 2147483648) (c : x < 0 ∨ nI n ≤ x) : ¬ (0 ≤ x ∧ x ≤ nI n - 1) := by
  rintro ⟨q1, q2⟩
  rcases c with c | c
  · exact absurd c (Int32.not_lt.mpr q1)
  · rcases Nat.eq_zero_or_pos n with z | z
    · subst z
      have : x ≤ -1 := q2
      exact absurd (Int32.le_trans q1 this) (by decide)
    · obtain ⟨m, rfl⟩ : ∃ m, n = m + 1 := ⟨n - 1, by omega⟩
      rw [nI_pred] at q2
      exact absurd (nn_le (Int32.le_trans c q2)) (by omega)
theorem c_chosen {x : Int32} {dw nw cm : Nat} {bl pa sz : Int32} {cr : Nat → Int32} (h_this : oC M 0 11 (tp_f dw nw bl pa)) (h_ranks : oC M 69 6 [.ref 70, .ref 71, .int sz, .int (nI cm), .ref 72]) (h_chosenRow : iA M 71 50 cr) (hcm : cm ≤ 50) (h1 : x < 0 → Q (some (.int (-2))) M) (h2 : nI cm ≤ x → Q (some (.int (-1))) M) (h3 : ∀ k, k < cm → x = nI k → Q (some (.int (cr k))) M) : ax_G g mt_Top_chosen h 0 0 0 [.ref 0, .int x] [] M Q := by
  refine s_iload_n 1 rfl rfl rfl ?_
  refine s_if_ge 7 4 rfl rfl (by decide) (fun c1 => ?_) (fun c1 => ?_)
  -- Top_chosen 4: branch 7 4
  · refine s_iload_n 8 rfl rfl rfl ?_
    refine s_aload_n 9 rfl rfl rfl ?_
    refine s_getfield 11 6 12 rfl rfl fl_Top_52 h_this rfl ?_
    refine s_getfield 6 3 15 rfl rfl fl_Top_293 h_ranks rfl ?_
    refine s_icmp_ge 30 18 rfl rfl (by decide) (fun c2 => ?_) (fun c2 => ?_)
    -- Top_chosen 18: branch 30 18
    · refine s_iconst (-1) 31 rfl rfl (by decide) ?_
      -- Top_chosen 31: ireturn
      exact s_ireturn rfl .int rfl rfl (h2 c2)
    · obtain ⟨k, hk, rfl⟩ := nI_of (Int32.not_lt.mpr c1)
      have hk := nn_nle c2
      refine s_aload_n 19 rfl rfl rfl ?_
      refine s_getfield 11 6 22 rfl rfl fl_Top_52 h_this rfl ?_
      refine s_getfield 6 1 25 rfl rfl fl_Top_296 h_ranks rfl ?_
      refine s_iload_n 26 rfl rfl rfl ?_
      refine s_iaload (k) 27 rfl rfl h_chosenRow rfl (by omega) (by decide) ?_
      refine s_goto 31 rfl (by decide) ?_
      -- Top_chosen 31: ireturn
      exact s_ireturn rfl .int rfl rfl (h3 k hk rfl)
  · refine s_bipush (-2) 6 rfl rfl (by decide) ?_
    -- Top_chosen 6: ireturn
    exact s_ireturn rfl .int rfl rfl (h1 (Int32.not_le.mp c1))
theorem d_chosen {x : Int32} {cm : Nat} {n bl ln dr al ru pv si pa os gm tk pl bh : Int32} {va : Int64} {iw od : Int32} {cr : Nat → Int32} (h_this : oC M 143 12 (md_f n bl ln dr al ru pv si pa (nI cm) os gm tk pl bh va iw od)) (h_chosen : iA M 180 50 cr) (hcm : cm ≤ 50) (h1 : x < 0 → Q (some (.int (-2))) M) (h2 : nI cm ≤ x → Q (some (.int (-1))) M) (h3 : ∀ k, k < cm → x = nI k → Q (some (.int (cr k))) M) : ax_G g mt_Mod_chosen h 0 0 0 [.ref 143, .int x] [] M Q := by
  refine s_iload_n 1 rfl rfl rfl ?_
  refine s_if_ge 9 4 rfl rfl (by decide) (fun c1 => ?_) (fun c1 => ?_)
  -- Mod_chosen 4: branch 9 4
  · refine s_iload_n 10 rfl rfl rfl ?_
    refine s_aload_n 11 rfl rfl rfl ?_
    refine s_getfield 12 53 14 rfl rfl fl_Mod_337 h_this rfl ?_
    refine s_icmp_ge 26 17 rfl rfl (by decide) (fun c2 => ?_) (fun c2 => ?_)
    -- Mod_chosen 17: branch 26 17
    · refine s_iconst (-1) 27 rfl rfl (by decide) ?_
      -- Mod_chosen 27: ireturn
      exact s_ireturn rfl .int rfl rfl (h2 c2)
    · obtain ⟨k, hk, rfl⟩ := nI_of (Int32.not_lt.mpr c1)
      have hk := nn_nle c2
      refine s_aload_n 18 rfl rfl rfl ?_
      refine s_getfield 12 52 21 rfl rfl fl_Mod_120 h_this rfl ?_
      refine s_iload_n 22 rfl rfl rfl ?_
      refine s_iaload (k) 23 rfl rfl h_chosen rfl (by omega) (by decide) ?_
      refine s_goto 27 rfl (by decide) ?_
      -- Mod_chosen 27: ireturn
      exact s_ireturn rfl .int rfl rfl (h3 k hk rfl)
  · refine s_bipush (-2) 6 rfl rfl (by decide) ?_
    refine s_goto 27 rfl (by decide) ?_
    -- Mod_chosen 27: ireturn
    exact s_ireturn rfl .int rfl rfl (h1 (Int32.not_le.mp c1))
theorem both_chosen (x : Int32) : BI g (Rel g) mt_Top_chosen mt_Mod_chosen [.int x] := by
  intro M hR
  have hR' := hR
  obtain ⟨n, bl, ln, dr, al, ru, si, pa, cm, os, dw, nw, pv, gm, tk, pl, bh, va, iw, od, h0, h143, hT, hL, hA, hF, hS, hO, hU, ⟨sz, rw, cr, pf, c2, x1, x2, x3, x4, x5, x6, x7⟩, hX, hz⟩ := hR
  refine c_chosen h0 x1 x3 x6 (fun c => ?_) (fun c => ?_) (fun k hk e => ?_)
  · refine ⟨_, rfl, ⟨_, h143⟩, d_chosen h143 x5 x6 (fun _ => ⟨rfl, hR'⟩) (fun c' => ?_) (fun k hk e => absurd (e ▸ c) (nI_pos (by omega)))⟩
    exact absurd (Int32.lt_of_le_of_lt c' c) (nI_pos (by omega))
  · refine ⟨_, rfl, ⟨_, h143⟩, d_chosen h143 x5 x6 (fun c' => absurd (Int32.lt_of_le_of_lt c c') (nI_pos (by omega))) (fun _ => ⟨rfl, hR'⟩) (fun k hk e => absurd (e ▸ c) (nI_ge hk (by omega)))⟩
  · subst e
    refine ⟨_, rfl, ⟨_, h143⟩, d_chosen h143 x5 x6 (fun c' => absurd c' (nI_pos (by omega))) (fun c' => absurd c' (nI_ge hk (by omega))) (fun k' hk' e' => ?_)⟩
    obtain rfl : k = k' := nn_eq e'
    rw [x7 k hk]
    exact ⟨rfl, hR'⟩
theorem c_outByte {x : Int32} {dw nw os : Nat} {bl pa : Int32} {f : Nat → Int32} (h_this : oC M 0 11 (tp_f dw nw bl pa)) (h_list : oC M 3 7 [.ref 4, .int (nI os)]) (h_b : bA M 4 800 f) (hos : os ≤ 800) (h1 : (x < 0 ∨ nI os ≤ x) → Q (some (.int (-1))) M) (h2 : ∀ k, k < os → x = nI k → Q (some (.int (f k &&& 255))) M) : ax_G g mt_Top_outByte (h + 1) 0 0 0 [.ref 0, .int x] [] M Q := by
  refine s_aload_n 1 rfl rfl rfl ?_
  refine s_getfield 11 1 4 rfl rfl fl_Top_18 h_this rfl ?_
  refine s_iload_n 5 rfl rfl rfl ?_
  refine c_callV1 h 8 rfl rfl mv_Top_263 (by omega) (Nat.le_of_ble_eq_true rfl) (Nat.le_of_ble_eq_true rfl) h_list rfl rfl ?_
  -- Top_outByte 8: call Row_at
  refine m_Row_at h_list h_b hos (by omega) ?_
  dsimp only [ax_rs]
  rcases in_or (x := x) (n := os) (by omega) with ⟨k, hk, rfl⟩ | c
  · rw [rw_at_in hk (by omega)]
    exact s_ireturn rfl .int rfl rfl (h2 k hk rfl)
  · have e : rw_at f os x = -1 := by
      unfold rw_at
      rcases c with c | c
      · rw [if_pos c]
      · by_cases z : x < 0
        · rw [if_pos z]
        · rw [if_neg z, if_pos c]
    rw [e]
    exact s_ireturn rfl .int rfl rfl (h1 c)
theorem d_outByte {x : Int32} {os : Nat} {n bl ln dr al ru pv si pa cm gm tk pl bh : Int32} {va : Int64} {iw od : Int32} {f : Nat → Int32} (h_this : oC M 143 12 (md_f n bl ln dr al ru pv si pa cm (nI os) gm tk pl bh va iw od)) (h_out : iA M 182 800 f) (hos : os ≤ 800) (h1 : (x < 0 ∨ nI os ≤ x) → Q (some (.int (-1))) M) (h2 : ∀ k, k < os → x = nI k → Q (some (.int (f k))) M) : ax_G g mt_Mod_outByte (h + 1) 0 0 0 [.ref 143, .int x] [] M Q := by
  refine s_iload_n 1 rfl rfl rfl ?_
  refine s_i2l 2 rfl rfl ?_
  refine s_lconst 0 3 rfl rfl (by decide) ?_
  refine s_aload_n 4 rfl rfl rfl ?_
  refine s_getfield 12 56 7 rfl rfl fl_Mod_347 h_this rfl ?_
  refine s_iconst 1 8 rfl rfl (by decide) ?_
  refine s_isub 9 rfl rfl ?_
  refine s_i2l 10 rfl rfl ?_
  refine c_callS3 h 13 rfl rfl mv_Mod_134 (by omega) (Nat.le_of_ble_eq_true rfl) (Nat.le_of_ble_eq_true rfl) ?_
  -- Mod_outByte 13: call Mod_in
  refine m_Mod_inI (lo := 0) (hi := nI os - 1) (by decide) rfl ?_
  dsimp only [ax_rs]
  rcases in_or (x := x) (n := os) (by omega) with ⟨k, hk, rfl⟩ | c
  · rw [bi_t (in_le hk (by omega) rfl)]
    refine s_if_eq 25 16 rfl rfl (by decide) (fun c1 => ?_) (fun c1 => ?_)
    -- Mod_outByte 16: branch 25 16
    · exact absurd c1 (by decide)
    · refine s_aload_n 17 rfl rfl rfl ?_
      refine s_getfield 12 55 20 rfl rfl fl_Mod_126 h_this rfl ?_
      refine s_iload_n 21 rfl rfl rfl ?_
      refine s_iaload (k) 22 rfl rfl h_out rfl (by omega) (by decide) ?_
      refine s_goto 26 rfl (by decide) ?_
      -- Mod_outByte 26: ireturn
      exact s_ireturn rfl .int rfl rfl (h2 k hk rfl)
  · rw [bi_f (in_nle (by omega) c)]
    refine s_if_eq 25 16 rfl rfl (by decide) (fun c2 => ?_) (fun c2 => ?_)
    -- Mod_outByte 16: branch 25 16
    · refine s_iconst (-1) 26 rfl rfl (by decide) ?_
      -- Mod_outByte 26: ireturn
      exact s_ireturn rfl .int rfl rfl (h1 c)
    · exact absurd rfl c2
theorem both_outByte (x : Int32) : BI g (Rel g) mt_Top_outByte mt_Mod_outByte [.int x] := by
  intro M hR
  have hR' := hR
  obtain ⟨n, bl, ln, dr, al, ru, si, pa, cm, os, dw, nw, pv, gm, tk, pl, bh, va, iw, od, h0, h143, hT, hL, hA, hF, hS, hO, ⟨f1, f2, u1, u2, u3, u4, u5⟩, hC, hX, hz⟩ := hR
  refine c_outByte (h := 10) h0 u1 u2 u4 (fun c => ?_) (fun k hk e => ?_)
  · exact ⟨_, rfl, ⟨_, h143⟩, d_outByte (h := 10) h143 u3 u4 (fun _ => ⟨rfl, hR'⟩) (fun k hk e => absurd (in_bi hk (by omega) e) (in_no c))⟩
  · subst e
    refine ⟨_, rfl, ⟨_, h143⟩, d_outByte (h := 10) h143 u3 u4 (fun c => absurd (in_bi hk (by omega) rfl) (in_no c)) (fun k' hk' e' => ?_)⟩
    obtain rfl : k = k' := nn_eq e'
    rw [(u5 k hk).1]
    exact ⟨rfl, hR'⟩
theorem c_partner {x : Int32} {dw nw ln : Nat} {bl pa : Int32} {nb : Nat → Int32} (h_this : oC M 0 11 (tp_f dw nw bl pa)) (h_now : oC M nw 2 [.ref (nw + 1), .ref (nw + 2), .ref (nw + 3), .int (nI ln)]) (h_before : iA M (nw + 3) 40 nb) (hln : ln ≤ 40) (h1 : (x < 0 ∨ nI ln ≤ x) → Q (some (.int (-2))) M) (h2 : ∀ k, k < ln → x = nI k → Q (some (.int (nb k))) M) : ax_G g mt_Top_partner (h + 1) 0 0 0 [.ref 0, .int x] [] M Q := by
  refine s_aload_n 1 rfl rfl rfl ?_
  refine s_getfield 11 13 4 rfl rfl fl_Top_87 h_this rfl ?_
  refine s_iload_n 5 rfl rfl rfl ?_
  refine c_callV1 h 8 rfl rfl mv_Top_132 (by omega) (Nat.le_of_ble_eq_true rfl) (Nat.le_of_ble_eq_true rfl) h_now rfl rfl ?_
  -- Top_partner 8: call Lines_has
  refine m_Lines_has h_now ?_
  dsimp only [ax_rs]
  rcases in_or (x := x) (n := ln) (by omega) with ⟨k, hk, rfl⟩ | c
  · rw [bi_t (in_bi hk (by omega) rfl)]
    refine s_if_eq 23 11 rfl rfl (by decide) (fun c1 => ?_) (fun c1 => ?_)
    -- Top_partner 11: branch 23 11
    · exact absurd c1 (by decide)
    · refine s_aload_n 12 rfl rfl rfl ?_
      refine s_getfield 11 13 15 rfl rfl fl_Top_87 h_this rfl ?_
      refine s_getfield 2 2 18 rfl rfl fl_Top_135 h_now rfl ?_
      refine s_iload_n 19 rfl rfl rfl ?_
      refine s_iaload (k) 20 rfl rfl h_before rfl (by omega) (by decide) ?_
      refine s_goto 25 rfl (by decide) ?_
      -- Top_partner 25: ireturn
      exact s_ireturn rfl .int rfl rfl (h2 k hk rfl)
  · rw [bi_f (in_no c)]
    refine s_if_eq 23 11 rfl rfl (by decide) (fun c2 => ?_) (fun c2 => ?_)
    -- Top_partner 11: branch 23 11
    · refine s_bipush (-2) 25 rfl rfl (by decide) ?_
      -- Top_partner 25: ireturn
      exact s_ireturn rfl .int rfl rfl (h1 c)
    · exact absurd rfl c2
theorem d_partner {x : Int32} {ln : Nat} {n bl dr al ru pv si pa cm os gm tk pl bh : Int32} {va : Int64} {iw od : Int32} {f : Nat → Int32} (h_this : oC M 143 12 (md_f n bl (nI ln) dr al ru pv si pa cm os gm tk pl bh va iw od)) (h_partnerOf : iA M 147 40 f) (hln : ln ≤ 40) (h1 : (x < 0 ∨ nI ln ≤ x) → Q (some (.int (-2))) M) (h2 : ∀ k, k < ln → x = nI k → Q (some (.int (f k))) M) : ax_G g mt_Mod_partner (h + 1) 0 0 0 [.ref 143, .int x] [] M Q := by
  refine s_iload_n 1 rfl rfl rfl ?_
  refine s_i2l 2 rfl rfl ?_
  refine s_lconst 0 3 rfl rfl (by decide) ?_
  refine s_aload_n 4 rfl rfl rfl ?_
  refine s_getfield 12 3 7 rfl rfl fl_Mod_149 h_this rfl ?_
  refine s_iconst 1 8 rfl rfl (by decide) ?_
  refine s_isub 9 rfl rfl ?_
  refine s_i2l 10 rfl rfl ?_
  refine c_callS3 h 13 rfl rfl mv_Mod_134 (by omega) (Nat.le_of_ble_eq_true rfl) (Nat.le_of_ble_eq_true rfl) ?_
  -- Mod_partner 13: call Mod_in
  refine m_Mod_inI (lo := 0) (hi := nI ln - 1) (by decide) rfl ?_
  dsimp only [ax_rs]
  rcases in_or (x := x) (n := ln) (by omega) with ⟨k, hk, rfl⟩ | c
  · rw [bi_t (in_le hk (by omega) rfl)]
    refine s_if_eq 25 16 rfl rfl (by decide) (fun c1 => ?_) (fun c1 => ?_)
    -- Mod_partner 16: branch 25 16
    · exact absurd c1 (by decide)
    · refine s_aload_n 17 rfl rfl rfl ?_
      refine s_getfield 12 6 20 rfl rfl fl_Mod_19 h_this rfl ?_
      refine s_iload_n 21 rfl rfl rfl ?_
      refine s_iaload (k) 22 rfl rfl h_partnerOf rfl (by omega) (by decide) ?_
      refine s_goto 27 rfl (by decide) ?_
      -- Mod_partner 27: ireturn
      exact s_ireturn rfl .int rfl rfl (h2 k hk rfl)
  · rw [bi_f (in_nle (by omega) c)]
    refine s_if_eq 25 16 rfl rfl (by decide) (fun c2 => ?_) (fun c2 => ?_)
    -- Mod_partner 16: branch 25 16
    · refine s_bipush (-2) 27 rfl rfl (by decide) ?_
      -- Mod_partner 27: ireturn
      exact s_ireturn rfl .int rfl rfl (h1 c)
    · exact absurd rfl c2
theorem both_partner (x : Int32) : BI g (Rel g) mt_Top_partner mt_Mod_partner [.int x] := by
  intro M hR
  have hR' := hR
  obtain ⟨n, bl, ln, dr, al, ru, si, pa, cm, os, dw, nw, pv, gm, tk, pl, bh, va, iw, od, h0, h143, hT, ⟨hw, nf, nm, nb, df, dm, db, mf, mm, mp, gf, gm2, l1, l2, l3, l4, l5, l6, l7, l8, l9, l10, l11, l12, l13, l14, l15, l16, l17⟩, hA, hF, hS, hO, hU, hC, hX, hz⟩ := hR
  refine c_partner (h := 10) h0 l1 l4 l14 (fun c => ?_) (fun k hk e => ?_)
  · exact ⟨_, rfl, ⟨_, h143⟩, d_partner (h := 10) h143 l11 l14 (fun _ => ⟨rfl, hR'⟩) (fun k hk e => absurd (in_bi hk (by omega) e) (in_no c))⟩
  · subst e
    refine ⟨_, rfl, ⟨_, h143⟩, d_partner (h := 10) h143 l11 l14 (fun c => absurd (in_bi hk (by omega) rfl) (in_no c)) (fun k' hk' e' => ?_)⟩
    obtain rfl : k = k' := nn_eq e'
    rw [(l16 k hk).2.2.1]
    exact ⟨rfl, hR'⟩
end SMALL
