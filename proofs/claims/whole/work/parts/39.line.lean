/-! line, back, member, why -/
section L39
variable {g : ax_Y} {M : ax_M} {Q : Option Value → ax_M → Prop} {h : Nat} {n bl ln dr al ru pv si pa cm os gm tk pl bh : Int32} {va : Int64} {iw od : Int32} {dw nw : Nat}
theorem c_line {x y : Int32} {dr : Nat} {df dm db : Nat → Int32} (h_this : oC M 0 11 (tp_f dw nw bl pa)) (h_draft : oC M dw 2 [.ref (dw + 1), .ref (dw + 2), .ref (dw + 3), .int (nI dr)]) (h_file : iA M (dw + 1) 40 df) (h_mark : iA M (dw + 2) 40 dm) (h_before : iA M (dw + 3) 40 db) (hd : 79 ≤ dw) (hn : dr ≤ 40) (h1 : (x < 0 ∨ nI 6 ≤ x) → Q (some (.int (-2))) M) (h2 : ∀ c, c < 6 → x = nI c → dr = 40 → Q (some (.int (-4))) M) (h3 : ∀ c, c < 6 → x = nI c → dr < 40 → Q (some (.int (nI (dr + 1)))) (ln_ad M dw (dw + 1) (dw + 2) (dw + 3) dr df dm db x y)) : ax_G g mt_Top_line (h + 1) 0 0 0 [.ref 0, .int x, .int y] [] M Q := by
  refine s_iload_n 1 rfl rfl rfl ?_
  refine c_callS1 h 4 rfl rfl mv_Top_104 (by omega) (Nat.le_of_ble_eq_true rfl) (Nat.le_of_ble_eq_true rfl) ?_
  -- Top_line 4: call Top_isFile
  refine m_Top_isFile ?_
  dsimp only [ax_rs]
  rcases in_or (x := x) (n := 6) (by omega) with ⟨c, hc, rfl⟩ | c
  · rw [bi_t (in_bi hc (by omega) rfl)]
    refine s_if_ne 10 7 rfl rfl (by decide) (fun c1 => ?_) (fun c1 => ?_)
    -- Top_line 7: branch 10 7
    · refine s_aload_n 11 rfl rfl rfl ?_
      refine s_getfield 11 12 14 rfl rfl fl_Top_83 h_this rfl ?_
      refine s_getfield 2 3 17 rfl rfl fl_Top_108 h_draft rfl ?_
      refine s_bipush 40 19 rfl rfl (by decide) ?_
      refine s_icmp_lt 25 22 rfl rfl (by decide) (fun c2 => ?_) (fun c2 => ?_)
      -- Top_line 22: branch 25 22
      · have hru := nn_lt (b := 40) c2
        refine s_aload_n 26 rfl rfl rfl ?_
        refine s_getfield 11 12 29 rfl rfl fl_Top_83 h_this rfl ?_
        refine s_iload_n 30 rfl rfl rfl ?_
        refine s_iload_n 31 rfl rfl rfl ?_
        refine c_callV2 h 34 rfl rfl mv_Top_111 (by omega) (Nat.le_of_ble_eq_true rfl) (Nat.le_of_ble_eq_true rfl) h_draft rfl rfl ?_
        -- Top_line 34: call Lines_add
        refine m_Lines_add h_draft h_file h_mark h_before (by omega) (by omega) (by omega) hru ?_
        dsimp only [ax_rs]
        refine s_aload_n 35 rfl rfl rfl ?_
        refine s_getfield 11 12 38 rfl rfl fl_Top_83 (ax_ne (by omega) (ax_ne (by omega) (ax_ne (by omega) (ax_ne (by omega) h_this)))) rfl ?_
        refine s_getfield 2 3 41 rfl rfl fl_Top_108 ax_eq rfl ?_
        -- Top_line 41: ireturn
        exact s_ireturn rfl .int rfl rfl (h3 c hc rfl hru)
      · refine s_bipush (-4) 24 rfl rfl (by decide) ?_
        -- Top_line 24: ireturn
        exact s_ireturn rfl .int rfl rfl (h2 c hc rfl (by have := nn_nlt (b := 40) c2; omega))
    · exact absurd c1 (by decide)
  · rw [bi_f (in_no c)]
    refine s_if_ne 10 7 rfl rfl (by decide) (fun c3 => ?_) (fun c3 => ?_)
    -- Top_line 7: branch 10 7
    · exact absurd rfl c3
    · refine s_bipush (-2) 9 rfl rfl (by decide) ?_
      -- Top_line 9: ireturn
      exact s_ireturn rfl .int rfl rfl (h1 c)
theorem d_line {x y : Int32} {dr : Nat} {df dm : Nat → Int32} (h_this : oC M 143 12 (md_f n bl ln (nI dr) al ru pv si pa cm os gm tk pl bh va iw od)) (h_draftFile : iA M 148 40 df) (h_draftMark : iA M 149 40 dm) (hn : dr ≤ 40) (h1 : (x < 0 ∨ nI 6 ≤ x) → Q (some (.int (-2))) M) (h2 : ∀ c, c < 6 → x = nI c → dr = 40 → Q (some (.int (-4))) M) (h3 : ∀ c, c < 6 → x = nI c → dr < 40 → Q (some (.int (nI (dr + 1)))) (md_m (iP (iP M 148 40 (upd df dr x)) 149 40 (upd dm dr y)) n bl ln (nI (dr + 1)) al ru pv si pa cm os gm tk pl bh va iw od)) : ax_G g mt_Mod_line (h + 1) 0 0 0 [.ref 143, .int x, .int y] [] M Q := by
  refine s_iload_n 1 rfl rfl rfl ?_
  refine s_i2l 2 rfl rfl ?_
  refine s_lconst 0 3 rfl rfl (by decide) ?_
  refine s_ldc2_w 5 6 rfl rfl kl_Mod_144 ?_
  refine c_callS3 h 9 rfl rfl mv_Mod_134 (by omega) (Nat.le_of_ble_eq_true rfl) (Nat.le_of_ble_eq_true rfl) ?_
  -- Mod_line 9: call Mod_in
  refine m_Mod_inI (lo := 0) (hi := nI 6 - 1) (by decide) (by decide) ?_
  dsimp only [ax_rs]
  rcases in_or (x := x) (n := 6) (by omega) with ⟨c, hc, rfl⟩ | c
  · rw [bi_t (in_le hc (by omega) rfl)]
    refine s_if_ne 15 12 rfl rfl (by decide) (fun c1 => ?_) (fun c1 => ?_)
    -- Mod_line 12: branch 15 12
    · refine s_aload_n 16 rfl rfl rfl ?_
      refine s_getfield 12 7 19 rfl rfl fl_Mod_146 h_this rfl ?_
      refine s_bipush 40 21 rfl rfl (by decide) ?_
      refine s_icmp_ne 27 24 rfl rfl (by decide) (fun c2 => ?_) (fun c2 => ?_)
      -- Mod_line 24: branch 27 24
      · have hru : dr < 40 := by have := nn_ne (b := 40) c2; omega
        refine s_aload_n 28 rfl rfl rfl ?_
        refine s_getfield 12 8 31 rfl rfl fl_Mod_22 h_this rfl ?_
        refine s_aload_n 32 rfl rfl rfl ?_
        refine s_getfield 12 7 35 rfl rfl fl_Mod_146 h_this rfl ?_
        refine s_iload_n 36 rfl rfl rfl ?_
        refine s_iastore (dr) 37 rfl rfl h_draftFile rfl (by omega) (by decide) ?_
        refine s_aload_n 38 rfl rfl rfl ?_
        refine s_getfield 12 9 41 rfl rfl fl_Mod_25 h_this rfl ?_
        refine s_aload_n 42 rfl rfl rfl ?_
        refine s_getfield 12 7 45 rfl rfl fl_Mod_146 h_this rfl ?_
        refine s_iload_n 46 rfl rfl rfl ?_
        refine s_iastore (dr) 47 rfl rfl h_draftMark rfl (by omega) (by decide) ?_
        refine s_aload_n 48 rfl rfl rfl ?_
        refine s_dup 49 rfl rfl rfl ?_
        refine s_getfield 12 7 52 rfl rfl fl_Mod_146 h_this rfl ?_
        refine s_iconst 1 53 rfl rfl (by decide) ?_
        refine s_iadd 54 rfl rfl ?_
        -- Mod_line 54: end
        rw [nI_1]
        refine s_putfield 12 7 (.int) 57 rfl rfl fp_Mod_146 h_this (Nat.le_of_ble_eq_true rfl) ⟨rfl, rfl⟩ (fun h => absurd h (by decide)) ?_
        refine s_aload_n 58 rfl rfl rfl ?_
        refine s_getfield 12 7 61 rfl rfl fl_Mod_146 rfl rfl ?_
        -- Mod_line 61: ireturn
        exact s_ireturn rfl .int rfl rfl (h3 c hc rfl hru)
      · refine s_bipush (-4) 26 rfl rfl (by decide) ?_
        -- Mod_line 26: ireturn
        exact s_ireturn rfl .int rfl rfl (h2 c hc rfl (nn_eq (b := 40) c2))
    · exact absurd c1 (by decide)
  · rw [bi_f (in_nle (n := 6) (by omega) c)]
    refine s_if_ne 15 12 rfl rfl (by decide) (fun c3 => ?_) (fun c3 => ?_)
    -- Mod_line 12: branch 15 12
    · exact absurd rfl c3
    · refine s_bipush (-2) 14 rfl rfl (by decide) ?_
      -- Mod_line 14: ireturn
      exact s_ireturn rfl .int rfl rfl (h1 c)
theorem both_line (x y : Int32) : BI g (Rel g) mt_Top_line mt_Mod_line [.int x, .int y] := by
  intro M hR
  have hR' := hR
  obtain ⟨n, bl, ln, dr, al, ru, si, pa, cm, os, dw, nw, pv, gm, tk, pl, bh, va, iw, od, h0, h143, hT, ⟨hw, nf, nm, nb, df, dm, db, mf, mm, mp, gf, gm2, l1, l2, l3, l4, l5, l6, l7, l8, l9, l10, l11, l12, l13, l14, l15, l16, l17⟩, hA, hF, hS, hO, hU, hC, hX, hz⟩ := hR
  refine c_line (h := 10) h0 l5 l6 l7 l8 (by omega) l15 (fun q => ?_) (fun c b1 b2 b3 => ?_) (fun c b1 b2 b3 => ?_)
  · exact ⟨_, rfl, ⟨_, h143⟩, d_line (h := 10) h143 l12 l13 l15 (fun _ => ⟨rfl, hR'⟩) (fun c b1 b2 b3 => absurd (in_bi b1 (by omega) b2) (in_no q)) (fun c b1 b2 b3 => absurd (in_bi b1 (by omega) b2) (in_no q))⟩
  · exact ⟨_, rfl, ⟨_, h143⟩, d_line (h := 10) h143 l12 l13 l15 (fun q => absurd (in_bi b1 (by omega) b2) (in_no q)) (fun _ _ _ _ => ⟨rfl, hR'⟩) (fun _ _ _ _ => by omega)⟩
  · have k1 : ∀ k, ¬ (dw ≤ k ∧ k ≤ dw + 3) → (ln_ad M dw (dw + 1) (dw + 2) (dw + 3) dr df dm db x y).2 k = M.2 k := fun k hk => ax_ne (by omega) (ax_ne (by omega) (ax_ne (by omega) (ax_ne (by omega) rfl)))
    refine ⟨_, rfl, ⟨_, (k1 143 (by omega)).trans h143⟩, d_line (h := 10) (M := ln_ad M dw (dw + 1) (dw + 2) (dw + 3) dr df dm db x y) ((k1 143 (by omega)).trans h143) ((k1 148 (by omega)).trans l12) ((k1 149 (by omega)).trans l13) l15 (fun q => absurd (in_bi b1 (by omega) b2) (in_no q)) (fun _ _ _ _ => by omega) (fun _ _ _ _ => ⟨rfl, ?_⟩)⟩
    have key : ∀ k, ¬ ((dw ≤ k ∧ k ≤ dw + 3) ∨ k = 143 ∨ k = 148 ∨ k = 149) → (md_m (iP (iP (ln_ad M dw (dw + 1) (dw + 2) (dw + 3) dr df dm db x y) 148 40 (upd gf dr x)) 149 40 (upd gm2 dr y)) (nI n) (nI bl) (nI ln) (nI (dr + 1)) (nI al) (nI ru) pv (nI si) (nI pa) (nI cm) (nI os) gm tk pl bh va iw od).2 k = M.2 k := fun k hk => ax_ne (by omega) (ax_ne (by omega) (ax_ne (by omega) (k1 k (by omega))))
    have kd : ∀ k, k ≤ 86 → (md_m (iP (iP (ln_ad M dw (dw + 1) (dw + 2) (dw + 3) dr df dm db x y) 148 40 (upd gf dr x)) 149 40 (upd gm2 dr y)) (nI n) (nI bl) (nI ln) (nI (dr + 1)) (nI al) (nI ru) pv (nI si) (nI pa) (nI cm) (nI os) gm tk pl bh va iw od).2 k = (ln_ad M dw (dw + 1) (dw + 2) (dw + 3) dr df dm db x y).2 k := fun k hk => ax_ne (by omega) (ax_ne (by omega) (ax_ne (by omega) rfl))
    refine ⟨n, bl, ln, dr + 1, al, ru, si, pa, cm, os, dw, nw, pv, gm, tk, pl, bh, va, iw, od, (key 0 (by omega)).trans h0, rfl, hT.mv ?_, ⟨hw, nf, nm, nb, _, _, _, mf, mm, mp, _, _, (key _ (by omega)).trans l1, (key _ (by omega)).trans l2, (key _ (by omega)).trans l3, (key _ (by omega)).trans l4, (kd _ (by omega)).trans ax_eq, (kd _ (by omega)).trans (ax_ne (by omega) (ax_ne (by omega) (ax_ne (by omega) ax_eq))), (kd _ (by omega)).trans (ax_ne (by omega) (ax_ne (by omega) ax_eq)), (kd _ (by omega)).trans (ax_ne (by omega) ax_eq), (key _ (by omega)).trans l9, (key _ (by omega)).trans l10, (key _ (by omega)).trans l11, rfl, rfl, l14, by omega, l16, fun j hj => ?_⟩, hA.mv ?_, hF.mv ?_, hS.mv ?_, hO.mv ?_, hU.mv ?_, hC.mv ?_, hX.mv ?_, hz⟩
    case refine_2 =>
      unfold upd
      by_cases q : j = dr
      · subst q
        simp only [if_pos]
        exact ⟨trivial, trivial, trivial, c, b1, b2⟩
      · simp only [if_neg q]
        exact l17 j (by omega)
    all_goals exact fun k hk => key k (by omega)
theorem c_back {x y : Int32} {n os : Nat} {f fo : Nat → Int32} (h_this : oC M 0 11 (tp_f dw nw bl pa)) (h_text : oC M 1 7 [.ref 2, .int (nI n)]) (h_bytes : bA M 2 160 f) (hn : n ≤ 160) (h_list : oC M 3 7 [.ref 4, .int (nI os)]) (h_lb : bA M 4 800 fo) (hos : os ≤ 800) (h1 : (¬ ∃ i k, x = nI i ∧ y = nI k ∧ i + k ≤ os) → Q (some (.int (-2))) M) (h2 : ∀ i k, x = nI i → y = nI k → i + k ≤ os → 160 < n + k → Q (some (.int (-4))) M) (h3 : ∀ i k, x = nI i → y = nI k → i + k ≤ os → n + k ≤ 160 → Q (some (.int (nI (n + k)))) (rw_m M 1 2 160 (rw_ap f n fo i k) (n + k))) : ax_G g mt_Top_back (h + 2) 0 0 0 [.ref 0, .int x, .int y] [] M Q := by
  refine s_iload_n 1 rfl rfl rfl ?_
  refine s_if_lt 32 4 rfl rfl (by decide) (fun c1 => ?_) (fun c1 => ?_)
  -- Top_back 4: branch 32 4
  · refine s_bipush (-2) 34 rfl rfl (by decide) ?_
    -- Top_back 34: ireturn
    exact s_ireturn rfl .int rfl rfl (h1 (fun ⟨i, k, e1, e2, e3⟩ => nI_pos (by omega) (e1 ▸ c1)))
  · refine s_iload_n 5 rfl rfl rfl ?_
    refine s_if_lt 32 8 rfl rfl (by decide) (fun c2 => ?_) (fun c2 => ?_)
    -- Top_back 8: branch 32 8
    · refine s_bipush (-2) 34 rfl rfl (by decide) ?_
      -- Top_back 34: ireturn
      exact s_ireturn rfl .int rfl rfl (h1 (fun ⟨i, k, e1, e2, e3⟩ => nI_pos (by omega) (e2 ▸ c2)))
    · obtain ⟨i, hi, rfl⟩ := nI_of c1
      obtain ⟨k, hk, rfl⟩ := nI_of c2
      refine s_iload_n 9 rfl rfl rfl ?_
      refine s_aload_n 10 rfl rfl rfl ?_
      refine s_getfield 11 1 13 rfl rfl fl_Top_18 h_this rfl ?_
      refine c_callV0 (h+1) 16 rfl rfl mv_Top_98 (by omega) (Nat.le_of_ble_eq_true rfl) (Nat.le_of_ble_eq_true rfl) h_list rfl rfl ?_
      -- Top_back 16: call Row_size
      refine m_Row_size h_list ?_
      dsimp only [ax_rs]
      refine s_icmp_gt 32 19 rfl rfl (by decide) (fun c3 => ?_) (fun c3 => ?_)
      -- Top_back 19: branch 32 19
      · refine s_bipush (-2) 34 rfl rfl (by decide) ?_
        -- Top_back 34: ireturn
        exact s_ireturn rfl .int rfl rfl (h1 (fun ⟨i', k', e1, e2, e3⟩ => by have := nn_lt c3; have := nn_eq e1; omega))
      · refine s_iload_n 20 rfl rfl rfl ?_
        refine s_aload_n 21 rfl rfl rfl ?_
        refine s_getfield 11 1 24 rfl rfl fl_Top_18 h_this rfl ?_
        refine c_callV0 (h+1) 27 rfl rfl mv_Top_98 (by omega) (Nat.le_of_ble_eq_true rfl) (Nat.le_of_ble_eq_true rfl) h_list rfl rfl ?_
        -- Top_back 27: call Row_size
        refine m_Row_size h_list ?_
        dsimp only [ax_rs]
        have hio := nn_nlt c3
        refine s_iload_n 28 rfl rfl rfl ?_
        refine s_isub 29 rfl rfl ?_
        -- Top_back 29: end
        rw [pk_sub hio]
        refine s_icmp_le 35 32 rfl rfl (by decide) (fun c4 => ?_) (fun c4 => ?_)
        -- Top_back 32: branch 35 32
        · have hko := nn_le c4
          refine s_iload_n 36 rfl rfl rfl ?_
          refine s_aload_n 37 rfl rfl rfl ?_
          refine s_getfield 11 0 40 rfl rfl fl_Top_14 h_this rfl ?_
          refine c_callV0 (h+1) 43 rfl rfl mv_Top_91 (by omega) (Nat.le_of_ble_eq_true rfl) (Nat.le_of_ble_eq_true rfl) h_text rfl rfl ?_
          -- Top_back 43: call Row_room
          refine m_Row_room h_text h_bytes hn ?_
          dsimp only [ax_rs]
          refine s_icmp_le 49 46 rfl rfl (by decide) (fun c5 => ?_) (fun c5 => ?_)
          -- Top_back 46: branch 49 46
          · have hkr := nn_le c5
            refine s_aload_n 50 rfl rfl rfl ?_
            refine s_getfield 11 0 53 rfl rfl fl_Top_14 h_this rfl ?_
            refine s_aload_n 54 rfl rfl rfl ?_
            refine s_getfield 11 1 57 rfl rfl fl_Top_18 h_this rfl ?_
            refine s_iload_n 58 rfl rfl rfl ?_
            refine s_iload_n 59 rfl rfl rfl ?_
            refine c_callV3 (h+1) 62 rfl rfl mv_Top_318 (by omega) (Nat.le_of_ble_eq_true rfl) (Nat.le_of_ble_eq_true rfl) h_text rfl rfl ?_
            -- Top_back 62: call Row_addPart
            refine m_Row_addPart h_text h_bytes h_list h_lb (by decide) (by decide) (by omega) (by omega) hos (by omega) (by omega) ?_
            dsimp only [ax_rs]
            refine s_aload_n 63 rfl rfl rfl ?_
            refine s_getfield 11 0 66 rfl rfl fl_Top_14 h_this rfl ?_
            refine c_callV0 (h+1) 69 rfl rfl mv_Top_98 (by omega) (Nat.le_of_ble_eq_true rfl) (Nat.le_of_ble_eq_true rfl) rfl rfl rfl ?_
            -- Top_back 69: call Row_size
            refine m_Row_size rfl ?_
            dsimp only [ax_rs]
            exact s_ireturn rfl .int rfl rfl (h3 i k rfl rfl (by omega) (by omega))
          · refine s_bipush (-4) 48 rfl rfl (by decide) ?_
            -- Top_back 48: ireturn
            exact s_ireturn rfl .int rfl rfl (h2 i k rfl rfl (by omega) (by have := nn_nle c5; omega))
        · refine s_bipush (-2) 34 rfl rfl (by decide) ?_
          -- Top_back 34: ireturn
          exact s_ireturn rfl .int rfl rfl (h1 (fun ⟨i', k', e1, e2, e3⟩ => by have := nn_nle c4; have := nn_eq e1; have := nn_eq e2; omega))
theorem d_back {x y : Int32} {n os : Nat} {f fo : Nat → Int32} (h_this : oC M 143 12 (md_f (nI n) bl ln dr al ru pv si pa cm (nI os) gm tk pl bh va iw od)) (h_text : iA M 144 160 f) (hn : n ≤ 160) (h_out : iA M 182 800 fo) (hos : os ≤ 800) (h1 : (¬ ∃ i k, x = nI i ∧ y = nI k ∧ i + k ≤ os) → Q (some (.int (-2))) M) (h2 : ∀ i k, x = nI i → y = nI k → i + k ≤ os → 160 < n + k → Q (some (.int (-4))) M) (h3 : ∀ i k, x = nI i → y = nI k → i + k ≤ os → n + k ≤ 160 → Q (some (.int (nI (n + k)))) (md_m (iP M 144 160 (fun j => if n ≤ j ∧ j < n + k then fo (i + (j - n)) else f j)) (nI (n + k)) bl ln dr al ru pv si pa cm (nI os) gm tk pl bh va iw od)) : ax_G g mt_Mod_back h 0 0 0 [.ref 143, .int x, .int y, .float 0] [] M Q := by
  refine s_iload_n 1 rfl rfl rfl ?_
  refine s_if_lt 22 4 rfl rfl (by decide) (fun c1 => ?_) (fun c1 => ?_)
  -- Mod_back 4: branch 22 4
  · refine s_bipush (-2) 24 rfl rfl (by decide) ?_
    -- Mod_back 24: ireturn
    exact s_ireturn rfl .int rfl rfl (h1 (fun ⟨i, k, e1, e2, e3⟩ => nI_pos (by omega) (e1 ▸ c1)))
  · refine s_iload_n 5 rfl rfl rfl ?_
    refine s_if_lt 22 8 rfl rfl (by decide) (fun c2 => ?_) (fun c2 => ?_)
    -- Mod_back 8: branch 22 8
    · refine s_bipush (-2) 24 rfl rfl (by decide) ?_
      -- Mod_back 24: ireturn
      exact s_ireturn rfl .int rfl rfl (h1 (fun ⟨i, k, e1, e2, e3⟩ => nI_pos (by omega) (e2 ▸ c2)))
    · obtain ⟨i, hi, rfl⟩ := nI_of c1
      obtain ⟨k, hk, rfl⟩ := nI_of c2
      refine s_iload_n 9 rfl rfl rfl ?_
      refine s_i2l 10 rfl rfl ?_
      refine s_iload_n 11 rfl rfl rfl ?_
      refine s_i2l 12 rfl rfl ?_
      -- Mod_back 12: end
      rw [nI_l hi, nI_l hk]
      refine s_ladd 13 rfl rfl ?_
      refine s_aload_n 14 rfl rfl rfl ?_
      refine s_getfield 12 56 17 rfl rfl fl_Mod_347 h_this rfl ?_
      refine s_i2l 18 rfl rfl ?_
      -- Mod_back 18: end
      rw [lN_add, nI_l (n := os) (by omega)]
      refine s_lcmp 19 rfl rfl ?_
      refine s_if_le 25 22 rfl rfl (by decide) (fun c3 => ?_) (fun c3 => ?_)
      -- Mod_back 22: branch 25 22
      · have hio : i + k ≤ os := by
          have c3 : ¬ 0 < lg_cmp (lN (i + k)) (lN os) := Int32.not_lt.mpr c3
          rw [lg_cmp_gt] at c3
          exact (pk_lLE (by omega) (by omega)).mp (Int64.not_lt.mp c3)
        refine s_aload_n 26 rfl rfl rfl ?_
        refine s_getfield 12 1 29 rfl rfl fl_Mod_138 h_this rfl ?_
        refine s_iload_n 30 rfl rfl rfl ?_
        refine s_iadd 31 rfl rfl ?_
        -- Mod_back 31: end
        rw [nI_add]
        refine s_sipush 160 34 rfl rfl (by decide) ?_
        refine s_icmp_le 40 37 rfl rfl (by decide) (fun c4 => ?_) (fun c4 => ?_)
        -- Mod_back 37: branch 40 37
        · have hk2 := nn_le (b := 160) c4
          have h3 := h3 i k rfl rfl hio hk2
          refine s_iconst 0 41 rfl rfl (by decide) ?_
          refine s_ist3 42 rfl rfl rfl ?_
          -- Mod_back 42: end
          have loop : ∀ (d j : Nat), j + d = k → ax_G g mt_Mod_back h 0 0 42 [.ref 143, .int (nI i), .int (nI k), .int (nI j)] [] (md_m (iP M 144 160 (fun z => if n ≤ z ∧ z < n + j then fo (i + (z - n)) else f z)) (nI (n + j)) bl ln dr al ru pv si pa cm (nI os) gm tk pl bh va iw od) Q := by
            intro d
            induction d with
            | zero =>
              intro j hj
              obtain rfl : j = k := by omega
              refine s_iload_n 43 rfl rfl rfl ?_
              refine s_iload_n 44 rfl rfl rfl ?_
              refine s_icmp_ge 80 47 rfl rfl (by decide) (fun c5 => ?_) (fun c5 => ?_)
              -- Mod_back 47: branch 80 47
              · skip
                refine s_aload_n 81 rfl rfl rfl ?_
                refine s_getfield 12 1 84 rfl rfl fl_Mod_138 rfl rfl ?_
                -- Mod_back 84: ireturn
                exact s_ireturn rfl .int rfl rfl (h3)
              · exact absurd (nn_nle c5) (by omega)
            | succ d ih =>
              intro j hj
              refine s_iload_n 43 rfl rfl rfl ?_
              refine s_iload_n 44 rfl rfl rfl ?_
              refine s_icmp_ge 80 47 rfl rfl (by decide) (fun c6 => ?_) (fun c6 => ?_)
              -- Mod_back 47: branch 80 47
              · exact absurd (nn_le c6) (by omega)
              · skip
                refine s_aload_n 48 rfl rfl rfl ?_
                refine s_getfield 12 0 51 rfl rfl fl_Mod_7 rfl rfl ?_
                refine s_aload_n 52 rfl rfl rfl ?_
                refine s_getfield 12 1 55 rfl rfl fl_Mod_138 rfl rfl ?_
                refine s_aload_n 56 rfl rfl rfl ?_
                refine s_getfield 12 55 59 rfl rfl fl_Mod_126 rfl rfl ?_
                refine s_iload_n 60 rfl rfl rfl ?_
                refine s_iload_n 61 rfl rfl rfl ?_
                refine s_iadd 62 rfl rfl ?_
                -- Mod_back 62: end
                rw [nI_add]
                refine s_iaload (i + j) 63 rfl rfl h_out rfl (by omega) (by decide) ?_
                refine s_iastore (n + j) 64 rfl rfl rfl rfl (by omega) (by decide) ?_
                refine s_aload_n 65 rfl rfl rfl ?_
                refine s_dup 66 rfl rfl rfl ?_
                refine s_getfield 12 1 69 rfl rfl fl_Mod_138 rfl rfl ?_
                refine s_iconst 1 70 rfl rfl (by decide) ?_
                refine s_iadd 71 rfl rfl ?_
                refine s_putfield 12 1 (.int) 74 rfl rfl fp_Mod_138 rfl (Nat.le_of_ble_eq_true rfl) ⟨rfl, rfl⟩ (fun h => absurd h (by decide)) ?_
                refine s_inc3 _ 77 rfl rfl rfl rfl ?_
                refine s_goto 42 rfl (by decide) ?_
                -- Mod_back 42: end
                rw [inc1, nI_1]
                have nx := ih (j + 1) (by omega)
                unfold md_m iP oP at nx
                unfold md_m iP oP
                rw [ax_p4]
                have e : upd (fun z => if n ≤ z ∧ z < n + j then fo (i + (z - n)) else f z) (n + j) (fo (i + j)) = (fun z => if n ≤ z ∧ z < n + (j + 1) then fo (i + (z - n)) else f z) := by
                  funext z
                  show (if z = n + j then fo (i + j) else if n ≤ z ∧ z < n + j then fo (i + (z - n)) else f z) = _
                  by_cases q : z = n + j
                  · subst q
                    rw [if_pos rfl, if_pos (by omega), show i + (n + j - n) = i + j by omega]
                  · rw [if_neg q]
                    by_cases q2 : n ≤ z ∧ z < n + j
                    · rw [if_pos q2, if_pos (by omega)]
                    · rw [if_neg q2, if_neg (by omega)]
                rw [e]
                exact nx
          have h0 := loop k 0 (by omega)
          have e : (fun z => if n ≤ z ∧ z < n + 0 then fo (i + (z - n)) else f z) = f := by
            funext z
            rw [if_neg (by omega)]
          rw [e, show n + 0 = n from rfl] at h0
          unfold md_m iP oP at h0
          rw [ax_id h_text, ax_id h_this] at h0
          exact h0
        · refine s_bipush (-4) 39 rfl rfl (by decide) ?_
          -- Mod_back 39: ireturn
          exact s_ireturn rfl .int rfl rfl (h2 i k rfl rfl hio (nn_nle (b := 160) c4))
      · refine s_bipush (-2) 24 rfl rfl (by decide) ?_
        -- Mod_back 24: ireturn
        refine s_ireturn rfl .int rfl rfl (h1 (fun ⟨i', k', e1, e2, e3⟩ => c3 (Int32.not_lt.mp (fun q => ?_))))
        have q : 0 < lg_cmp (lN (i + k)) (lN os) := q
        rw [lg_cmp_gt] at q
        have := (pk_lLT (by omega) (by omega)).mp q
        have := nn_eq e1
        have := nn_eq e2
        omega
theorem both_back (x y : Int32) : BI g (Rel g) mt_Top_back mt_Mod_back [.int x, .int y] := by
  intro M hR
  have hR' := hR
  obtain ⟨n, bl, ln, dr, al, ru, si, pa, cm, os, dw, nw, pv, gm, tk, pl, bh, va, iw, od, h0, h143, ⟨f1, f2, t1, t2, t3, t4, t5⟩, hL, hA, hF, hS, hO, ⟨o1, o2, u1, u2, u3, u4, u5⟩, hC, hX, hz⟩ := hR
  have hU : R_out M os := ⟨o1, o2, u1, u2, u3, u4, u5⟩
  refine c_back (h := 9) h0 t1 t2 t4 u1 u2 u4 (fun q => ?_) (fun i k e1 e2 e3 e4 => ?_) (fun i k e1 e2 e3 e4 => ?_)
  · exact ⟨_, rfl, ⟨_, h143⟩, d_back (h := 11) h143 t3 t4 u3 u4 (fun _ => ⟨rfl, hR'⟩) (fun i k e1 e2 e3 _ => absurd ⟨i, k, e1, e2, e3⟩ q) (fun i k e1 e2 e3 _ => absurd ⟨i, k, e1, e2, e3⟩ q)⟩
  · refine ⟨_, rfl, ⟨_, h143⟩, d_back (h := 11) h143 t3 t4 u3 u4 (fun q => absurd ⟨i, k, e1, e2, e3⟩ q) (fun _ _ _ _ _ _ => ⟨rfl, hR'⟩) (fun i' k' d1 d2 d3 d4 => ?_)⟩
    have := nn_eq (e2.symm.trans d2)
    omega
  · refine ⟨_, rfl, ⟨_, h143⟩, d_back (h := 11) (M := rw_m M 1 2 160 (rw_ap f1 n o1 i k) (n + k)) h143 t3 t4 u3 u4 (fun q => absurd ⟨i, k, e1, e2, e3⟩ q) (fun i' k' d1 d2 d3 d4 => ?_) (fun i' k' d1 d2 d3 d4 => ?_)⟩
    · have := nn_eq (e2.symm.trans d2)
      omega
    · obtain rfl := nn_eq (e2.symm.trans d2)
      obtain rfl := nn_eq (e1.symm.trans d1)
      refine ⟨rfl, Rel.textOf h0 hL hA hF hS hO hU hC hX hz (fun j a b c d => ?_) rfl ⟨_, _, rfl, rfl, rfl, e4, fun j hj => ?_⟩⟩
      · exact ax_ne c (ax_ne d (ax_ne a (ax_ne b rfl)))
      · unfold rw_ap
        dsimp only
        by_cases q : n ≤ j ∧ j < n + k
        · rw [if_pos q, if_pos q, bp_b]
          obtain ⟨z1, z2⟩ := u5 (i + (j - n)) (by omega)
          refine ⟨?_, z2⟩
          rw [z1]
          obtain ⟨c, hc, e⟩ := z2
          rw [e, pk_andN (by omega) 8 (by decide), Nat.mod_eq_of_lt (by omega)]
        · rw [if_neg q, if_neg q]
          exact t5 j (by omega)
end L39
