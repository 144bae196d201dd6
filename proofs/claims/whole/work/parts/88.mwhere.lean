/-! the reference: readWhere -/
theorem uq_e {f : Nat → Int32} {i : Nat} {v : Int32} : upd f i v i = v := by unfold upd; rw [if_pos rfl]
theorem uq_n {f : Nat → Int32} {i j : Nat} {v : Int32} (h : j ≠ i) : upd f i v j = f j := by unfold upd; rw [if_neg h]
theorem ul_e {f : Nat → Int64} {i : Nat} {v : Int64} : vp_updL f i v i = v := by simp [vp_updL]
theorem ul_n {f : Nat → Int64} {i j : Nat} {v : Int64} (h : j ≠ i) : vp_updL f i v j = f j := by simp [vp_updL, h]
theorem iw_u {T : Nat → Int32} {t : Nat × Nat × Nat} {i j : Nat} (h1 : iw_ T t i = true) (h2 : iw_ T t j = true) : ax_sln.getD i 0 = ax_sln.getD j 0 ∧ ∀ m, m < ax_sln.getD i 0 → m < ax_sln.getD j 0 → sb_ i m = sb_ j m := by
  obtain ⟨-, a2, a3⟩ := of_decide_eq_true h1
  obtain ⟨-, b2, b3⟩ := of_decide_eq_true h2
  exact ⟨a2.symm.trans b2, fun m h3 h4 => (a3 m h3).symm.trans (b3 m h4)⟩
theorem iw_l {T : Nat → Int32} {t : Nat × Nat × Nat} {i j : Nat} (h1 : iw_ T t i = true) (h : ax_sln.getD i 0 ≠ ax_sln.getD j 0) : ¬ iw_ T t j = true := fun e => h (iw_u h1 e).1
theorem iw_32 {T : Nat → Int32} {t : Nat × Nat × Nat} (h1 : iw_ T t 3 = true) : ¬ iw_ T t 2 = true := fun e => absurd ((iw_u h1 e).2 0 (by decide) (by decide)) (by decide)
theorem wh_line {T : Nat → Int32} {m : Int32} {k : Nat} (h : iw_ T (ti_ T k) 3 = true) : wh_ T m k = if nu_ T (ti_ T (k + 1)) 0 m = true then (true, k + 2, 0, -1, sx_ 0 1 (vt_ T (ti_ T (k + 1))).toNatClampNeg) else (false, k + 1, 0, 0, 0) := by
  unfold wh_
  rw [if_neg (iw_l h (by decide)), if_neg (iw_32 h), if_pos h]
theorem wh_lines {T : Nat → Int32} {m : Int32} {k : Nat} (h : iw_ T (ti_ T k) 4 = true) : wh_ T m k = if nu_ T (ti_ T (k + 1)) 0 m = true then (if iw_ T (ti_ T (k + 2)) 5 = true then (if nu_ T (ti_ T (k + 3)) (vt_ T (ti_ T (k + 1))) m = true then (true, k + 4, 0, -1, sx_ 0 ((vt_ T (ti_ T (k + 3))).toNatClampNeg + 1 - (vt_ T (ti_ T (k + 1))).toNatClampNeg) (vt_ T (ti_ T (k + 1))).toNatClampNeg) else (false, k + 3, 0, 0, 0)) else (false, k + 2, 0, 0, 0)) else (false, k + 1, 0, 0, 0) := by
  unfold wh_
  rw [if_neg (iw_l h (by decide)), if_neg (iw_l h (by decide)), if_neg (iw_l h (by decide)), if_pos h]
theorem wh_file {T : Nat → Int32} {m : Int32} {k : Nat} (h : iw_ T (ti_ T k) 2 = true) : wh_ T m k = if nu_ T (ti_ T (k + 1)) 0 5 = true then (true, k + 2, 1, vt_ T (ti_ T (k + 1)), 0) else (false, k + 1, 0, 0, 0) := by
  unfold wh_
  rw [if_neg (iw_l h (by decide)), if_pos h]
theorem wh_all {T : Nat → Int32} {m : Int32} {k : Nat} (h : iw_ T (ti_ T k) 1 = true) : wh_ T m k = (true, k + 1, 2, -1, 0) := by
  unfold wh_
  rw [if_pos h]
theorem wh_no {T : Nat → Int32} {m : Int32} {k : Nat} (h1 : iw_ T (ti_ T k) 1 = false) (h2 : iw_ T (ti_ T k) 2 = false) (h3 : iw_ T (ti_ T k) 3 = false) (h4 : iw_ T (ti_ T k) 4 = false) : wh_ T m k = (false, k, 0, 0, 0) := by
  unfold wh_
  rw [if_neg (by rw [h1]; decide), if_neg (by rw [h2]; decide), if_neg (by rw [h3]; decide), if_neg (by rw [h4]; decide)]
/-- the rows of where, file and lines behind a change at place kk -/
def WQ_ (M N : ax_M) (kk : Nat) (wh fi : Nat → Int32) (ls : Nat → Int64) (wh2 fi2 : Nat → Int32) (ls2 : Nat → Int64) : Prop := fr_ M N (fun j => j = 143 ∨ (168 ≤ j ∧ j ≤ 170)) ∧ iA N 168 26 wh2 ∧ iA N 169 26 fi2 ∧ lA N 170 26 ls2 ∧ ∀ i, i ≠ kk → wh2 i = wh i ∧ fi2 i = fi i ∧ ls2 i = ls i
section MWHERE
variable {g : ax_Y} {M N K : ax_M} {Q : Option Value → ax_M → Prop} {h n sz k kk lnn : Nat} {bl dr al ru pv si pa cm os gm tk pl bh : Int32} {va : Int64} {od : Int32} {f1 f2 so sa se wh fi w0 q0 : Nat → Int32} {ls l0 : Nat → Int64}
theorem d_rw2 (hln : lnn ≤ 40) (hkk : kk < 26) (hT : TK_ K f1 f2 n sz so sa se) (hk : k < sz) (hs : ST_ (tb_ f2 n) k tk pl bh va) (frN : fr_ M N (fun j => j = 143 ∨ (168 ≤ j ∧ j ≤ 170))) (n143 : oC N 143 12 (md_f (nI n) bl (nI lnn) dr al ru pv si pa cm os gm tk pl bh va 0 od)) (n144 : iA N 144 160 f2) (n168 : iA N 168 26 w0) (n169 : iA N 169 26 q0) (n170 : lA N 170 26 l0) (hw0 : w0 kk = 0) (hf0 : q0 kk = -1) (hl0 : l0 kk = 0) (hoth : ∀ i, i ≠ kk → w0 i = wh i ∧ q0 i = fi i ∧ l0 i = ls i)
    (h0 : (wh_ (tb_ f2 n) (nI lnn - 1) k).1 = false → ∀ N2 wh2 fi2 ls2 tk2 bh2 va2, WQ_ M N2 kk wh fi ls wh2 fi2 ls2 → oC N2 143 12 (md_f (nI n) bl (nI lnn) dr al ru pv si pa cm os gm tk2 (nI (ti_ (tb_ f2 n) (wh_ (tb_ f2 n) (nI lnn - 1) k).2.1).2.1) bh2 va2 1 od) → Q none N2)
    (h1 : (wh_ (tb_ f2 n) (nI lnn - 1) k).1 = true → ∀ N2 wh2 fi2 ls2 tk2 pl2 bh2 va2, WQ_ M N2 kk wh fi ls wh2 fi2 ls2 → oC N2 143 12 (md_f (nI n) bl (nI lnn) dr al ru pv si pa cm os gm tk2 pl2 bh2 va2 0 od) → ST_ (tb_ f2 n) (wh_ (tb_ f2 n) (nI lnn - 1) k).2.1 tk2 pl2 bh2 va2 → wh2 kk = (wh_ (tb_ f2 n) (nI lnn - 1) k).2.2.1 → fi2 kk = (wh_ (tb_ f2 n) (nI lnn - 1) k).2.2.2.1 → ls2 kk = (wh_ (tb_ f2 n) (nI lnn - 1) k).2.2.2.2 → Q none N2) : ax_G g mt_Mod_readWhere (h + 5) 0 0 21 [.ref 143, .int (nI kk), .float 0, .float 0, .float 0] [] N Q := by
  have stop : ∀ (W : ax_M) (a v : Int32) (tk pl bh : Int32) (va : Int64), oC W 143 12 (md_f (nI n) bl (nI lnn) dr al ru pv si pa cm os gm tk pl bh va 1 od) → Q none W → ax_G g mt_Mod_readWhere (h + 5) 0 0 116 [.ref 143, .int (nI kk), .int a, .float 0, .float 0] [.int v] W Q := by
    intro W a v tk pl bh va hW hq
    refine s_ist3 117 rfl rfl rfl ?_
    refine s_iload_n 118 rfl rfl rfl ?_
    refine s_ist4 120 rfl rfl rfl ?_
    refine s_iload 122 rfl rfl rfl ?_
    refine s_iload_n 123 rfl rfl rfl ?_
    refine s_icmp_gt 152 126 rfl rfl (by decide) (fun c1 => ?_) (fun c1 => ?_)
    -- Mod_readWhere 126: branch 152 126
    · refine s_goto 209 rfl (by decide) ?_
      -- Mod_readWhere 209: end
      exact s_return rfl rfl (hq)
    · refine s_aload_n 127 rfl rfl rfl ?_
      refine s_getfield 12 42 130 rfl rfl fl_Mod_250 hW rfl ?_
      refine s_if_ne 152 133 rfl rfl (by decide) (fun c2 => ?_) (fun c2 => ?_)
      -- Mod_readWhere 133: branch 152 133
      · refine s_goto 209 rfl (by decide) ?_
        -- Mod_readWhere 209: end
        exact s_return rfl rfl (hq)
      · exact absurd c2 (by decide)
  generalize hm : nI lnn - 1 = m at h0 h1
  generalize hTT : tb_ f2 n = T at h0 h1
  refine s_aload_n 22 rfl rfl rfl ?_
  refine s_ldc2_w 402885 25 rfl rfl kl_Mod_261 ?_
  refine c_callV1 (h+4) 28 rfl rfl mv_Mod_263 (by omega) (Nat.le_of_ble_eq_true rfl) (Nat.le_of_ble_eq_true rfl) n143 rfl rfl ?_
  -- Mod_readWhere 28: call Mod_isWord
  refine d_isWord (h := h + 4) (i := 3) rfl (by decide) hT hk hs n143 ?_
  dsimp only [ax_rs]
  cases e3 : iw_ (tb_ f2 n) (ti_ (tb_ f2 n) k) 3 with
  | true =>
    have k1 := hT.w hk e3
    have ew := wh_line (m := m) e3
    rw [hTT] at ew
    rw [if_pos rfl]
    refine s_if_eq 57 31 rfl rfl (by decide) (fun c1 => ?_) (fun c1 => ?_)
    -- Mod_readWhere 31: branch 57 31
    · exact absurd c1 (by decide)
    · refine s_aload_n 32 rfl rfl rfl ?_
      refine c_callV0 (h+4) 35 rfl rfl mv_Mod_254 (by omega) (Nat.le_of_ble_eq_true rfl) (Nat.le_of_ble_eq_true rfl) n143 rfl rfl ?_
      -- Mod_readWhere 35: call Mod_next
      refine d_next (h := h + 2) hT hk (by rw [iw_1 e3]; decide) (by rw [iw_1 e3]; decide) hs n143 n144 (fun tk2 pl2 bh2 va2 s2 => ?_)
      dsimp only [ax_rs]
      refine s_aload_n 36 rfl rfl rfl ?_
      refine s_getfield 12 35 39 rfl rfl fl_Mod_88 rfl rfl ?_
      refine s_iload_n 40 rfl rfl rfl ?_
      refine s_lconst 1 41 rfl rfl (by decide) ?_
      refine s_aload_n 42 rfl rfl rfl ?_
      refine s_iconst 0 43 rfl rfl (by decide) ?_
      refine s_aload_n 44 rfl rfl rfl ?_
      refine s_getfield 12 3 47 rfl rfl fl_Mod_149 rfl rfl ?_
      refine s_iconst 1 48 rfl rfl (by decide) ?_
      refine s_isub 49 rfl rfl ?_
      refine c_callV2 (h+4) 52 rfl rfl mv_Mod_267 (by omega) (Nat.le_of_ble_eq_true rfl) (Nat.le_of_ble_eq_true rfl) rfl rfl rfl ?_
      -- Mod_readWhere 52: call Mod_number
      refine d_number (h := h) hT k1 s2 rfl n144 (fun e tk3 pl3 bh3 va3 s3 => ?_) (fun e v => ?_)
      · obtain ⟨v, hv, ev⟩ := nu_n (by decide) (by omega) e
        rw [hm, hTT] at e
        rw [hTT] at s3 ev
        rw [if_pos e, ev, nI_clamp (by omega)] at ew
        rw [ew] at h1
        rw [hTT, ev]
        dsimp only [ax_rs]
        refine s_lshl 53 rfl rfl ?_
        refine s_lastore (kk) 54 rfl rfl n170 rfl (by omega) (by decide) ?_
        refine s_goto 209 rfl (by decide) ?_
        -- Mod_readWhere 209: end
        exact s_return rfl rfl (h1 rfl _ _ _ _ _ _ _ _ ⟨((frN.put (by omega)).put (by omega)).put (by omega), n168, n169, rfl, fun i hi => ⟨(hoth i hi).1, (hoth i hi).2.1, (ul_n hi).trans (hoth i hi).2.2⟩⟩ rfl s3 hw0 hf0 (by rw [ul_e]; show _ = (0 : Int64) ||| _; rw [Int64.zero_or]))
      · rw [hm, hTT] at e
        rw [if_neg (by rw [e]; decide)] at ew
        rw [ew] at h0
        have p2 := s2.2.1
        rw [hTT] at p2
        subst p2
        dsimp only [ax_rs]
        refine s_lshl 53 rfl rfl ?_
        refine s_lastore (kk) 54 rfl rfl n170 rfl (by omega) (by decide) ?_
        refine s_goto 209 rfl (by decide) ?_
        -- Mod_readWhere 209: end
        exact s_return rfl rfl (h0 rfl _ _ _ _ _ _ _ ⟨((frN.put (by omega)).put (by omega)).put (by omega), n168, n169, rfl, fun i hi => ⟨(hoth i hi).1, (hoth i hi).2.1, (ul_n hi).trans (hoth i hi).2.2⟩⟩ rfl)
  | false =>
    rw [if_neg (by decide)]
    refine s_if_eq 57 31 rfl rfl (by decide) (fun c2 => ?_) (fun c2 => ?_)
    -- Mod_readWhere 31: branch 57 31
    · refine s_aload_n 58 rfl rfl rfl ?_
      refine s_ldc2_w 12892339 61 rfl rfl kl_Mod_271 ?_
      refine c_callV1 (h+4) 64 rfl rfl mv_Mod_263 (by omega) (Nat.le_of_ble_eq_true rfl) (Nat.le_of_ble_eq_true rfl) n143 rfl rfl ?_
      -- Mod_readWhere 64: call Mod_isWord
      refine d_isWord (h := h + 4) (i := 4) rfl (by decide) hT hk hs n143 ?_
      dsimp only [ax_rs]
      cases e4 : iw_ (tb_ f2 n) (ti_ (tb_ f2 n) k) 4 with
      | true =>
        have k1 := hT.w hk e4
        have ew := wh_lines (m := m) e4
        rw [hTT] at ew
        rw [if_pos rfl]
        refine s_if_eq 155 67 rfl rfl (by decide) (fun c3 => ?_) (fun c3 => ?_)
        -- Mod_readWhere 67: branch 155 67
        · exact absurd c3 (by decide)
        · refine s_aload_n 68 rfl rfl rfl ?_
          refine c_callV0 (h+4) 71 rfl rfl mv_Mod_254 (by omega) (Nat.le_of_ble_eq_true rfl) (Nat.le_of_ble_eq_true rfl) n143 rfl rfl ?_
          -- Mod_readWhere 71: call Mod_next
          refine d_next (h := h + 2) hT hk (by rw [iw_1 e4]; decide) (by rw [iw_1 e4]; decide) hs n143 n144 (fun tk2 pl2 bh2 va2 s2 => ?_)
          dsimp only [ax_rs]
          refine s_aload_n 72 rfl rfl rfl ?_
          refine s_iconst 0 73 rfl rfl (by decide) ?_
          refine s_aload_n 74 rfl rfl rfl ?_
          refine s_getfield 12 3 77 rfl rfl fl_Mod_149 rfl rfl ?_
          refine s_iconst 1 78 rfl rfl (by decide) ?_
          refine s_isub 79 rfl rfl ?_
          refine c_callV2 (h+4) 82 rfl rfl mv_Mod_267 (by omega) (Nat.le_of_ble_eq_true rfl) (Nat.le_of_ble_eq_true rfl) rfl rfl rfl ?_
          -- Mod_readWhere 82: call Mod_number
          refine d_number (h := h) hT k1 s2 rfl n144 (fun e tk3 pl3 bh3 va3 s3 => ?_) (fun e v => ?_)
          · have k2 := hT.u k1 e
            obtain ⟨u, hu, eu⟩ := nu_n (by decide) (by omega) e
            rw [hm, hTT] at e
            rw [hTT] at eu
            rw [if_pos e] at ew
            dsimp only [ax_rs]
            rw [hTT]
            refine s_ist2 83 rfl rfl rfl ?_
            refine s_aload_n 84 rfl rfl rfl ?_
            refine s_aload_n 85 rfl rfl rfl ?_
            refine s_ldc2_w 655 88 rfl rfl kl_Mod_273 ?_
            refine c_callV1 (h+4) 91 rfl rfl mv_Mod_263 (by omega) (Nat.le_of_ble_eq_true rfl) (Nat.le_of_ble_eq_true rfl) rfl rfl rfl ?_
            -- Mod_readWhere 91: call Mod_isWord
            refine d_isWord (h := h + 4) (i := 5) rfl (by decide) hT k2 s3 rfl ?_
            dsimp only [ax_rs]
            cases e5 : iw_ (tb_ f2 n) (ti_ (tb_ f2 n) (k + 1 + 1)) 5 with
            | false =>
              rw [if_neg (by decide)]
              rw [hTT] at e5
              rw [if_neg (by rw [show k + 2 = k + 1 + 1 from rfl, e5]; decide)] at ew
              rw [ew] at h0
              have p3 := s3.2.1
              rw [hTT] at p3
              subst p3
              refine c_callV1 (h+4) 94 rfl rfl mv_Mod_257 (by omega) (Nat.le_of_ble_eq_true rfl) (Nat.le_of_ble_eq_true rfl) rfl rfl rfl ?_
              -- Mod_readWhere 94: call Mod_want
              refine d_wantF rfl ?_
              dsimp only [ax_rs]
              refine s_aload_n 95 rfl rfl rfl ?_
              refine s_getfield 12 42 98 rfl rfl fl_Mod_250 rfl rfl ?_
              refine s_if_eq 105 101 rfl rfl (by decide) (fun c4 => ?_) (fun c4 => ?_)
              -- Mod_readWhere 101: branch 105 101
              · exact absurd c4 (by decide)
              · refine s_iload_n 102 rfl rfl rfl ?_
                refine s_goto 116 rfl (by decide) ?_
                -- Mod_readWhere 116: end
                exact stop _ _ _ _ _ _ _ rfl (h0 rfl _ _ _ _ _ _ _ ⟨((frN.put (by omega)).put (by omega)).put (by omega), n168, n169, n170, hoth⟩ rfl)
            | true =>
              have k3 := hT.w k2 e5
              rw [if_pos rfl]
              refine c_callV1 (h+4) 94 rfl rfl mv_Mod_257 (by omega) (Nat.le_of_ble_eq_true rfl) (Nat.le_of_ble_eq_true rfl) rfl rfl rfl ?_
              -- Mod_readWhere 94: call Mod_want
              refine d_wantT (h := h + 1) hT k2 (by rw [iw_1 e5]; decide) (by rw [iw_1 e5]; decide) s3 rfl n144 (fun tk4 pl4 bh4 va4 s4 => ?_)
              rw [hTT] at e5
              rw [if_pos (by rw [show k + 2 = k + 1 + 1 from rfl]; exact e5)] at ew
              dsimp only [ax_rs]
              refine s_aload_n 95 rfl rfl rfl ?_
              refine s_getfield 12 42 98 rfl rfl fl_Mod_250 rfl rfl ?_
              refine s_if_eq 105 101 rfl rfl (by decide) (fun c5 => ?_) (fun c5 => ?_)
              -- Mod_readWhere 101: branch 105 101
              · refine s_aload_n 106 rfl rfl rfl ?_
                refine s_iload_n 107 rfl rfl rfl ?_
                refine s_aload_n 108 rfl rfl rfl ?_
                refine s_getfield 12 3 111 rfl rfl fl_Mod_149 rfl rfl ?_
                refine s_iconst 1 112 rfl rfl (by decide) ?_
                refine s_isub 113 rfl rfl ?_
                refine c_callV2 (h+4) 116 rfl rfl mv_Mod_267 (by omega) (Nat.le_of_ble_eq_true rfl) (Nat.le_of_ble_eq_true rfl) rfl rfl rfl ?_
                -- Mod_readWhere 116: call Mod_number
                refine d_number (h := h) hT k3 s4 rfl n144 (fun e6 tk5 pl5 bh5 va5 s5 => ?_) (fun e6 v => ?_)
                · obtain ⟨v, hv, ev⟩ := nu_n (by rw [eu, Int32.le_iff_toInt_le, nI_toInt (by omega)]; show (0 : Int) ≤ _; omega) (by omega) e6
                  rw [hm, hTT] at e6
                  rw [hTT] at ev s5
                  rw [if_pos (by rw [show k + 3 = k + 1 + 1 + 1 from rfl]; exact e6), show k + 3 = k + 1 + 1 + 1 from rfl, ev, eu, nI_clamp (by omega), nI_clamp (by omega)] at ew
                  rw [ew] at h1
                  rw [eu]
                  dsimp only [ax_rs]
                  rw [hTT, ev]
                  refine s_ist3 117 rfl rfl rfl ?_
                  refine s_iload_n 118 rfl rfl rfl ?_
                  refine s_ist4 120 rfl rfl rfl ?_
                  -- Mod_readWhere 120: end
                  generalize hW : md_m (md_m (md_m (md_m N (nI n) bl (nI lnn) dr al ru pv si pa cm os gm tk2 pl2 bh2 va2 0 od) (nI n) bl (nI lnn) dr al ru pv si pa cm os gm tk3 pl3 bh3 va3 0 od) (nI n) bl (nI lnn) dr al ru pv si pa cm os gm tk4 pl4 bh4 va4 0 od) (nI n) bl (nI lnn) dr al ru pv si pa cm os gm tk5 pl5 bh5 va5 0 od = W
                  have w143 : oC W 143 12 (md_f (nI n) bl (nI lnn) dr al ru pv si pa cm os gm tk5 pl5 bh5 va5 0 od) := by rw [← hW]; rfl
                  have w168 : iA W 168 26 w0 := by rw [← hW]; exact n168
                  have w169 : iA W 169 26 q0 := by rw [← hW]; exact n169
                  have w170 : lA W 170 26 l0 := by rw [← hW]; exact n170
                  have frW : fr_ M W (fun j => j = 143 ∨ (168 ≤ j ∧ j ≤ 170)) := by
                    rw [← hW]
                    exact (((frN.put (by omega)).put (by omega)).put (by omega)).put (by omega)
                  have loop : ∀ (d i : Nat) (l2 : Nat → Int64), (i + d = v + 1 ∨ (d = 0 ∧ v < i)) → i ≤ 65 → (∀ i, i ≠ kk → l2 i = ls i) → sx_ (l2 kk) d i = sx_ 0 (v + 1 - u) u → ax_G g mt_Mod_readWhere (h + 5) 0 0 120 [.ref 143, .int (nI kk), .int (nI u), .int (nI v), .int (nI i)] [] (lP W 170 26 l2) Q := by
                    intro d
                    induction d with
                    | zero =>
                      intro i l2 hi h65 ho e
                      rw [sx_] at e
                      refine s_iload 122 rfl rfl rfl ?_
                      refine s_iload_n 123 rfl rfl rfl ?_
                      refine s_icmp_gt 152 126 rfl rfl (by decide) (fun c6 => ?_) (fun c6 => ?_)
                      -- Mod_readWhere 126: branch 152 126
                      · refine s_goto 209 rfl (by decide) ?_
                        -- Mod_readWhere 209: end
                        exact s_return rfl rfl (h1 rfl _ _ _ _ _ _ _ _ ⟨frW.put (by omega), w168, w169, rfl, fun i hi => ⟨(hoth i hi).1, (hoth i hi).2.1, ho i hi⟩⟩ w143 s5 hw0 hf0 e)
                      · exact absurd ((nI_ltI (by omega) (by omega)).mpr (by omega)) c6
                    | succ d ih =>
                      intro i l2 hi h65 ho e
                      rw [sx_] at e
                      refine s_iload 122 rfl rfl rfl ?_
                      refine s_iload_n 123 rfl rfl rfl ?_
                      refine s_icmp_gt 152 126 rfl rfl (by decide) (fun c7 => ?_) (fun c7 => ?_)
                      -- Mod_readWhere 126: branch 152 126
                      · exact absurd (nn_lt c7) (by omega)
                      · refine s_aload_n 127 rfl rfl rfl ?_
                        refine s_getfield 12 42 130 rfl rfl fl_Mod_250 w143 rfl ?_
                        refine s_if_ne 152 133 rfl rfl (by decide) (fun c8 => ?_) (fun c8 => ?_)
                        -- Mod_readWhere 133: branch 152 133
                        · exact absurd rfl c8
                        · refine s_aload_n 134 rfl rfl rfl ?_
                          refine s_getfield 12 35 137 rfl rfl fl_Mod_88 w143 rfl ?_
                          refine s_iload_n 138 rfl rfl rfl ?_
                          refine s_dup2 139 rfl rfl rfl rfl ?_
                          refine s_laload (kk) 140 rfl rfl rfl rfl (by omega) (by decide) ?_
                          refine s_lconst 1 141 rfl rfl (by decide) ?_
                          refine s_iload 143 rfl rfl rfl ?_
                          refine s_lshl 144 rfl rfl ?_
                          refine s_lor 145 rfl rfl ?_
                          refine s_lastore (kk) 146 rfl rfl rfl rfl (by omega) (by decide) ?_
                          refine s_inc4 _ 149 rfl rfl rfl rfl ?_
                          refine s_goto 120 rfl (by decide) ?_
                          -- Mod_readWhere 120: end
                          rw [ax_pp, inc1]
                          exact ih (i + 1) _ (by omega) (by omega) (fun i hi => (ul_n hi).trans (ho i hi)) (by rw [ul_e]; exact e)
                  have hl := loop (v + 1 - u) u l0 (by
                    by_cases z : u ≤ v + 1
                    · exact Or.inl (by omega)
                    · exact Or.inr ⟨by omega, by omega⟩) (by omega) (fun i hi => (hoth i hi).2.2) (by rw [hl0])
                  unfold lP at hl
                  rw [ax_id w170] at hl
                  exact hl
                · rw [hm, hTT] at e6
                  rw [if_neg (by rw [show k + 3 = k + 1 + 1 + 1 from rfl, e6]; decide)] at ew
                  rw [ew] at h0
                  have p4 := s4.2.1
                  rw [hTT] at p4
                  subst p4
                  dsimp only [ax_rs]
                  exact stop _ _ _ _ _ _ _ rfl (h0 rfl _ _ _ _ _ _ _ ⟨(((frN.put (by omega)).put (by omega)).put (by omega)).put (by omega), n168, n169, n170, hoth⟩ rfl)
              · exact absurd rfl c5
          · rw [hm, hTT] at e
            rw [if_neg (by rw [e]; decide)] at ew
            rw [ew] at h0
            have p2 := s2.2.1
            rw [hTT] at p2
            subst p2
            dsimp only [ax_rs]
            refine s_ist2 83 rfl rfl rfl ?_
            refine s_aload_n 84 rfl rfl rfl ?_
            refine s_aload_n 85 rfl rfl rfl ?_
            refine s_ldc2_w 655 88 rfl rfl kl_Mod_273 ?_
            refine c_callV1 (h+4) 91 rfl rfl mv_Mod_263 (by omega) (Nat.le_of_ble_eq_true rfl) (Nat.le_of_ble_eq_true rfl) rfl rfl rfl ?_
            -- Mod_readWhere 91: call Mod_isWord
            refine d_isWordG rfl ?_
            dsimp only [ax_rs]
            refine c_callV1 (h+4) 94 rfl rfl mv_Mod_257 (by omega) (Nat.le_of_ble_eq_true rfl) (Nat.le_of_ble_eq_true rfl) rfl rfl rfl ?_
            -- Mod_readWhere 94: call Mod_want
            refine d_wantW rfl ?_
            dsimp only [ax_rs]
            refine s_aload_n 95 rfl rfl rfl ?_
            refine s_getfield 12 42 98 rfl rfl fl_Mod_250 rfl rfl ?_
            refine s_if_eq 105 101 rfl rfl (by decide) (fun c9 => ?_) (fun c9 => ?_)
            -- Mod_readWhere 101: branch 105 101
            · exact absurd c9 (by decide)
            · refine s_iload_n 102 rfl rfl rfl ?_
              refine s_goto 116 rfl (by decide) ?_
              -- Mod_readWhere 116: end
              exact stop _ _ _ _ _ _ _ rfl (h0 rfl _ _ _ _ _ _ _ ⟨(frN.put (by omega)).put (by omega), n168, n169, n170, hoth⟩ rfl)
      | false =>
        rw [if_neg (by decide)]
        refine s_if_eq 155 67 rfl rfl (by decide) (fun c10 => ?_) (fun c10 => ?_)
        -- Mod_readWhere 67: branch 155 67
        · refine s_aload_n 156 rfl rfl rfl ?_
          refine s_ldc2_w 206213 159 rfl rfl kl_Mod_275 ?_
          refine c_callV1 (h+4) 162 rfl rfl mv_Mod_263 (by omega) (Nat.le_of_ble_eq_true rfl) (Nat.le_of_ble_eq_true rfl) n143 rfl rfl ?_
          -- Mod_readWhere 162: call Mod_isWord
          refine d_isWord (h := h + 4) (i := 2) rfl (by decide) hT hk hs n143 ?_
          dsimp only [ax_rs]
          cases e2 : iw_ (tb_ f2 n) (ti_ (tb_ f2 n) k) 2 with
          | true =>
            have k1 := hT.w hk e2
            have ew := wh_file (m := m) e2
            rw [hTT] at ew
            rw [if_pos rfl]
            refine s_if_eq 191 165 rfl rfl (by decide) (fun c11 => ?_) (fun c11 => ?_)
            -- Mod_readWhere 165: branch 191 165
            · exact absurd c11 (by decide)
            · refine s_aload_n 166 rfl rfl rfl ?_
              refine c_callV0 (h+4) 169 rfl rfl mv_Mod_254 (by omega) (Nat.le_of_ble_eq_true rfl) (Nat.le_of_ble_eq_true rfl) n143 rfl rfl ?_
              -- Mod_readWhere 169: call Mod_next
              refine d_next (h := h + 2) hT hk (by rw [iw_1 e2]; decide) (by rw [iw_1 e2]; decide) hs n143 n144 (fun tk2 pl2 bh2 va2 s2 => ?_)
              dsimp only [ax_rs]
              refine s_aload_n 170 rfl rfl rfl ?_
              refine s_getfield 12 33 173 rfl rfl fl_Mod_82 rfl rfl ?_
              refine s_iload_n 174 rfl rfl rfl ?_
              refine s_iconst 1 175 rfl rfl (by decide) ?_
              refine s_iastore (kk) 176 rfl rfl n168 rfl (by omega) (by decide) ?_
              refine s_aload_n 177 rfl rfl rfl ?_
              refine s_getfield 12 34 180 rfl rfl fl_Mod_85 rfl rfl ?_
              refine s_iload_n 181 rfl rfl rfl ?_
              refine s_aload_n 182 rfl rfl rfl ?_
              refine s_iconst 0 183 rfl rfl (by decide) ?_
              refine s_iconst 5 184 rfl rfl (by decide) ?_
              refine c_callV2 (h+4) 187 rfl rfl mv_Mod_267 (by omega) (Nat.le_of_ble_eq_true rfl) (Nat.le_of_ble_eq_true rfl) rfl rfl rfl ?_
              -- Mod_readWhere 187: call Mod_number
              refine d_number (h := h) hT k1 s2 rfl n144 (fun e tk3 pl3 bh3 va3 s3 => ?_) (fun e v => ?_)
              · rw [hTT] at e s3
                rw [if_pos e] at ew
                rw [ew] at h1
                dsimp only [ax_rs]
                rw [hTT]
                refine s_iastore (kk) 188 rfl rfl n169 rfl (by omega) (by decide) ?_
                refine s_goto 209 rfl (by decide) ?_
                -- Mod_readWhere 209: end
                exact s_return rfl rfl (h1 rfl _ _ _ _ _ _ _ _ ⟨(((frN.put (by omega)).put (by omega)).put (by omega)).put (by omega), rfl, rfl, n170, fun i hi => ⟨(uq_n hi).trans (hoth i hi).1, (uq_n hi).trans (hoth i hi).2.1, (hoth i hi).2.2⟩⟩ rfl s3 uq_e uq_e hl0)
              · rw [hTT] at e
                rw [if_neg (by rw [e]; decide)] at ew
                rw [ew] at h0
                have p2 := s2.2.1
                rw [hTT] at p2
                subst p2
                dsimp only [ax_rs]
                refine s_iastore (kk) 188 rfl rfl n169 rfl (by omega) (by decide) ?_
                refine s_goto 209 rfl (by decide) ?_
                -- Mod_readWhere 209: end
                exact s_return rfl rfl (h0 rfl _ _ _ _ _ _ _ ⟨(((frN.put (by omega)).put (by omega)).put (by omega)).put (by omega), rfl, rfl, n170, fun i hi => ⟨(uq_n hi).trans (hoth i hi).1, (uq_n hi).trans (hoth i hi).2.1, (hoth i hi).2.2⟩⟩ rfl)
          | false =>
            rw [if_neg (by decide)]
            refine s_if_eq 191 165 rfl rfl (by decide) (fun c12 => ?_) (fun c12 => ?_)
            -- Mod_readWhere 165: branch 191 165
            · refine s_aload_n 192 rfl rfl rfl ?_
              refine s_getfield 12 33 195 rfl rfl fl_Mod_82 n143 rfl ?_
              refine s_iload_n 196 rfl rfl rfl ?_
              refine s_iconst 2 197 rfl rfl (by decide) ?_
              refine s_iastore (kk) 198 rfl rfl n168 rfl (by omega) (by decide) ?_
              refine s_aload_n 199 rfl rfl rfl ?_
              refine s_aload_n 200 rfl rfl rfl ?_
              refine s_ldc2_w 1420 203 rfl rfl kl_Mod_277 ?_
              refine c_callV1 (h+4) 206 rfl rfl mv_Mod_263 (by omega) (Nat.le_of_ble_eq_true rfl) (Nat.le_of_ble_eq_true rfl) n143 rfl rfl ?_
              -- Mod_readWhere 206: call Mod_isWord
              refine d_isWord (h := h + 4) (i := 1) rfl (by decide) hT hk hs n143 ?_
              dsimp only [ax_rs]
              cases e1 : iw_ (tb_ f2 n) (ti_ (tb_ f2 n) k) 1 with
              | true =>
                have ew := wh_all (m := m) e1
                rw [hTT] at ew
                rw [ew] at h1
                rw [if_pos rfl]
                refine c_callV1 (h+4) 209 rfl rfl mv_Mod_257 (by omega) (Nat.le_of_ble_eq_true rfl) (Nat.le_of_ble_eq_true rfl) n143 rfl rfl ?_
                -- Mod_readWhere 209: call Mod_want
                refine d_wantT (h := h + 1) hT hk (by rw [iw_1 e1]; decide) (by rw [iw_1 e1]; decide) hs n143 n144 (fun tk2 pl2 bh2 va2 s2 => ?_)
                rw [hTT] at s2
                dsimp only [ax_rs]
                exact s_return rfl rfl (h1 rfl _ _ _ _ _ _ _ _ ⟨(frN.put (by omega)).put (by omega), rfl, n169, n170, fun i hi => ⟨(uq_n hi).trans (hoth i hi).1, (hoth i hi).2.1, (hoth i hi).2.2⟩⟩ rfl s2 uq_e hf0 hl0)
              | false =>
                rw [hTT] at e1 e2 e3 e4
                have ew := wh_no (m := m) e1 e2 e3 e4
                rw [ew] at h0
                have p2 := hs.2.1
                rw [hTT] at p2
                subst p2
                rw [if_neg (by decide)]
                refine c_callV1 (h+4) 209 rfl rfl mv_Mod_257 (by omega) (Nat.le_of_ble_eq_true rfl) (Nat.le_of_ble_eq_true rfl) n143 rfl rfl ?_
                -- Mod_readWhere 209: call Mod_want
                refine d_wantF n143 ?_
                dsimp only [ax_rs]
                exact s_return rfl rfl (h0 rfl _ _ _ _ _ _ _ ⟨(frN.put (by omega)).put (by omega), rfl, n169, n170, fun i hi => ⟨(uq_n hi).trans (hoth i hi).1, (hoth i hi).2.1, (hoth i hi).2.2⟩⟩ rfl)
            · exact absurd rfl c12
        · exact absurd rfl c10
    · exact absurd rfl c2
theorem d_readWhere (hln : lnn ≤ 40) (hkk : kk < 26) (hT : TK_ K f1 f2 n sz so sa se) (hk : k < sz) (hs : ST_ (tb_ f2 n) k tk pl bh va) (h_this : oC M 143 12 (md_f (nI n) bl (nI lnn) dr al ru pv si pa cm os gm tk pl bh va 0 od)) (h_text : iA M 144 160 f2) (h_where : iA M 168 26 wh) (h_silenceFile : iA M 169 26 fi) (h_silenceLines : lA M 170 26 ls)
    (h0 : (wh_ (tb_ f2 n) (nI lnn - 1) k).1 = false → ∀ N2 wh2 fi2 ls2 tk2 bh2 va2, WQ_ M N2 kk wh fi ls wh2 fi2 ls2 → oC N2 143 12 (md_f (nI n) bl (nI lnn) dr al ru pv si pa cm os gm tk2 (nI (ti_ (tb_ f2 n) (wh_ (tb_ f2 n) (nI lnn - 1) k).2.1).2.1) bh2 va2 1 od) → Q none N2)
    (h1 : (wh_ (tb_ f2 n) (nI lnn - 1) k).1 = true → ∀ N2 wh2 fi2 ls2 tk2 pl2 bh2 va2, WQ_ M N2 kk wh fi ls wh2 fi2 ls2 → oC N2 143 12 (md_f (nI n) bl (nI lnn) dr al ru pv si pa cm os gm tk2 pl2 bh2 va2 0 od) → ST_ (tb_ f2 n) (wh_ (tb_ f2 n) (nI lnn - 1) k).2.1 tk2 pl2 bh2 va2 → wh2 kk = (wh_ (tb_ f2 n) (nI lnn - 1) k).2.2.1 → fi2 kk = (wh_ (tb_ f2 n) (nI lnn - 1) k).2.2.2.1 → ls2 kk = (wh_ (tb_ f2 n) (nI lnn - 1) k).2.2.2.2 → Q none N2) : ax_G g mt_Mod_readWhere (h + 5) 0 0 0 [.ref 143, .int (nI kk), .float 0, .float 0, .float 0] [] M Q := by
  refine s_aload_n 1 rfl rfl rfl ?_
  refine s_getfield 12 33 4 rfl rfl fl_Mod_82 h_this rfl ?_
  refine s_iload_n 5 rfl rfl rfl ?_
  refine s_iconst 0 6 rfl rfl (by decide) ?_
  refine s_iastore (kk) 7 rfl rfl h_where rfl (by omega) (by decide) ?_
  refine s_aload_n 8 rfl rfl rfl ?_
  refine s_getfield 12 34 11 rfl rfl fl_Mod_85 h_this rfl ?_
  refine s_iload_n 12 rfl rfl rfl ?_
  refine s_iconst (-1) 13 rfl rfl (by decide) ?_
  refine s_iastore (kk) 14 rfl rfl h_silenceFile rfl (by omega) (by decide) ?_
  refine s_aload_n 15 rfl rfl rfl ?_
  refine s_getfield 12 35 18 rfl rfl fl_Mod_88 h_this rfl ?_
  refine s_iload_n 19 rfl rfl rfl ?_
  refine s_lconst 0 20 rfl rfl (by decide) ?_
  refine s_lastore (kk) 21 rfl rfl h_silenceLines rfl (by omega) (by decide) ?_
  -- Mod_readWhere 21: end
  exact d_rw2 hln hkk hT hk hs (((fr_.r.put (by omega)).put (by omega)).put (by omega)) h_this h_text rfl rfl rfl uq_e uq_e ul_e (fun i hi => ⟨uq_n hi, uq_n hi, ul_n hi⟩) h0 h1
end MWHERE
