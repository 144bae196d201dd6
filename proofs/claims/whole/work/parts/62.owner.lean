/-! owner -/
def ow_ (fit : Nat → Prop) (o : Nat → Int32) (pa : Nat) (r : Int32) : Prop := (r = -1 ∧ ∀ k, k < pa → ¬ fit k) ∨ ∃ k, k < pa ∧ fit k ∧ (∀ j, k < j → j < pa → ¬ fit j) ∧ r = o k
theorem ow_u {fit : Nat → Prop} {o o2 : Nat → Int32} {pa : Nat} {r r2 : Int32} (ho : ∀ k, k < pa → o k = o2 k) (h1 : ow_ fit o pa r) (h2 : ow_ fit o2 pa r2) : r = r2 := by
  rcases h1 with ⟨a1, a2⟩ | ⟨k, a1, a2, a3, a4⟩
  · rcases h2 with ⟨b1, b2⟩ | ⟨k, b1, b2, b3, b4⟩
    · rw [a1, b1]
    · exact absurd b2 (a2 k b1)
  · rcases h2 with ⟨b1, b2⟩ | ⟨j, b1, b2, b3, b4⟩
    · exact absurd a2 (b2 k a1)
    · rcases Nat.lt_trichotomy k j with w | w | w
      · exact absurd b2 (a3 j w b1)
      · subst w; rw [a4, b4, ho k a1]
      · exact absurd a2 (b3 k w a1)
theorem pt_u {M : ax_M} {b n k n' k' : Nat} {f s f' s' : Nat → Int32} (h1 : pt_ M b n f k s) (h2 : pt_ M b n' f' k' s') : n = n' ∧ f = f' := by
  obtain ⟨-, a2, a3, -, a5⟩ := h1
  obtain ⟨-, b2, b3, -, b5⟩ := h2
  have e := a2.symm.trans b2
  have e2 := a3.symm.trans b3
  simp at e e2
  exact ⟨nn_eq e, e2⟩
section OWN
variable {g : ax_Y} {M : ax_M} {Q : Option Value → ax_M → Prop} {h dw nw i pa : Nat} {bl : Int32} {fit : Nat → Prop} {po : Nat → Int32} {x1 x2 : Nat → Option Nat} {n2 k2 : Nat} {f2 s2 : Nat → Int32} {z2 : Nat → Nat}
theorem m_Top_ownerOf (h_this : oC M 0 11 (tp_f dw nw bl (nI pa))) (h_paths : oA M 75 4 6 x1) (e1 : ∀ i, i < 6 → x1 i = some (87 + 4 * i)) (h_patterns : oA M 76 4 8 x2) (e2 : ∀ i, i < 8 → x2 i = some (111 + 4 * i)) (h_patternOwners : iA M 77 8 po) (hpa : pa ≤ 8) (hi : i < 6) (hX : pq_ M (87 + 4 * i) n2 f2 k2 s2 z2) (hP : ∀ k, k < pa → ∃ n f kk s z, pq_ M (111 + 4 * k) n f kk s z ∧ (fit k ↔ fw_ (ds_ (bx_ n f) z) (pf_ (bx_ n f) (bx_ n2 f2) z z2) k2 kk k2)) (hq : ∀ r, ow_ fit po pa r → Q (some (.int r)) M) : ax_G g mt_Top_ownerOf (h + 5) 0 0 0 [.ref 0, .int (nI i), .float 0] [] M Q := by
  refine s_iload_n 1 rfl rfl rfl ?_
  refine c_callS1 (h+4) 4 rfl rfl mv_Top_104 (by omega) (Nat.le_of_ble_eq_true rfl) (Nat.le_of_ble_eq_true rfl) ?_
  -- Top_ownerOf 4: call Top_isFile
  refine m_Top_isFile ?_
  dsimp only [ax_rs]
  rw [bi_t (in_bi hi (by omega) rfl)]
  refine s_if_ne 9 7 rfl rfl (by decide) (fun c1 => ?_) (fun c1 => ?_)
  -- Top_ownerOf 7: branch 9 7
  · refine s_aload_n 10 rfl rfl rfl ?_
    refine s_getfield 11 15 13 rfl rfl fl_Top_326 h_this rfl ?_
    refine s_iconst 1 14 rfl rfl (by decide) ?_
    refine s_isub 15 rfl rfl ?_
    refine s_ist2 16 rfl rfl rfl ?_
    -- Top_ownerOf 16: end
    have loop : ∀ c, c ≤ pa → (∀ j, c ≤ j → j < pa → ¬ fit j) → ax_G g mt_Top_ownerOf (h + 5) 0 0 16 [.ref 0, .int (nI i), .int (nI c - 1)] [] M Q := by
      intro c
      induction c with
      | zero =>
        intro _ hn
        refine s_iload_n 17 rfl rfl rfl ?_
        refine s_if_lt 51 20 rfl rfl (by decide) (fun c2 => ?_) (fun c2 => ?_)
        -- Top_ownerOf 20: branch 51 20
        · refine s_iconst (-1) 52 rfl rfl (by decide) ?_
          -- Top_ownerOf 52: ireturn
          exact s_ireturn rfl .int rfl rfl (hq _ (Or.inl ⟨rfl, fun k hk => hn k (Nat.zero_le k) hk⟩))
        · exact absurd (by decide) c2
      | succ c ih =>
        intro hc hn
        rw [nI_pred]
        obtain ⟨n, f, kk, s, z, q1, q2⟩ := hP c (by omega)
        have y_pat := e2 c (by omega)
        have y_path := e1 i hi
        refine s_iload_n 17 rfl rfl rfl ?_
        refine s_if_lt 51 20 rfl rfl (by decide) (fun c3 => ?_) (fun c3 => ?_)
        -- Top_ownerOf 20: branch 51 20
        · exact absurd c3 (nI_pos (by omega))
        · refine s_aload_n 21 rfl rfl rfl ?_
          refine s_getfield 11 9 24 rfl rfl fl_Top_69 h_this rfl ?_
          refine s_iload_n 25 rfl rfl rfl ?_
          refine s_aaload 4 "AlarmGroups$Parts" (c) 26 rfl rfl rfl h_patterns rfl (by omega) (by decide) (y_pat) ?_
          refine s_aload_n 27 rfl rfl rfl ?_
          refine s_getfield 11 8 30 rfl rfl fl_Top_65 h_this rfl ?_
          refine s_iload_n 31 rfl rfl rfl ?_
          refine s_aaload 4 "AlarmGroups$Parts" (i) 32 rfl rfl rfl h_paths rfl (by omega) (by decide) (y_path) ?_
          refine c_callV1 (h+4) 35 rfl rfl mv_Top_338 (by omega) (Nat.le_of_ble_eq_true rfl) (Nat.le_of_ble_eq_true rfl) q1.1.1 rfl rfl ?_
          -- Top_ownerOf 35: call Parts_fits
          refine m_Parts_fits (h := h) q1 hX (fun r hr => ?_)
          dsimp only [ax_rs]
          rw [← q2] at hr
          refine s_if_eq 45 38 rfl rfl (by decide) (fun c4 => ?_) (fun c4 => ?_)
          -- Top_ownerOf 38: branch 45 38
          · rw [i01] at c4
            refine s_inc2 _ 48 rfl rfl rfl rfl ?_
            refine s_goto 16 rfl (by decide) ?_
            -- Top_ownerOf 16: end
            rw [dec1]
            refine ih (by omega) (fun j h1 h2 => ?_)
            by_cases w : j = c
            · subst w
              exact fun q => by rw [hr.mpr q] at c4; cases c4
            · exact hn j (by omega) h2
          · rw [i01] at c4
            refine s_aload_n 39 rfl rfl rfl ?_
            refine s_getfield 11 10 42 rfl rfl fl_Top_72 h_this rfl ?_
            refine s_iload_n 43 rfl rfl rfl ?_
            refine s_iaload (c) 44 rfl rfl h_patternOwners rfl (by omega) (by decide) ?_
            -- Top_ownerOf 44: ireturn
            exact s_ireturn rfl .int rfl rfl (hq _ (Or.inr ⟨c, by omega, hr.mp (by simpa using c4), fun j h1 h2 => hn j (by omega) h2, rfl⟩))
    exact loop pa (Nat.le_refl pa) (fun j h1 h2 => by omega)
  · exact absurd c1 (by decide)
theorem m_Top_ownerOf_no {x : Int32} (hx : x < 0) (hq : Q (some (.int (-1))) M) : ax_G g mt_Top_ownerOf (h + 1) 0 0 0 [.ref 0, .int x, .float 0] [] M Q := by
  refine s_iload_n 1 rfl rfl rfl ?_
  refine c_callS1 h 4 rfl rfl mv_Top_104 (by omega) (Nat.le_of_ble_eq_true rfl) (Nat.le_of_ble_eq_true rfl) ?_
  -- Top_ownerOf 4: call Top_isFile
  refine m_Top_isFile ?_
  dsimp only [ax_rs]
  rw [bi_f (fun q => q.1 hx)]
  refine s_if_ne 9 7 rfl rfl (by decide) (fun c1 => ?_) (fun c1 => ?_)
  -- Top_ownerOf 7: branch 9 7
  · exact absurd rfl c1
  · refine s_iconst (-1) 8 rfl rfl (by decide) ?_
    -- Top_ownerOf 8: ireturn
    exact s_ireturn rfl .int rfl rfl (hq)
end OWN
section MOWN
variable {g : ax_Y} {M : ax_M} {Q : Option Value → ax_M → Prop} {h : Nat} {nn bl ln dr al ru pv si cm os gm tk pl bh : Int32} {va : Int64} {iw od : Int32} {pt tz ps pz X o2 : Nat → Int32} {n0 f pa : Nat} {fit : Nat → Prop}
theorem m_Mod_ownerOf {F0 : Nat → Int32} (h_this : oC M 143 12 (md_f nn bl ln dr al ru pv si (nI pa) cm os gm tk pl bh va iw od)) (h_pattern : iA M 175 192 pt) (h_patternSize : iA M 176 8 tz) (h_ownerOfPattern : iA M 177 8 o2) (hpa : pa ≤ 8) (hP : ∀ k, k < pa → ∃ m0 P, tz k = nI m0 ∧ m0 ≤ 24 ∧ (∀ j, j < m0 → pt (24 * k + j) = P j) ∧ (∀ j, m0 ≤ j → P j = 47) ∧ (fit k ↔ gF P X m0 (if n0 = 0 then 0 else n0 + 1) 0 0)) (h_paths : iA M 173 144 ps) (h_pathSize : iA M 174 6 pz) (hf : f < 6) (hzp : pz f = nI n0) (hmp : n0 ≤ 24) (hX : ∀ j, j < n0 → ps (24 * f + j) = X j) (hX2 : ∀ j, n0 ≤ j → X j = 47) (h_fits : zA M 178 676 F0) (hq : ∀ r F, ow_ fit o2 pa r → Q (some (.int r)) (zP M 178 676 F)) : ax_G g mt_Mod_ownerOf (h + 4) 0 0 0 [.ref 143, .int (nI f), .float 0, .float 0] [] M Q := by
  refine s_iconst (-1) 1 rfl rfl (by decide) ?_
  refine s_ist2 2 rfl rfl rfl ?_
  refine s_iconst 0 3 rfl rfl (by decide) ?_
  refine s_ist3 4 rfl rfl rfl ?_
  -- Mod_ownerOf 4: end
  have loop : ∀ (d k : Nat) (r : Int32) (F : Nat → Int32), k + d = pa → ow_ fit o2 k r → ax_G g mt_Mod_ownerOf (h + 4) 0 0 4 [.ref 143, .int (nI f), .int r, .int (nI k)] [] (zP M 178 676 F) Q := by
    intro d
    induction d with
    | zero =>
      intro k r F hk hr
      obtain rfl : k = pa := by omega
      refine s_iload_n 5 rfl rfl rfl ?_
      refine s_aload_n 6 rfl rfl rfl ?_
      refine s_getfield 12 45 9 rfl rfl fl_Mod_306 h_this rfl ?_
      refine s_icmp_ge 38 12 rfl rfl (by decide) (fun c1 => ?_) (fun c1 => ?_)
      -- Mod_ownerOf 12: branch 38 12
      · refine s_iload_n 39 rfl rfl rfl ?_
        -- Mod_ownerOf 39: ireturn
        exact s_ireturn rfl .int rfl rfl (hq r F hr)
      · exact absurd (nn_nle c1) (by omega)
    | succ d ih =>
      intro k r F hk hr
      obtain ⟨m0, P, p1, p2, p3, p4, p5⟩ := hP k (by omega)
      refine s_iload_n 5 rfl rfl rfl ?_
      refine s_aload_n 6 rfl rfl rfl ?_
      refine s_getfield 12 45 9 rfl rfl fl_Mod_306 h_this rfl ?_
      refine s_icmp_ge 38 12 rfl rfl (by decide) (fun c2 => ?_) (fun c2 => ?_)
      -- Mod_ownerOf 12: branch 38 12
      · exact absurd (nn_le c2) (by omega)
      · refine s_aload_n 13 rfl rfl rfl ?_
        refine s_iload_n 14 rfl rfl rfl ?_
        refine s_iload_n 15 rfl rfl rfl ?_
        refine c_callV2 (h+3) 18 rfl rfl mv_Mod_322 (by omega) (Nat.le_of_ble_eq_true rfl) (Nat.le_of_ble_eq_true rfl) h_this rfl rfl ?_
        -- Mod_ownerOf 18: call Mod_doFit
        refine m_Mod_doFit (h := h) (M := zP M 178 676 F) h_this h_pattern h_patternSize (by omega) p1 p2 p3 p4 h_paths h_pathSize hf hzp hmp hX hX2 rfl (fun v F2 hv _ => ?_)
        dsimp only [ax_rs]
        unfold zP
        rw [ax_pp]
        rw [← p5] at hv
        refine s_if_eq 30 21 rfl rfl (by decide) (fun c3 => ?_) (fun c3 => ?_)
        -- Mod_ownerOf 21: branch 30 21
        · refine s_iload_n 31 rfl rfl rfl ?_
          refine s_ist2 32 rfl rfl rfl ?_
          refine s_inc3 _ 35 rfl rfl rfl rfl ?_
          refine s_goto 4 rfl (by decide) ?_
          -- Mod_ownerOf 4: end
          rw [inc1]
          refine ih (k + 1) r F2 (by omega) ?_
          have nf : ¬ fit k := fun q => hv.mpr q c3
          rcases hr with ⟨q1, q2⟩ | ⟨j, q1, q2, q3, q4⟩
          · refine Or.inl ⟨q1, fun j hj => ?_⟩
            by_cases w : j = k
            · subst w; exact nf
            · exact q2 j (by omega)
          · refine Or.inr ⟨j, by omega, q2, fun i h1 h2 => ?_, q4⟩
            by_cases w : i = k
            · subst w; exact nf
            · exact q3 i h1 (by omega)
        · refine s_aload_n 22 rfl rfl rfl ?_
          refine s_getfield 12 48 25 rfl rfl fl_Mod_110 h_this rfl ?_
          refine s_iload_n 26 rfl rfl rfl ?_
          refine s_iaload (k) 27 rfl rfl h_ownerOfPattern rfl (by omega) (by decide) ?_
          refine s_goto 31 rfl (by decide) ?_
          refine s_ist2 32 rfl rfl rfl ?_
          refine s_inc3 _ 35 rfl rfl rfl rfl ?_
          refine s_goto 4 rfl (by decide) ?_
          -- Mod_ownerOf 4: end
          rw [inc1]
          exact ih (k + 1) _ F2 (by omega) (Or.inr ⟨k, by omega, hv.mp c3, fun i h1 h2 => by omega, rfl⟩)
  have h0 := loop pa 0 (-1) F0 (by omega) (Or.inl ⟨rfl, fun k hk => absurd hk (Nat.not_lt_zero k)⟩)
  unfold zP at h0
  rw [ax_id h_fits] at h0
  exact h0
end MOWN
/-- both sides' facts of the owners of file i -/
theorem own_ {M : ax_M} {pa i : Nat} (hO : R_own M pa) (hi : i < 6) : ∃ (x1 x2 : Nat → Option Nat) (po p2 pz pt tz o2 : Nat → Int32) (fit : Nat → Prop) (n2 k2 : Nat) (f2 s2 : Nat → Int32) (z2 : Nat → Nat), oA M 75 4 6 x1 ∧ (∀ i, i < 6 → x1 i = some (87 + 4 * i)) ∧ oA M 76 4 8 x2 ∧ (∀ i, i < 8 → x2 i = some (111 + 4 * i)) ∧ iA M 77 8 po ∧ iA M 173 144 p2 ∧ iA M 174 6 pz ∧ iA M 175 192 pt ∧ iA M 176 8 tz ∧ iA M 177 8 o2 ∧ pa ≤ 8 ∧ (∀ k, k < pa → po k = o2 k) ∧ pq_ M (87 + 4 * i) n2 f2 k2 s2 z2 ∧ (∀ k, k < pa → ∃ n f kk s z, pq_ M (111 + 4 * k) n f kk s z ∧ (fit k ↔ fw_ (ds_ (bx_ n f) z) (pf_ (bx_ n f) (bx_ n2 f2) z z2) k2 kk k2)) ∧ (∀ k, k < pa → ∃ m0 P, tz k = nI m0 ∧ m0 ≤ 24 ∧ (∀ j, j < m0 → pt (24 * k + j) = P j) ∧ (∀ j, m0 ≤ j → P j = 47) ∧ (fit k ↔ gF P (bx_ n2 f2) m0 (if n2 = 0 then 0 else n2 + 1) 0 0)) ∧ pz i = nI n2 ∧ n2 ≤ 24 ∧ (∀ j, j < n2 → p2 (24 * i + j) = bx_ n2 f2 j) ∧ ∀ j, n2 ≤ j → bx_ n2 f2 j = 47 := by
  obtain ⟨⟨x1, y1, y2⟩, ⟨x2, v1, v2⟩, po, p2, pz, pt, tz, o2, o3, o4, o5, o6, o7, o8, o9, o10, o11⟩ := hO
  obtain ⟨n2, f2, k2, s2, q1, ⟨q2, q3⟩, q4, q5⟩ := o10 i hi
  obtain ⟨z2, hX⟩ := pq_of q1 q2 q3
  have n24 := q1.2.2.2.2
  refine ⟨x1, x2, po, p2, pz, pt, tz, o2, fun k => ∃ n f kk s, pt_ M (111 + 4 * k) n f kk s ∧ gF (bx_ n f) (bx_ n2 f2) n (if n2 = 0 then 0 else n2 + 1) 0 0, n2, k2, f2, s2, z2, y1, y2, v1, v2, o3, o4, o5, o6, o7, o8, o9, fun k hk => ?_, hX, fun k hk => ?_, fun k hk => ?_, q4, n24, fun j hj => ?_, fun j hj => ?_⟩
  · obtain ⟨n, f, kk, s, a1, a2⟩ := o11 k (by omega)
    exact (a2 hk).2.2.2.2.1
  · obtain ⟨n, f, kk, s, a1, a2⟩ := o11 k (by omega)
    obtain ⟨⟨b1, b2⟩, b3, b4, b5, b6, b7⟩ := a2 hk
    obtain ⟨z, hz⟩ := pq_of a1 b1 b2
    have hw := hz.2.2.1
    rw [if_neg (by omega : ¬ n = 0)] at hw
    refine ⟨n, f, kk, s, z, hz, ?_⟩
    rw [← gF_main hw hX.2.2.1 (pq_ds hz b2)]
    constructor
    · rintro ⟨n', f', kk', s', c1, c2⟩
      obtain ⟨rfl, rfl⟩ := pt_u a1 c1
      exact c2
    · intro c
      exact ⟨n, f, kk, s, a1, c⟩
  · obtain ⟨n, f, kk, s, a1, a2⟩ := o11 k (by omega)
    obtain ⟨⟨b1, b2⟩, b3, b4, b5, b6, b7⟩ := a2 hk
    refine ⟨n, bx_ n f, b4, a1.2.2.2.2, fun j hj => ?_, fun j hj => ?_, ?_⟩
    · unfold bx_
      rw [if_pos hj]
      exact (b5 j hj).1.symm
    · unfold bx_
      rw [if_neg (by omega)]
    · constructor
      · rintro ⟨n', f', kk', s', c1, c2⟩
        obtain ⟨rfl, rfl⟩ := pt_u a1 c1
        exact c2
      · intro c
        exact ⟨n, f, kk, s, a1, c⟩
  · unfold bx_
    rw [if_pos hj]
    exact (q5 j hj).1.symm
  · unfold bx_
    rw [if_neg (by omega)]
section OWN2
variable {g : ax_Y}
theorem Rel.fits {M : ax_M} {F : Nat → Int32} (hR : Rel g M) : Rel g (zP M 178 676 F) := by
  obtain ⟨n, bl, ln, dr, al, ru, si, pa, cm, os, dw, nw, pv, gm, tk, pl, bh, va, iw, od, h0, h143, hT, hL, hA, hF, hS, hO, hU, hC, hX, hz⟩ := hR
  have key : ∀ i, i ≠ 178 → (zP M 178 676 F).2 i = M.2 i := fun i hi => ax_ne hi rfl
  refine ⟨n, bl, ln, dr, al, ru, si, pa, cm, os, dw, nw, pv, gm, tk, pl, bh, va, iw, od, h0, h143, hT.mv ?_, hL.mv ?_, hA.mv ?_, hF.mv ?_, hS.mv ?_, hO.mv ?_, hU.mv ?_, hC.mv ?_, hX.set (fun i hi => ?_), hz⟩
  case refine_9 =>
    by_cases z : i = 178
    · subst z
      exact Or.inr ⟨_, rfl⟩
    · exact Or.inl (key i z)
  all_goals exact fun k hk => key k (by omega)
theorem both_owner (x : Int32) : BI g (Rel g) mt_Top_owner mt_Mod_owner [.int x] := by
  intro M hR
  have hR' := hR
  obtain ⟨n, bl, ln, dr, al, ru, si, pa, cm, os, dw, nw, pv, gm, tk, pl, bh, va, iw, od, h_this, h143, hT, hL, hA, hF, hS, hO, hU, hC, hX, hz⟩ := hR
  obtain ⟨F0, h178⟩ := (hX.2.2.2.2.2.2.2.2.2.2.2.2.2.2.2.2.2.2.1 : ∃ f, zA M 178 676 f)
  show ax_G g mt_Top_owner 11 0 0 0 [.ref 0, .int x] [] M _
  refine s_iload_n 1 rfl rfl rfl ?_
  refine c_callS1 10 4 rfl rfl mv_Top_104 (by omega) (Nat.le_of_ble_eq_true rfl) (Nat.le_of_ble_eq_true rfl) ?_
  -- Top_owner 4: call Top_isFile
  refine m_Top_isFile ?_
  dsimp only [ax_rs]
  rcases in_or (x := x) (n := 6) (by omega) with ⟨i, hi, rfl⟩ | c
  · rw [bi_t (in_bi hi (by omega) rfl)]
    obtain ⟨x1, x2, po, p2, pz, pt, tz, o2, fit, n2, k2, f2, s2, z2, a1, a2, a3, a4, a5, a6, a7, a8, a9, a10, a11, a12, a13, a14, a15, a16, a17, a18, a19⟩ := own_ hO hi
    refine s_if_eq 15 7 rfl rfl (by decide) (fun c1 => ?_) (fun c1 => ?_)
    -- Top_owner 7: branch 15 7
    · exact absurd c1 (by decide)
    · refine s_aload_n 8 rfl rfl rfl ?_
      refine s_iload_n 9 rfl rfl rfl ?_
      refine c_callV1 10 12 rfl rfl mv_Top_179 (by omega) (Nat.le_of_ble_eq_true rfl) (Nat.le_of_ble_eq_true rfl) h_this rfl rfl ?_
      -- Top_owner 12: call Top_ownerOf
      refine m_Top_ownerOf (h := 5) (fit := fit) h_this a1 a2 a3 a4 a5 a11 hi a13 a14 (fun r hr => ?_)
      dsimp only [ax_rs]
      refine s_goto 17 rfl (by decide) ?_
      -- Top_owner 17: ireturn
      refine s_ireturn rfl .int rfl rfl ⟨_, rfl, ⟨_, h143⟩, ?_⟩
      show ax_G g mt_Mod_owner 11 0 0 0 [.ref 143, .int (nI i)] [] M _
      refine s_iload_n 1 rfl rfl rfl ?_
      refine s_i2l 2 rfl rfl ?_
      refine s_lconst 0 3 rfl rfl (by decide) ?_
      refine s_ldc2_w 5 6 rfl rfl kl_Mod_144 ?_
      refine c_callS3 10 9 rfl rfl mv_Mod_134 (by omega) (Nat.le_of_ble_eq_true rfl) (Nat.le_of_ble_eq_true rfl) ?_
      -- Mod_owner 9: call Mod_in
      refine m_Mod_inI (lo := 0) (hi := nI 6 - 1) (by decide) (by decide) ?_
      dsimp only [ax_rs]
      rw [bi_t (in_le hi (by omega) rfl)]
      refine s_if_eq 20 12 rfl rfl (by decide) (fun c1 => ?_) (fun c1 => ?_)
      -- Mod_owner 12: branch 20 12
      · exact absurd c1 (by decide)
      · refine s_aload_n 13 rfl rfl rfl ?_
        refine s_iload_n 14 rfl rfl rfl ?_
        refine c_callV1 10 17 rfl rfl mv_Mod_195 (by omega) (Nat.le_of_ble_eq_true rfl) (Nat.le_of_ble_eq_true rfl) h143 rfl rfl ?_
        -- Mod_owner 17: call Mod_ownerOf
        refine m_Mod_ownerOf (h := 6) (fit := fit) h143 a8 a9 a10 a11 a15 a6 a7 hi a16 a17 a18 a19 h178 (fun r2 F hr2 => ?_)
        dsimp only [ax_rs]
        refine s_goto 22 rfl (by decide) ?_
        -- Mod_owner 22: ireturn
        rw [ow_u a12 hr hr2]
        exact s_ireturn rfl .int rfl rfl (⟨rfl, hR'.fits⟩)
  · rw [bi_f (in_no c)]
    refine s_if_eq 15 7 rfl rfl (by decide) (fun c1 => ?_) (fun c1 => ?_)
    -- Top_owner 7: branch 15 7
    · refine s_bipush (-2) 17 rfl rfl (by decide) ?_
      -- Top_owner 17: ireturn
      refine s_ireturn rfl .int rfl rfl ⟨_, rfl, ⟨_, h143⟩, ?_⟩
      show ax_G g mt_Mod_owner 11 0 0 0 [.ref 143, .int x] [] M _
      refine s_iload_n 1 rfl rfl rfl ?_
      refine s_i2l 2 rfl rfl ?_
      refine s_lconst 0 3 rfl rfl (by decide) ?_
      refine s_ldc2_w 5 6 rfl rfl kl_Mod_144 ?_
      refine c_callS3 10 9 rfl rfl mv_Mod_134 (by omega) (Nat.le_of_ble_eq_true rfl) (Nat.le_of_ble_eq_true rfl) ?_
      -- Mod_owner 9: call Mod_in
      refine m_Mod_inI (lo := 0) (hi := nI 6 - 1) (by decide) (by decide) ?_
      dsimp only [ax_rs]
      rw [bi_f (in_nle (n := 6) (by omega) c)]
      refine s_if_eq 20 12 rfl rfl (by decide) (fun c1 => ?_) (fun c1 => ?_)
      -- Mod_owner 12: branch 20 12
      · refine s_bipush (-2) 22 rfl rfl (by decide) ?_
        -- Mod_owner 22: ireturn
        exact s_ireturn rfl .int rfl rfl (⟨rfl, hR'⟩)
      · exact absurd rfl c1
    · exact absurd rfl c1
end OWN2
