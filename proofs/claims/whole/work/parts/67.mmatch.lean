/-! match, carryAlarms: the reference -/
section MMA
variable {g : ax_Y} {M : ax_M} {Q : Option Value → ax_M → Prop} {h : Nat} {nn bl al ru pv si pa cm os gm tk pl bh : Int32} {va : Int64} {iw od : Int32} {ln dr : Nat}
theorem m_Mod_match {f : Nat} {mf mm gf gm2 e0 e1 e2 e3 : Nat → Int32} {fo fn : Nat → Nat} {bf wt : Nat → Option Nat} (h_this : oC M 143 12 (md_f nn bl (nI ln) (nI dr) al ru pv si pa cm os gm tk pl bh va iw od)) (h_fileOf : iA M 145 40 mf) (h_markOf : iA M 146 40 mm) (h_draftFile : iA M 148 40 gf) (h_draftMark : iA M 149 40 gm2) (h_wentTo : iA M 150 40 e0) (h_olds : iA M 151 40 e1) (h_news : iA M 152 40 e2) (h_most : iA M 153 1681 e3) (hln : ln ≤ 40) (hdr : dr ≤ 40) (ho : ∀ i, i < ln → (mf i = nI f ↔ decide (fo i = f) = true)) (hn : ∀ j, j < dr → (gf j = nI f ↔ decide (fn j = f) = true)) (hw : rp_ e0 wt ln) (hq : ∀ (N : ax_M) (a b c d : Nat → Int32), fr_ M N (fun k => 150 ≤ k ∧ k ≤ 153) → iA N 150 40 d → iA N 151 40 a → iA N 152 40 b → iA N 153 1681 c → rp_ d (pw_ (fun p q => decide (mm (sel_ (fun i => decide (fo i = f)) ln p) = gm2 (sel_ (fun j => decide (fn j = f)) dr q))) (cnt (fun i => decide (fo i = f)) ln) (cnt (fun j => decide (fn j = f)) dr) (sel_ (fun i => decide (fo i = f)) ln) (sel_ (fun j => decide (fn j = f)) dr) (ln + dr) 0 0 bf wt).2 ln → Q none N) : ax_G g mt_Mod_match h 0 0 0 [.ref 143, .int (nI f), .float 0, .float 0, .float 0, .float 0, .float 0, .float 0, .float 0, .float 0] [] M Q := by
  generalize hpo : (fun i => decide (fo i = f)) = po at hq
  generalize hpn : (fun j => decide (fn j = f)) = pn at hq
  have ho : ∀ i, i < ln → (mf i = nI f ↔ po i = true) := by rw [← hpo]; exact ho
  have hn : ∀ j, j < dr → (gf j = nI f ↔ pn j = true) := by rw [← hpn]; exact hn
  have cO := cnt_le po ln
  have cN := cnt_le pn dr
  -- the pairs
  have part4 : ∀ (a b c : Nat → Int32) (z4 z5 z6 z7 z8 z9 : Value), z4.category = 1 → z5.category = 1 → z6.category = 1 → z7.category = 1 → z8.category = 1 → z9.category = 1 → rs_ a po ln → rs_ b pn dr → mm_ (fun p q => decide (mm (sel_ po ln p) = gm2 (sel_ pn dr q))) (cnt po ln) (cnt pn dr) c (fun _ _ => True) → ax_G g mt_Mod_match h 0 0 260 [.ref 143, .int (nI f), .int (nI (cnt po ln)), .int (nI (cnt pn dr)), z4, z5, z6, z7, z8, z9] [] (iP (iP (iP M 151 40 a) 152 40 b) 153 1681 c) Q := by
    intro a b c z4 z5 z6 z7 z8 z9 _ _ w6 w7 w8 w9 ha hb hc
    generalize hal : (fun p q => decide (mm (sel_ po ln p) = gm2 (sel_ pn dr q))) = al at hq hc
    generalize hO : cnt po ln = O at *
    generalize hN : cnt pn dr = N at *
    refine s_iconst 0 261 rfl rfl (by decide) ?_
    refine s_ist4 263 rfl rfl rfl ?_
    refine s_iconst 0 264 rfl rfl (by decide) ?_
    refine s_ist5 266 rfl rfl rfl ?_
    -- Mod_match 266: end
    have loop : ∀ (d p q : Nat) (e : Nat → Int32) (bf wt : Nat → Option Nat), p ≤ O → q ≤ N → (O - p) + (N - q) ≤ d → rp_ e wt ln → (∀ e, rp_ e (pw_ al O N (sel_ po ln) (sel_ pn dr) d p q bf wt).2 ln → Q none (iP (iP (iP (iP M 151 40 a) 152 40 b) 153 1681 c) 150 40 e)) → ax_G g mt_Mod_match h 0 0 266 [.ref 143, .int (nI f), .int (nI O), .int (nI N), .int (nI p), .int (nI q), z6, z7, z8, z9] [] (iP (iP (iP (iP M 151 40 a) 152 40 b) 153 1681 c) 150 40 e) Q := by
      intro d
      induction d with
      | zero =>
        intro p q e bf wt hp hq' hd he hq
        refine s_iload 268 rfl rfl rfl ?_
        refine s_iload_n 269 rfl rfl rfl ?_
        refine s_icmp_ge 378 272 rfl rfl (by decide) (fun c1 => ?_) (fun c1 => ?_)
        -- Mod_match 272: branch 378 272
        · exact s_return rfl rfl (hq e he)
        · exact absurd (nn_nle c1) (by omega)
      | succ d ih =>
        intro p q e bf wt hp hq' hd he hq
        rw [pw_] at hq
        refine s_iload 268 rfl rfl rfl ?_
        refine s_iload_n 269 rfl rfl rfl ?_
        refine s_icmp_ge 378 272 rfl rfl (by decide) (fun c2 => ?_) (fun c2 => ?_)
        -- Mod_match 272: branch 378 272
        · rw [if_neg (by have := nn_le c2; omega)] at hq
          exact s_return rfl rfl (hq e he)
        · have c2 := nn_nle c2
          refine s_iload 274 rfl rfl rfl ?_
          refine s_iload_n 275 rfl rfl rfl ?_
          refine s_icmp_ge 378 278 rfl rfl (by decide) (fun c3 => ?_) (fun c3 => ?_)
          -- Mod_match 278: branch 378 278
          · rw [if_neg (by have := nn_le c3; omega)] at hq
            exact s_return rfl rfl (hq e he)
          · have c3 := nn_nle c3
            rw [if_pos ⟨c2, c3⟩] at hq
            have d1 := ha p (by omega)
            have d3 := hb q (by omega)
            have d2 := (sel_in (p := po) (n := ln) (k := p) (by omega)).1
            have d4 := (sel_in (p := pn) (n := dr) (k := q) (by omega)).1
            have ea : al p q = decide (mm (sel_ po ln p) = gm2 (sel_ pn dr q)) := by rw [← hal]
            refine s_aload_n 279 rfl rfl rfl ?_
            refine s_getfield 12 5 282 rfl rfl fl_Mod_16 h_this rfl ?_
            refine s_aload_n 283 rfl rfl rfl ?_
            refine s_getfield 12 11 286 rfl rfl fl_Mod_31 h_this rfl ?_
            refine s_iload 288 rfl rfl rfl ?_
            refine s_iaload (p) 289 rfl rfl rfl rfl (by omega) (by decide) ?_
            -- Mod_match 289: end
            rw [d1]
            refine s_iaload (sel_ po ln p) 290 rfl rfl h_markOf rfl (by omega) (by decide) ?_
            refine s_aload_n 291 rfl rfl rfl ?_
            refine s_getfield 12 9 294 rfl rfl fl_Mod_25 h_this rfl ?_
            refine s_aload_n 295 rfl rfl rfl ?_
            refine s_getfield 12 12 298 rfl rfl fl_Mod_34 h_this rfl ?_
            refine s_iload 300 rfl rfl rfl ?_
            refine s_iaload (q) 301 rfl rfl rfl rfl (by omega) (by decide) ?_
            -- Mod_match 301: end
            rw [d3]
            refine s_iaload (sel_ pn dr q) 302 rfl rfl h_draftMark rfl (by omega) (by decide) ?_
            refine s_icmp_ne 333 305 rfl rfl (by decide) (fun c4 => ?_) (fun c4 => ?_)
            -- Mod_match 305: branch 333 305
            · rw [if_neg (by rw [ea]; simpa using c4)] at hq
              have f1 := hc (p + 1) q (by omega) (by omega) trivial
              have f2 := hc p (q + 1) (by omega) (by omega) trivial
              have g1 := mo_40 (al := al) (N := N) (p := p + 1) (q := q) (O := O) (by omega)
              have g2 := mo_40 (al := al) (N := N) (p := p) (q := q + 1) (O := O) (by omega)
              refine s_aload_n 334 rfl rfl rfl ?_
              refine s_getfield 12 13 337 rfl rfl fl_Mod_37 h_this rfl ?_
              refine s_bipush 41 339 rfl rfl (by decide) ?_
              refine s_iload 341 rfl rfl rfl ?_
              refine s_iconst 1 342 rfl rfl (by decide) ?_
              refine s_iadd 343 rfl rfl ?_
              -- Mod_match 343: end
              rw [nI_1]
              refine s_imul 344 rfl rfl ?_
              -- Mod_match 344: end
              rw [show (41 : Int32) * nI (p + 1) = nI (41 * (p + 1)) from pk_mul 41 (p + 1)]
              refine s_iload 346 rfl rfl rfl ?_
              refine s_iadd 347 rfl rfl ?_
              -- Mod_match 347: end
              rw [nI_add]
              refine s_iaload (41 * (p + 1) + q) 348 rfl rfl rfl rfl (by omega) (by decide) ?_
              -- Mod_match 348: end
              rw [f1]
              refine s_aload_n 349 rfl rfl rfl ?_
              refine s_getfield 12 13 352 rfl rfl fl_Mod_37 h_this rfl ?_
              refine s_bipush 41 354 rfl rfl (by decide) ?_
              refine s_iload 356 rfl rfl rfl ?_
              refine s_imul 357 rfl rfl ?_
              -- Mod_match 357: end
              rw [show (41 : Int32) * nI p = nI (41 * p) from pk_mul 41 p]
              refine s_iload 359 rfl rfl rfl ?_
              refine s_iadd 360 rfl rfl ?_
              -- Mod_match 360: end
              rw [nI_add]
              refine s_iconst 1 361 rfl rfl (by decide) ?_
              refine s_iadd 362 rfl rfl ?_
              -- Mod_match 362: end
              rw [nI_1]
              refine s_iaload (41 * p + (q + 1)) 363 rfl rfl rfl rfl (by omega) (by decide) ?_
              -- Mod_match 363: end
              rw [f2]
              refine s_icmp_lt 372 366 rfl rfl (by decide) (fun c5 => ?_) (fun c5 => ?_)
              -- Mod_match 366: branch 372 366
              · rw [if_neg (by have := nn_lt c5; omega)] at hq
                refine s_inc5 _ 375 rfl rfl rfl rfl ?_
                refine s_goto 266 rfl (by decide) ?_
                -- Mod_match 266: end
                rw [inc1]
                exact ih p (q + 1) e bf wt (by omega) (by omega) (by omega) he hq
              · rw [if_pos (by have := nn_nlt c5; omega)] at hq
                refine s_inc4 _ 369 rfl rfl rfl rfl ?_
                refine s_goto 266 rfl (by decide) ?_
                -- Mod_match 266: end
                rw [inc1]
                exact ih (p + 1) q e bf wt (by omega) (by omega) (by omega) he hq
            · rw [if_pos (by rw [ea]; simpa using c4)] at hq
              refine s_aload_n 306 rfl rfl rfl ?_
              refine s_getfield 12 10 309 rfl rfl fl_Mod_28 h_this rfl ?_
              refine s_aload_n 310 rfl rfl rfl ?_
              refine s_getfield 12 11 313 rfl rfl fl_Mod_31 h_this rfl ?_
              refine s_iload 315 rfl rfl rfl ?_
              refine s_iaload (p) 316 rfl rfl rfl rfl (by omega) (by decide) ?_
              -- Mod_match 316: end
              rw [d1]
              refine s_aload_n 317 rfl rfl rfl ?_
              refine s_getfield 12 12 320 rfl rfl fl_Mod_34 h_this rfl ?_
              refine s_iload 322 rfl rfl rfl ?_
              refine s_iaload (q) 323 rfl rfl rfl rfl (by omega) (by decide) ?_
              -- Mod_match 323: end
              rw [d3]
              refine s_iastore (sel_ po ln p) 324 rfl rfl rfl rfl (by omega) (by decide) ?_
              refine s_inc4 _ 327 rfl rfl rfl rfl ?_
              refine s_inc5 _ 330 rfl rfl rfl rfl ?_
              refine s_goto 266 rfl (by decide) ?_
              -- Mod_match 266: end
              unfold iP
              rw [ax_pp, inc1, inc1]
              exact ih (p + 1) (q + 1) _ _ _ (by omega) (by omega) (by omega) (rp_up he) hq
    have h0 := loop (ln + dr) 0 0 e0 bf wt (by omega) (by omega) (by omega) hw (fun e he => hq _ a b c e ((((fr_.r.put ⟨by omega, by omega⟩).put ⟨by omega, by omega⟩).put ⟨by omega, by omega⟩).put ⟨by omega, by omega⟩) rfl rfl rfl rfl he)
    unfold iP at h0
    rw [ax_id (M := ax_put (ax_put (ax_put M 151 _) 152 _) 153 _) (a := 150) h_wentTo] at h0
    exact h0
  -- most
  have part3 : ∀ (a b : Nat → Int32) (z4 z5 z6 z7 z8 z9 : Value), z4.category = 1 → z5.category = 1 → z6.category = 1 → z7.category = 1 → z8.category = 1 → z9.category = 1 → rs_ a po ln → rs_ b pn dr → ax_G g mt_Mod_match h 0 0 84 [.ref 143, .int (nI f), .int (nI (cnt po ln)), .int (nI (cnt pn dr)), z4, z5, z6, z7, z8, z9] [] (iP (iP M 151 40 a) 152 40 b) Q := by
    intro a b z4 z5 z6 z7 z8 z9 _ v5 v6 v7 v8 v9 ha hb
    have part4 := fun c z4 z5 z6 z7 z8 z9 w4 w5 w6 w7 w8 w9 hc => part4 a b c z4 z5 z6 z7 z8 z9 w4 w5 w6 w7 w8 w9 ha hb hc
    generalize hal : (fun p q => decide (mm (sel_ po ln p) = gm2 (sel_ pn dr q))) = al at part4
    generalize hO : cnt po ln = O at *
    generalize hN : cnt pn dr = N at *
    refine s_iload_n 85 rfl rfl rfl ?_
    refine s_ist4 87 rfl rfl rfl ?_
    -- Mod_match 87: end
    have outer : ∀ (c : Nat) (m : Nat → Int32) (z5 z6 z7 z8 z9 : Value), z5.category = 1 → z6.category = 1 → z7.category = 1 → z8.category = 1 → z9.category = 1 → c ≤ O + 1 → mm_ al O N m (fun p _ => c ≤ p) → ax_G g mt_Mod_match h 0 0 87 [.ref 143, .int (nI f), .int (nI O), .int (nI N), .int (nI c - 1), z5, z6, z7, z8, z9] [] (iP (iP (iP M 151 40 a) 152 40 b) 153 1681 m) Q := by
      intro c
      induction c with
      | zero =>
        intro m z5 z6 z7 z8 z9 v5 v6 v7 v8 v9 _ hm
        refine s_iload 89 rfl rfl rfl ?_
        refine s_if_lt 260 92 rfl rfl (by decide) (fun c1 => ?_) (fun c1 => ?_)
        -- Mod_match 92: branch 260 92
        · exact part4 m _ _ _ _ _ _ rfl v5 v6 v7 v8 v9 (fun p q h1 h2 _ => hm p q h1 h2 (Nat.zero_le p))
        · exact absurd (by decide) c1
      | succ p ih =>
        intro m z5 z6 z7 z8 z9 v5 v6 v7 v8 v9 hc hm
        rw [nI_pred]
        refine s_iload 89 rfl rfl rfl ?_
        refine s_if_lt 260 92 rfl rfl (by decide) (fun c2 => ?_) (fun c2 => ?_)
        -- Mod_match 92: branch 260 92
        · exact absurd c2 (nI_pos (by omega))
        · refine s_iload_n 93 rfl rfl rfl ?_
          refine s_ist5 95 rfl rfl rfl ?_
          -- Mod_match 95: end
          have inner : ∀ (c : Nat) (m : Nat → Int32) (z6 z7 z8 z9 : Value), z6.category = 1 → z7.category = 1 → z8.category = 1 → z9.category = 1 → c ≤ N + 1 → mm_ al O N m (fun p' q => p < p' ∨ (p = p' ∧ c ≤ q)) → ax_G g mt_Mod_match h 0 0 95 [.ref 143, .int (nI f), .int (nI O), .int (nI N), .int (nI p), .int (nI c - 1), z6, z7, z8, z9] [] (iP (iP (iP M 151 40 a) 152 40 b) 153 1681 m) Q := by
            intro c
            induction c with
            | zero =>
              intro m z6 z7 z8 z9 v6 v7 v8 v9 _ hm
              refine s_iload 97 rfl rfl rfl ?_
              refine s_if_lt 254 100 rfl rfl (by decide) (fun c3 => ?_) (fun c3 => ?_)
              -- Mod_match 100: branch 254 100
              · refine s_inc4 _ 257 rfl rfl rfl rfl ?_
                refine s_goto 87 rfl (by decide) ?_
                -- Mod_match 87: end
                rw [dec1]
                exact ih m _ _ _ _ _ rfl v6 v7 v8 v9 (by omega) (fun p' q h1 h2 h3 => hm p' q h1 h2 (by omega))
              · exact absurd (by decide) c3
            | succ q ih2 =>
              intro m z6 z7 z8 z9 v6 v7 v8 v9 hc2 hm
              rw [nI_pred]
              have last : ∀ (v : Nat) (z7 z8 z9 : Value), z7.category = 1 → z8.category = 1 → z9.category = 1 → v = mo_ al O N p q → ax_G g mt_Mod_match h 0 0 233 [.ref 143, .int (nI f), .int (nI O), .int (nI N), .int (nI p), .int (nI q), .int (nI v), z7, z8, z9] [] (iP (iP (iP M 151 40 a) 152 40 b) 153 1681 m) Q := by
                intro v z7 z8 z9 v7 v8 v9 hv
                refine s_aload_n 234 rfl rfl rfl ?_
                refine s_getfield 12 13 237 rfl rfl fl_Mod_37 h_this rfl ?_
                refine s_bipush 41 239 rfl rfl (by decide) ?_
                refine s_iload 241 rfl rfl rfl ?_
                refine s_imul 242 rfl rfl ?_
                -- Mod_match 242: end
                rw [show (41 : Int32) * nI p = nI (41 * p) from pk_mul 41 p]
                refine s_iload 244 rfl rfl rfl ?_
                refine s_iadd 245 rfl rfl ?_
                -- Mod_match 245: end
                rw [nI_add]
                refine s_iload 247 rfl rfl rfl ?_
                refine s_iastore (41 * p + q) 248 rfl rfl rfl rfl (by omega) (by decide) ?_
                refine s_inc5 _ 251 rfl rfl rfl rfl ?_
                refine s_goto 95 rfl (by decide) ?_
                -- Mod_match 95: end
                unfold iP
                rw [ax_pp, dec1]
                refine ih2 _ _ _ _ _ rfl v7 v8 v9 (by omega) (fun p' q' h1 h2 h3 => ?_)
                unfold upd
                by_cases w : p' = p ∧ q' = q
                · obtain ⟨w1, w2⟩ := w
                  subst w1; subst w2
                  rw [if_pos rfl, hv]
                · rw [if_neg (by omega)]
                  exact hm p' q' h1 h2 (by omega)
              refine s_iload 97 rfl rfl rfl ?_
              refine s_if_lt 254 100 rfl rfl (by decide) (fun c4 => ?_) (fun c4 => ?_)
              -- Mod_match 100: branch 254 100
              · exact absurd c4 (nI_pos (by omega))
              · refine s_iconst 0 101 rfl rfl (by decide) ?_
                refine s_ist6 103 rfl rfl rfl ?_
                refine s_iload 105 rfl rfl rfl ?_
                refine s_iload_n 106 rfl rfl rfl ?_
                refine s_icmp_ge 233 109 rfl rfl (by decide) (fun c5 => ?_) (fun c5 => ?_)
                -- Mod_match 109: branch 233 109
                · exact last 0 _ _ _ v7 v8 v9 (by rw [mo_0 (by have := nn_le c5; omega)])
                · have c5 := nn_nle c5
                  refine s_iload 111 rfl rfl rfl ?_
                  refine s_iload_n 112 rfl rfl rfl ?_
                  refine s_icmp_ge 233 115 rfl rfl (by decide) (fun c6 => ?_) (fun c6 => ?_)
                  -- Mod_match 115: branch 233 115
                  · exact last 0 _ _ _ v7 v8 v9 (by rw [mo_0 (by have := nn_le c6; omega)])
                  · have c6 := nn_nle c6
                    have f1 := hm (p + 1) q (by omega) (by omega) (Or.inl (by omega))
                    have f2 := hm p (q + 1) (by omega) (by omega) (Or.inr ⟨rfl, by omega⟩)
                    have f3 := hm (p + 1) (q + 1) (by omega) (by omega) (Or.inl (by omega))
                    have g1 := mo_40 (al := al) (N := N) (p := p + 1) (q := q) (O := O) (by omega)
                    have g2 := mo_40 (al := al) (N := N) (p := p) (q := q + 1) (O := O) (by omega)
                    have g3 := mo_40 (al := al) (N := N) (p := p + 1) (q := q + 1) (O := O) (by omega)
                    have d1 := ha p (by omega)
                    have d3 := hb q (by omega)
                    have d2 := (sel_in (p := po) (n := ln) (k := p) (by omega)).1
                    have d4 := (sel_in (p := pn) (n := dr) (k := q) (by omega)).1
                    have ea : al p q = decide (mm (sel_ po ln p) = gm2 (sel_ pn dr q)) := by rw [← hal]
                    refine s_aload_n 116 rfl rfl rfl ?_
                    refine s_getfield 12 13 119 rfl rfl fl_Mod_37 h_this rfl ?_
                    refine s_bipush 41 121 rfl rfl (by decide) ?_
                    refine s_iload 123 rfl rfl rfl ?_
                    refine s_iconst 1 124 rfl rfl (by decide) ?_
                    refine s_iadd 125 rfl rfl ?_
                    -- Mod_match 125: end
                    rw [nI_1]
                    refine s_imul 126 rfl rfl ?_
                    -- Mod_match 126: end
                    rw [show (41 : Int32) * nI (p + 1) = nI (41 * (p + 1)) from pk_mul 41 (p + 1)]
                    refine s_iload 128 rfl rfl rfl ?_
                    refine s_iadd 129 rfl rfl ?_
                    -- Mod_match 129: end
                    rw [nI_add]
                    refine s_iaload (41 * (p + 1) + q) 130 rfl rfl rfl rfl (by omega) (by decide) ?_
                    -- Mod_match 130: end
                    rw [f1]
                    refine s_ist7 132 rfl rfl rfl ?_
                    refine s_aload_n 133 rfl rfl rfl ?_
                    refine s_getfield 12 13 136 rfl rfl fl_Mod_37 h_this rfl ?_
                    refine s_bipush 41 138 rfl rfl (by decide) ?_
                    refine s_iload 140 rfl rfl rfl ?_
                    refine s_imul 141 rfl rfl ?_
                    -- Mod_match 141: end
                    rw [show (41 : Int32) * nI p = nI (41 * p) from pk_mul 41 p]
                    refine s_iload 143 rfl rfl rfl ?_
                    refine s_iadd 144 rfl rfl ?_
                    -- Mod_match 144: end
                    rw [nI_add]
                    refine s_iconst 1 145 rfl rfl (by decide) ?_
                    refine s_iadd 146 rfl rfl ?_
                    -- Mod_match 146: end
                    rw [nI_1]
                    refine s_iaload (41 * p + (q + 1)) 147 rfl rfl rfl rfl (by omega) (by decide) ?_
                    -- Mod_match 147: end
                    rw [f2]
                    have rest : ∀ (z6 : Value) (v : Nat), z6.category = 1 → v = max (mo_ al O N (p + 1) q) (mo_ al O N p (q + 1)) → ax_G g mt_Mod_match h 0 0 163 [.ref 143, .int (nI f), .int (nI O), .int (nI N), .int (nI p), .int (nI q), z6, .int (nI (mo_ al O N (p + 1) q)), .int (nI (mo_ al O N p (q + 1))), z9] [.int (nI v)] (iP (iP (iP M 151 40 a) 152 40 b) 153 1681 m) Q := by
                      intro z6 v _ hv
                      refine s_ist6 165 rfl rfl rfl ?_
                      refine s_aload_n 166 rfl rfl rfl ?_
                      refine s_getfield 12 5 169 rfl rfl fl_Mod_16 h_this rfl ?_
                      refine s_aload_n 170 rfl rfl rfl ?_
                      refine s_getfield 12 11 173 rfl rfl fl_Mod_31 h_this rfl ?_
                      refine s_iload 175 rfl rfl rfl ?_
                      refine s_iaload (p) 176 rfl rfl rfl rfl (by omega) (by decide) ?_
                      -- Mod_match 176: end
                      rw [d1]
                      refine s_iaload (sel_ po ln p) 177 rfl rfl h_markOf rfl (by omega) (by decide) ?_
                      refine s_aload_n 178 rfl rfl rfl ?_
                      refine s_getfield 12 9 181 rfl rfl fl_Mod_25 h_this rfl ?_
                      refine s_aload_n 182 rfl rfl rfl ?_
                      refine s_getfield 12 12 185 rfl rfl fl_Mod_34 h_this rfl ?_
                      refine s_iload 187 rfl rfl rfl ?_
                      refine s_iaload (q) 188 rfl rfl rfl rfl (by omega) (by decide) ?_
                      -- Mod_match 188: end
                      rw [d3]
                      have fin : ∀ w : Nat, w ≤ 41 → mo_ al O N p q = max v w → ax_G g mt_Mod_match h 0 0 215 [.ref 143, .int (nI f), .int (nI O), .int (nI N), .int (nI p), .int (nI q), .int (nI v), .int (nI (mo_ al O N (p + 1) q)), .int (nI (mo_ al O N p (q + 1))), z9] [.int (nI w)] (iP (iP (iP M 151 40 a) 152 40 b) 153 1681 m) Q := by
                        intro w hw4 hw
                        refine s_ist9 217 rfl rfl rfl ?_
                        refine s_iload 219 rfl rfl rfl ?_
                        refine s_iload 221 rfl rfl rfl ?_
                        refine s_icmp_le 229 224 rfl rfl (by decide) (fun c7 => ?_) (fun c7 => ?_)
                        -- Mod_match 224: branch 229 224
                        · have c7 := nn_le c7
                          refine s_iload 231 rfl rfl rfl ?_
                          refine s_ist6 233 rfl rfl rfl ?_
                          -- Mod_match 233: end
                          exact last v _ _ _ rfl rfl rfl (by rw [hw, Nat.max_eq_left c7])
                        · have c7 := nn_nle c7
                          refine s_iload 226 rfl rfl rfl ?_
                          refine s_goto 231 rfl (by decide) ?_
                          refine s_ist6 233 rfl rfl rfl ?_
                          -- Mod_match 233: end
                          exact last w _ _ _ rfl rfl rfl (by rw [hw, Nat.max_eq_right (by omega)])
                      refine s_iaload (sel_ pn dr q) 189 rfl rfl h_draftMark rfl (by omega) (by decide) ?_
                      refine s_icmp_ne 214 192 rfl rfl (by decide) (fun c8 => ?_) (fun c8 => ?_)
                      -- Mod_match 192: branch 214 192
                      · refine s_iconst 0 215 rfl rfl (by decide) ?_
                        -- Mod_match 215: end
                        exact fin 0 (by omega) (by rw [mo_e ⟨c5, c6⟩, if_neg (by rw [ea]; simpa using c8), hv])
                      · refine s_iconst 1 193 rfl rfl (by decide) ?_
                        refine s_aload_n 194 rfl rfl rfl ?_
                        refine s_getfield 12 13 197 rfl rfl fl_Mod_37 h_this rfl ?_
                        refine s_bipush 41 199 rfl rfl (by decide) ?_
                        refine s_iload 201 rfl rfl rfl ?_
                        refine s_iconst 1 202 rfl rfl (by decide) ?_
                        refine s_iadd 203 rfl rfl ?_
                        -- Mod_match 203: end
                        rw [nI_1]
                        refine s_imul 204 rfl rfl ?_
                        -- Mod_match 204: end
                        rw [show (41 : Int32) * nI (p + 1) = nI (41 * (p + 1)) from pk_mul 41 (p + 1)]
                        refine s_iload 206 rfl rfl rfl ?_
                        refine s_iadd 207 rfl rfl ?_
                        -- Mod_match 207: end
                        rw [nI_add]
                        refine s_iconst 1 208 rfl rfl (by decide) ?_
                        refine s_iadd 209 rfl rfl ?_
                        -- Mod_match 209: end
                        rw [nI_1]
                        refine s_iaload (41 * (p + 1) + (q + 1)) 210 rfl rfl rfl rfl (by omega) (by decide) ?_
                        -- Mod_match 210: end
                        rw [f3]
                        refine s_iadd 211 rfl rfl ?_
                        -- Mod_match 211: end
                        rw [show (1 : Int32) + nI (mo_ al O N (p + 1) (q + 1)) = nI (1 + mo_ al O N (p + 1) (q + 1)) from nI_add 1 _]
                        refine s_goto 215 rfl (by decide) ?_
                        -- Mod_match 215: end
                        exact fin _ (by omega) (by rw [mo_e ⟨c5, c6⟩, if_pos (by rw [ea]; simpa using c8), hv])
                    refine s_ist8 149 rfl rfl rfl ?_
                    refine s_iload 151 rfl rfl rfl ?_
                    refine s_iload 153 rfl rfl rfl ?_
                    refine s_icmp_le 161 156 rfl rfl (by decide) (fun c9 => ?_) (fun c9 => ?_)
                    -- Mod_match 156: branch 161 156
                    · have c9 := nn_le c9
                      refine s_iload 163 rfl rfl rfl ?_
                      -- Mod_match 163: end
                      exact rest _ _ rfl (by rw [Nat.max_eq_right c9])
                    · have c9 := nn_nle c9
                      refine s_iload 158 rfl rfl rfl ?_
                      refine s_goto 163 rfl (by decide) ?_
                      -- Mod_match 163: end
                      exact rest _ _ rfl (by rw [Nat.max_eq_left (by omega)])
          have h9 := inner (N + 1) m _ _ _ _ v6 v7 v8 v9 (Nat.le_refl _) (fun p' q h1 h2 h3 => hm p' q h1 h2 (by omega))
          rw [nI_pred] at h9
          exact h9
    have h0 := outer (O + 1) e3 z5 z6 z7 z8 z9 v5 v6 v7 v8 v9 (Nat.le_refl _) (fun p q h1 h2 h3 => by omega)
    unfold iP at h0
    rw [ax_id (M := ax_put (ax_put M 151 _) 152 _) (a := 153) h_most, nI_pred] at h0
    exact h0
  -- news
  have part2 : ∀ (a : Nat → Int32) (z4 : Value), z4.category = 1 → rs_ a po ln → ax_G g mt_Mod_match h 0 0 44 [.ref 143, .int (nI f), .int (nI (cnt po ln)), .int 0, z4, .float 0, .float 0, .float 0, .float 0, .float 0] [] (iP M 151 40 a) Q := by
    intro a z4 _ ha
    refine s_iconst 0 45 rfl rfl (by decide) ?_
    refine s_ist4 47 rfl rfl rfl ?_
    -- Mod_match 47: end
    have loop : ∀ (d i : Nat) (b : Nat → Int32), i + d = dr → rs_ b pn i → ax_G g mt_Mod_match h 0 0 47 [.ref 143, .int (nI f), .int (nI (cnt po ln)), .int (nI (cnt pn i)), .int (nI i), .float 0, .float 0, .float 0, .float 0, .float 0] [] (iP (iP M 151 40 a) 152 40 b) Q := by
      intro d
      induction d with
      | zero =>
        intro i b hi hb
        obtain rfl : i = dr := by omega
        refine s_iload 49 rfl rfl rfl ?_
        refine s_aload_n 50 rfl rfl rfl ?_
        refine s_getfield 12 7 53 rfl rfl fl_Mod_146 h_this rfl ?_
        refine s_icmp_ge 84 56 rfl rfl (by decide) (fun c1 => ?_) (fun c1 => ?_)
        -- Mod_match 56: branch 84 56
        · exact part3 a b _ _ _ _ _ _ rfl rfl rfl rfl rfl rfl ha hb
        · exact absurd (nn_nle c1) (by omega)
      | succ d ih =>
        intro i b hi hb
        have nx := ih (i + 1)
        rw [cnt] at nx
        have cl := cnt_le pn i
        refine s_iload 49 rfl rfl rfl ?_
        refine s_aload_n 50 rfl rfl rfl ?_
        refine s_getfield 12 7 53 rfl rfl fl_Mod_146 h_this rfl ?_
        refine s_icmp_ge 84 56 rfl rfl (by decide) (fun c2 => ?_) (fun c2 => ?_)
        -- Mod_match 56: branch 84 56
        · exact absurd (nn_le c2) (by omega)
        · refine s_aload_n 57 rfl rfl rfl ?_
          refine s_getfield 12 8 60 rfl rfl fl_Mod_22 h_this rfl ?_
          refine s_iload 62 rfl rfl rfl ?_
          refine s_iaload (i) 63 rfl rfl h_draftFile rfl (by omega) (by decide) ?_
          refine s_iload_n 64 rfl rfl rfl ?_
          refine s_icmp_ne 78 67 rfl rfl (by decide) (fun c3 => ?_) (fun c3 => ?_)
          -- Mod_match 67: branch 78 67
          · rw [hn i (by omega)] at c3
            rw [if_neg c3] at nx
            refine s_inc4 _ 81 rfl rfl rfl rfl ?_
            refine s_goto 47 rfl (by decide) ?_
            -- Mod_match 47: end
            rw [inc1]
            exact nx b (by omega) (rs_n hb c3)
          · rw [hn i (by omega)] at c3
            rw [if_pos c3] at nx
            refine s_aload_n 68 rfl rfl rfl ?_
            refine s_getfield 12 12 71 rfl rfl fl_Mod_34 h_this rfl ?_
            refine s_iload_n 72 rfl rfl rfl ?_
            refine s_iload 74 rfl rfl rfl ?_
            refine s_iastore (cnt pn i) 75 rfl rfl rfl rfl (by omega) (by decide) ?_
            refine s_inc3 _ 78 rfl rfl rfl rfl ?_
            refine s_inc4 _ 81 rfl rfl rfl rfl ?_
            refine s_goto 47 rfl (by decide) ?_
            -- Mod_match 47: end
            unfold iP
            rw [ax_pp, inc1, inc1]
            exact nx _ (by omega) (rs_y hb c3)
    have h0 := loop dr 0 e2 (by omega) (fun k hk => absurd hk (Nat.not_lt_zero k))
    unfold iP at h0
    rw [ax_id (M := ax_put M 151 _) (a := 152) h_news] at h0
    exact h0
  -- olds
  refine s_iconst 0 1 rfl rfl (by decide) ?_
  refine s_ist2 2 rfl rfl rfl ?_
  refine s_iconst 0 3 rfl rfl (by decide) ?_
  refine s_ist3 4 rfl rfl rfl ?_
  refine s_iconst 0 5 rfl rfl (by decide) ?_
  refine s_ist4 7 rfl rfl rfl ?_
  -- Mod_match 7: end
  have loop : ∀ (d i : Nat) (a : Nat → Int32), i + d = ln → rs_ a po i → ax_G g mt_Mod_match h 0 0 7 [.ref 143, .int (nI f), .int (nI (cnt po i)), .int 0, .int (nI i), .float 0, .float 0, .float 0, .float 0, .float 0] [] (iP M 151 40 a) Q := by
    intro d
    induction d with
    | zero =>
      intro i a hi ha
      obtain rfl : i = ln := by omega
      refine s_iload 9 rfl rfl rfl ?_
      refine s_aload_n 10 rfl rfl rfl ?_
      refine s_getfield 12 3 13 rfl rfl fl_Mod_149 h_this rfl ?_
      refine s_icmp_ge 44 16 rfl rfl (by decide) (fun c1 => ?_) (fun c1 => ?_)
      -- Mod_match 16: branch 44 16
      · exact part2 a _ rfl ha
      · exact absurd (nn_nle c1) (by omega)
    | succ d ih =>
      intro i a hi ha
      have nx := ih (i + 1)
      rw [cnt] at nx
      have cl := cnt_le po i
      refine s_iload 9 rfl rfl rfl ?_
      refine s_aload_n 10 rfl rfl rfl ?_
      refine s_getfield 12 3 13 rfl rfl fl_Mod_149 h_this rfl ?_
      refine s_icmp_ge 44 16 rfl rfl (by decide) (fun c2 => ?_) (fun c2 => ?_)
      -- Mod_match 16: branch 44 16
      · exact absurd (nn_le c2) (by omega)
      · refine s_aload_n 17 rfl rfl rfl ?_
        refine s_getfield 12 4 20 rfl rfl fl_Mod_13 h_this rfl ?_
        refine s_iload 22 rfl rfl rfl ?_
        refine s_iaload (i) 23 rfl rfl h_fileOf rfl (by omega) (by decide) ?_
        refine s_iload_n 24 rfl rfl rfl ?_
        refine s_icmp_ne 38 27 rfl rfl (by decide) (fun c3 => ?_) (fun c3 => ?_)
        -- Mod_match 27: branch 38 27
        · rw [ho i (by omega)] at c3
          rw [if_neg c3] at nx
          refine s_inc4 _ 41 rfl rfl rfl rfl ?_
          refine s_goto 7 rfl (by decide) ?_
          -- Mod_match 7: end
          rw [inc1]
          exact nx a (by omega) (rs_n ha c3)
        · rw [ho i (by omega)] at c3
          rw [if_pos c3] at nx
          refine s_aload_n 28 rfl rfl rfl ?_
          refine s_getfield 12 11 31 rfl rfl fl_Mod_31 h_this rfl ?_
          refine s_iload_n 32 rfl rfl rfl ?_
          refine s_iload 34 rfl rfl rfl ?_
          refine s_iastore (cnt po i) 35 rfl rfl rfl rfl (by omega) (by decide) ?_
          refine s_inc2 _ 38 rfl rfl rfl rfl ?_
          refine s_inc4 _ 41 rfl rfl rfl rfl ?_
          refine s_goto 7 rfl (by decide) ?_
          -- Mod_match 7: end
          unfold iP
          rw [ax_pp, inc1, inc1]
          exact nx _ (by omega) (rs_y ha c3)
  have h0 := loop ln 0 e1 (by omega) (fun k hk => absurd hk (Nat.not_lt_zero k))
  unfold iP at h0
  rw [ax_id h_olds] at h0
  exact h0
end MMA
