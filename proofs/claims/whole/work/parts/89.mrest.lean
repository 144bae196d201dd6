/-! the reference: readRest -/
def RQ_ (M N : ax_M) (kk : Nat) (un kd rz rb un2 kd2 rz2 rb2 : Nat → Int32) : Prop := fr_ M N (fun j => j = 143 ∨ j = 166 ∨ j = 167 ∨ j = 171 ∨ j = 172) ∧ iA N 166 26 un2 ∧ iA N 167 26 kd2 ∧ iA N 171 26 rz2 ∧ iA N 172 520 rb2 ∧ (∀ i, i ≠ kk → un2 i = un i ∧ kd2 i = kd i ∧ rz2 i = rz i) ∧ ∀ i, i < 20 * kk → rb2 i = rb i
section MREST
variable {g : ax_Y} {M N K : ax_M} {Q : Option Value → ax_M → Prop} {h n sz k kk bln : Nat} {ln dr al ru pv si pa cm os gm tk pl bh lo : Int32} {va : Int64} {od : Int32} {f1 f2 so sa se un kd rz rb un2 kd2 rz2 rb2 : Nat → Int32} {z : Value}
theorem RQ_.md {fs : List Value} (hR : RQ_ M N kk un kd rz rb un2 kd2 rz2 rb2) : RQ_ M (oP N 143 12 fs) kk un kd rz rb un2 kd2 rz2 rb2 := ⟨hR.1.put (by omega), hR.2.1, hR.2.2.1, hR.2.2.2.1, hR.2.2.2.2.1, hR.2.2.2.2.2⟩
theorem d_rrW206 (n143 : oC N 143 12 (md_f (nI n) (nI bln) ln dr al ru pv si pa cm os gm tk pl bh va 1 od)) (hq : Q none N) : ax_G g mt_Mod_readRest (h + 5) 0 0 206 [.ref 143, .int (nI kk), z] [] N Q := by
  have fin : ∀ x : Int32, ax_G g mt_Mod_readRest (h + 5) 0 0 220 [.ref 143, .int (nI kk), z] [.int x, .ref 143] N Q := by
    intro x
    refine c_callV1 (h+4) 223 rfl rfl mv_Mod_257 (by omega) (Nat.le_of_ble_eq_true rfl) (Nat.le_of_ble_eq_true rfl) n143 rfl rfl ?_
    -- Mod_readRest 223: call Mod_want
    refine d_wantW n143 ?_
    dsimp only [ax_rs]
    exact s_return rfl rfl (hq)
  refine s_aload_n 207 rfl rfl rfl ?_
  refine s_aload_n 208 rfl rfl rfl ?_
  refine s_getfield 12 38 211 rfl rfl fl_Mod_239 n143 rfl ?_
  refine s_iconst 4 212 rfl rfl (by decide) ?_
  refine s_icmp_ne 219 215 rfl rfl (by decide) (fun c1 => ?_) (fun c1 => ?_)
  -- Mod_readRest 215: branch 219 215
  · refine s_iconst 0 220 rfl rfl (by decide) ?_
    -- Mod_readRest 220: end
    exact fin _
  · refine s_iconst 1 216 rfl rfl (by decide) ?_
    refine s_goto 220 rfl (by decide) ?_
    -- Mod_readRest 220: end
    exact fin _
theorem d_rrW105 (n143 : oC N 143 12 (md_f (nI n) (nI bln) ln dr al ru pv si pa cm os gm tk pl bh va 1 od)) (hq : Q none N) : ax_G g mt_Mod_readRest (h + 5) 0 0 105 [.ref 143, .int (nI kk), z] [] N Q := by
  refine s_aload_n 106 rfl rfl rfl ?_
  refine s_getfield 12 42 109 rfl rfl fl_Mod_250 n143 rfl ?_
  refine s_if_ne 206 112 rfl rfl (by decide) (fun c1 => ?_) (fun c1 => ?_)
  -- Mod_readRest 112: branch 206 112
  · exact d_rrW206 n143 hq
  · exact absurd c1 (by decide)
theorem d_rrW55 (n143 : oC N 143 12 (md_f (nI n) (nI bln) ln dr al ru pv si pa cm os gm tk pl bh va 1 od)) (hq : Q none N) : ax_G g mt_Mod_readRest (h + 5) 0 0 55 [.ref 143, .int (nI kk), z] [] N Q := by
  refine s_aload_n 56 rfl rfl rfl ?_
  refine s_getfield 12 42 59 rfl rfl fl_Mod_250 n143 rfl ?_
  refine s_if_ne 105 62 rfl rfl (by decide) (fun c1 => ?_) (fun c1 => ?_)
  -- Mod_readRest 62: branch 105 62
  · exact d_rrW105 n143 hq
  · exact absurd c1 (by decide)
theorem d_rrE (hT : TK_ K f1 f2 n sz so sa se) (hk : k < sz) (hs : ST_ (tb_ f2 n) k tk pl bh va) (rq : RQ_ M N kk un kd rz rb un2 kd2 rz2 rb2) (n143 : oC N 143 12 (md_f (nI n) (nI bln) ln dr al ru pv si pa cm os gm tk pl bh va 0 od)) (n144 : iA N 144 160 f2)
    (h0 : (ti_ (tb_ f2 n) k).1 ≠ 4 → ∀ N2 tk2 bh2 va2, RQ_ M N2 kk un kd rz rb un2 kd2 rz2 rb2 → oC N2 143 12 (md_f (nI n) (nI bln) ln dr al ru pv si pa cm os gm tk2 (nI (ti_ (tb_ f2 n) k).2.1) bh2 va2 1 od) → Q none N2)
    (h1 : (ti_ (tb_ f2 n) k).1 = 4 → ∀ N2 tk2 pl2 bh2 va2, RQ_ M N2 kk un kd rz rb un2 kd2 rz2 rb2 → oC N2 143 12 (md_f (nI n) (nI bln) ln dr al ru pv si pa cm os gm tk2 pl2 bh2 va2 0 od) → ST_ (tb_ f2 n) (k + 1) tk2 pl2 bh2 va2 → Q none N2) : ax_G g mt_Mod_readRest (h + 5) 0 0 206 [.ref 143, .int (nI kk), z] [] N Q := by
  have s1 := hs.1
  have t5 := ti_5 (tb_ f2 n) k
  refine s_aload_n 207 rfl rfl rfl ?_
  refine s_aload_n 208 rfl rfl rfl ?_
  refine s_getfield 12 38 211 rfl rfl fl_Mod_239 n143 rfl ?_
  refine s_iconst 4 212 rfl rfl (by decide) ?_
  refine s_icmp_ne 219 215 rfl rfl (by decide) (fun c1 => ?_) (fun c1 => ?_)
  -- Mod_readRest 215: branch 219 215
  · have c1 : (ti_ (tb_ f2 n) k).1 ≠ 4 := fun w => c1 (by rw [s1, w]; rfl)
    have p2 := hs.2.1
    subst p2
    refine s_iconst 0 220 rfl rfl (by decide) ?_
    refine c_callV1 (h+4) 223 rfl rfl mv_Mod_257 (by omega) (Nat.le_of_ble_eq_true rfl) (Nat.le_of_ble_eq_true rfl) n143 rfl rfl ?_
    -- Mod_readRest 223: call Mod_want
    refine d_wantF n143 ?_
    dsimp only [ax_rs]
    exact s_return rfl rfl (h0 c1 _ _ _ _ rq.md rfl)
  · have c1 : (ti_ (tb_ f2 n) k).1 = 4 := nn_eq (b := 4) (by rw [← s1]; exact c1)
    refine s_iconst 1 216 rfl rfl (by decide) ?_
    refine s_goto 220 rfl (by decide) ?_
    refine c_callV1 (h+4) 223 rfl rfl mv_Mod_257 (by omega) (Nat.le_of_ble_eq_true rfl) (Nat.le_of_ble_eq_true rfl) n143 rfl rfl ?_
    -- Mod_readRest 223: call Mod_want
    refine d_wantT (h := h + 1) hT hk (by rw [c1]; decide) (by rw [c1]; decide) hs n143 n144 (fun tk2 pl2 bh2 va2 s2 => ?_)
    dsimp only [ax_rs]
    exact s_return rfl rfl (h1 c1 _ _ _ _ _ rq.md rfl s2)
theorem d_rrC (hkk : kk < 26) (hT : TK_ K f1 f2 n sz so sa se) (hk : k < sz) (hs : ST_ (tb_ f2 n) k tk pl bh va) (rq : RQ_ M N kk un kd rz rb un2 kd2 rz2 rb2) (hr0 : rz2 kk = 0) (n143 : oC N 143 12 (md_f (nI n) (nI bln) ln dr al ru pv si pa cm os gm tk pl bh va 0 od)) (n144 : iA N 144 160 f2)
    (h0 : ((be2_ (tb_ f2 n) k).1 = false ∨ (ti_ (tb_ f2 n) (be2_ (tb_ f2 n) k).2.1).1 ≠ 4) → ∀ N2 rz3 rb3 tk2 bh2 va2, RQ_ M N2 kk un kd rz rb un2 kd2 rz3 rb3 → oC N2 143 12 (md_f (nI n) (nI bln) ln dr al ru pv si pa cm os gm tk2 (nI (ti_ (tb_ f2 n) (be2_ (tb_ f2 n) k).2.1).2.1) bh2 va2 1 od) → Q none N2)
    (h1 : (be2_ (tb_ f2 n) k).1 = true → (ti_ (tb_ f2 n) (be2_ (tb_ f2 n) k).2.1).1 = 4 → ∀ N2 rz3 rb3 tk2 pl2 bh2 va2, RQ_ M N2 kk un kd rz rb un2 kd2 rz3 rb3 → oC N2 143 12 (md_f (nI n) (nI bln) ln dr al ru pv si pa cm os gm tk2 pl2 bh2 va2 0 od) → ST_ (tb_ f2 n) ((be2_ (tb_ f2 n) k).2.1 + 1) tk2 pl2 bh2 va2 → rz3 kk = nI (be2_ (tb_ f2 n) k).2.2.2 → (∀ j, j < (be2_ (tb_ f2 n) k).2.2.2 → rb3 (20 * kk + j) = f2 ((be2_ (tb_ f2 n) k).2.2.1 + j)) → Q none N2) : ax_G g mt_Mod_readRest (h + 5) 0 0 105 [.ref 143, .int (nI kk), .float 0] [] N Q := by
  refine s_aload_n 106 rfl rfl rfl ?_
  refine s_getfield 12 42 109 rfl rfl fl_Mod_250 n143 rfl ?_
  refine s_if_ne 206 112 rfl rfl (by decide) (fun c1 => ?_) (fun c1 => ?_)
  -- Mod_readRest 112: branch 206 112
  · exact absurd rfl c1
  · refine s_aload_n 113 rfl rfl rfl ?_
    refine s_ldc2_w 2318456421 116 rfl rfl kl_Mod_283 ?_
    refine c_callV1 (h+4) 119 rfl rfl mv_Mod_263 (by omega) (Nat.le_of_ble_eq_true rfl) (Nat.le_of_ble_eq_true rfl) n143 rfl rfl ?_
    -- Mod_readRest 119: call Mod_isWord
    refine d_isWord (h := h + 4) (i := 8) rfl (by decide) hT hk hs n143 ?_
    dsimp only [ax_rs]
    cases e8 : iw_ (tb_ f2 n) (ti_ (tb_ f2 n) k) 8 with
    | false =>
      have eb : be2_ (tb_ f2 n) k = (true, k, 0, 0) := by unfold be2_; rw [if_neg (by rw [e8]; decide)]
      rw [eb] at h0 h1
      rw [if_neg (by decide)]
      refine s_if_eq 206 122 rfl rfl (by decide) (fun c2 => ?_) (fun c2 => ?_)
      -- Mod_readRest 122: branch 206 122
      · exact d_rrE hT hk hs rq n143 n144 (fun e N2 tk2 bh2 va2 r o => h0 (Or.inr e) N2 _ _ tk2 bh2 va2 r o) (fun e N2 tk2 pl2 bh2 va2 r o s => h1 rfl e N2 _ _ tk2 pl2 bh2 va2 r o s hr0 (fun j hj => absurd hj (Nat.not_lt_zero j)))
      · exact absurd rfl c2
    | true =>
      have k1 := hT.w hk e8
      rw [if_pos rfl]
      refine s_if_eq 206 122 rfl rfl (by decide) (fun c3 => ?_) (fun c3 => ?_)
      -- Mod_readRest 122: branch 206 122
      · exact absurd c3 (by decide)
      · refine s_aload_n 123 rfl rfl rfl ?_
        refine c_callV0 (h+4) 126 rfl rfl mv_Mod_254 (by omega) (Nat.le_of_ble_eq_true rfl) (Nat.le_of_ble_eq_true rfl) n143 rfl rfl ?_
        -- Mod_readRest 126: call Mod_next
        refine d_next (h := h + 2) hT hk (by rw [iw_1 e8]; decide) (by rw [iw_1 e8]; decide) hs n143 n144 (fun tk2 pl2 bh2 va2 s2 => ?_)
        dsimp only [ax_rs]
        have t1 := s2.1
        have t2 := s2.2.1
        have t5 := ti_5 (tb_ f2 n) (k + 1)
        have bd := hT.b k1
        have hn := hT.2.2.2.1
        subst t1
        subst t2
        by_cases e3 : (ti_ (tb_ f2 n) (k + 1)).1 = 3
        · have eb : be2_ (tb_ f2 n) k = (true, k + 2, (ti_ (tb_ f2 n) (k + 1)).2.1 + 1, (ti_ (tb_ f2 n) (k + 1)).2.2 - (ti_ (tb_ f2 n) (k + 1)).2.1 - 2) := by unfold be2_; rw [if_pos e8, if_pos e3]
          rw [eb] at h0 h1
          have b3 := bd.2.2 (by rw [e3]; decide) (by rw [e3]; decide)
          have lq := hT.q k1 e3
          have t3 := s2.2.2.1 (by rw [e3]; decide) (by rw [e3]; decide)
          subst t3
          generalize hst : (ti_ (tb_ f2 n) (k + 1)).2.1 = st at h0 h1 bd b3 lq
          generalize hen : (ti_ (tb_ f2 n) (k + 1)).2.2 = en at h0 h1 bd b3 lq
          rw [e3, hst, hen] at s2
          rw [e3]
          have lenb : en - st - 2 ≤ 20 := by omega
          have fin : ∀ (W : ax_M) (rz3 rb3 : Nat → Int32) (x : Value), RQ_ M W kk un kd rz rb un2 kd2 rz3 rb3 → oC W 143 12 (md_f (nI n) (nI bln) ln dr al ru pv si pa cm os gm (nI 3) (nI st) (nI en) va2 0 od) → iA W 144 160 f2 → rz3 kk = nI (en - st - 2) → (∀ j, j < en - st - 2 → rb3 (20 * kk + j) = f2 (st + 1 + j)) → ax_G g mt_Mod_readRest (h + 5) 0 0 189 [.ref 143, .int (nI kk), x] [] W Q := by
            intro W rz3 rb3 x r3 w143 w144 hr3 hb3
            refine s_aload_n 190 rfl rfl rfl ?_
            refine s_aload_n 191 rfl rfl rfl ?_
            refine s_getfield 12 38 194 rfl rfl fl_Mod_239 w143 rfl ?_
            refine s_iconst 3 195 rfl rfl (by decide) ?_
            refine s_icmp_ne 202 198 rfl rfl (by decide) (fun c4 => ?_) (fun c4 => ?_)
            -- Mod_readRest 198: branch 202 198
            · exact absurd rfl c4
            · refine s_iconst 1 199 rfl rfl (by decide) ?_
              refine s_goto 203 rfl (by decide) ?_
              refine c_callV1 (h+4) 206 rfl rfl mv_Mod_257 (by omega) (Nat.le_of_ble_eq_true rfl) (Nat.le_of_ble_eq_true rfl) w143 rfl rfl ?_
              -- Mod_readRest 206: call Mod_want
              refine d_wantT (h := h + 1) hT k1 (by rw [e3]; decide) (by rw [e3]; decide) (tk := nI 3) (pl := nI st) (bh := nI en) (va := va2) s2 w143 w144 (fun tk3 pl3 bh3 va3 s3 => ?_)
              dsimp only [ax_rs]
              exact d_rrE hT b3.1 s3 r3.md rfl w144 (fun e N2 tk2 bh2 va2 r o => h0 (Or.inr e) N2 _ _ tk2 bh2 va2 r o) (fun e N2 tk2 pl2 bh2 va2 r o s => h1 rfl e N2 _ _ tk2 pl2 bh2 va2 r o s hr3 hb3)
          have loop : ∀ (d j : Nat) (W : ax_M) (rz3 rb3 : Nat → Int32), j + d = en - st - 2 → RQ_ M W kk un kd rz rb un2 kd2 rz3 rb3 → oC W 143 12 (md_f (nI n) (nI bln) ln dr al ru pv si pa cm os gm (nI 3) (nI st) (nI en) va2 0 od) → iA W 144 160 f2 → rz3 kk = nI j → (∀ i, i < j → rb3 (20 * kk + i) = f2 (st + 1 + i)) → ax_G g mt_Mod_readRest (h + 5) 0 0 133 [.ref 143, .int (nI kk), .int (nI (st + 1 + j))] [] W Q := by
            intro d
            induction d with
            | zero =>
              intro j W rz3 rb3 hj r3 w143 w144 hr3 hb3
              obtain rfl : j = en - st - 2 := by omega
              refine s_aload_n 134 rfl rfl rfl ?_
              refine s_getfield 12 38 137 rfl rfl fl_Mod_239 w143 rfl ?_
              refine s_iconst 3 138 rfl rfl (by decide) ?_
              refine s_icmp_ne 189 141 rfl rfl (by decide) (fun c5 => ?_) (fun c5 => ?_)
              -- Mod_readRest 141: branch 189 141
              · exact absurd rfl c5
              · refine s_iload_n 142 rfl rfl rfl ?_
                refine s_aload_n 143 rfl rfl rfl ?_
                refine s_getfield 12 40 146 rfl rfl fl_Mod_225 w143 rfl ?_
                refine s_iconst 1 147 rfl rfl (by decide) ?_
                refine s_isub 148 rfl rfl ?_
                -- Mod_readRest 148: end
                rw [show nI en - 1 = nI (en - 1) from by rw [show nI en = nI (en - 1 + 1) by rw [show en - 1 + 1 = en by omega], nI_pred]]
                refine s_icmp_ge 189 151 rfl rfl (by decide) (fun c6 => ?_) (fun c6 => ?_)
                -- Mod_readRest 151: branch 189 151
                · exact fin W rz3 rb3 _ r3 w143 w144 hr3 hb3
                · exact absurd (nn_nle c6) (by omega)
            | succ d ih =>
              intro j W rz3 rb3 hj r3 w143 w144 hr3 hb3
              obtain ⟨x1, x2, x3, x4, x5, x6, x7⟩ := r3
              refine s_aload_n 134 rfl rfl rfl ?_
              refine s_getfield 12 38 137 rfl rfl fl_Mod_239 w143 rfl ?_
              refine s_iconst 3 138 rfl rfl (by decide) ?_
              refine s_icmp_ne 189 141 rfl rfl (by decide) (fun c7 => ?_) (fun c7 => ?_)
              -- Mod_readRest 141: branch 189 141
              · exact absurd rfl c7
              · refine s_iload_n 142 rfl rfl rfl ?_
                refine s_aload_n 143 rfl rfl rfl ?_
                refine s_getfield 12 40 146 rfl rfl fl_Mod_225 w143 rfl ?_
                refine s_iconst 1 147 rfl rfl (by decide) ?_
                refine s_isub 148 rfl rfl ?_
                -- Mod_readRest 148: end
                rw [show nI en - 1 = nI (en - 1) from by rw [show nI en = nI (en - 1 + 1) by rw [show en - 1 + 1 = en by omega], nI_pred]]
                refine s_icmp_ge 189 151 rfl rfl (by decide) (fun c8 => ?_) (fun c8 => ?_)
                -- Mod_readRest 151: branch 189 151
                · exact absurd (nn_le c8) (by omega)
                · refine s_aload_n 152 rfl rfl rfl ?_
                  refine s_getfield 12 37 155 rfl rfl fl_Mod_95 w143 rfl ?_
                  refine s_bipush 20 157 rfl rfl (by decide) ?_
                  refine s_iload_n 158 rfl rfl rfl ?_
                  refine s_imul 159 rfl rfl ?_
                  refine s_aload_n 160 rfl rfl rfl ?_
                  refine s_getfield 12 36 163 rfl rfl fl_Mod_92 w143 rfl ?_
                  refine s_iload_n 164 rfl rfl rfl ?_
                  refine s_iaload (kk) 165 rfl rfl x4 rfl (by omega) (by decide) ?_
                  -- Mod_readRest 165: end
                  rw [hr3, show (20 : Int32) * nI kk = nI (20 * kk) from pk_mul 20 kk]
                  refine s_iadd 166 rfl rfl ?_
                  -- Mod_readRest 166: end
                  rw [nI_add]
                  refine s_aload_n 167 rfl rfl rfl ?_
                  refine s_getfield 12 0 170 rfl rfl fl_Mod_7 w143 rfl ?_
                  refine s_iload_n 171 rfl rfl rfl ?_
                  refine s_iaload (st + 1 + j) 172 rfl rfl w144 rfl (by omega) (by decide) ?_
                  refine s_iastore (20 * kk + j) 173 rfl rfl x5 rfl (by omega) (by decide) ?_
                  refine s_aload_n 174 rfl rfl rfl ?_
                  refine s_getfield 12 36 177 rfl rfl fl_Mod_92 w143 rfl ?_
                  refine s_iload_n 178 rfl rfl rfl ?_
                  refine s_dup2 179 rfl rfl rfl rfl ?_
                  refine s_iaload (kk) 180 rfl rfl x4 rfl (by omega) (by decide) ?_
                  -- Mod_readRest 180: end
                  rw [hr3]
                  refine s_iconst 1 181 rfl rfl (by decide) ?_
                  refine s_iadd 182 rfl rfl ?_
                  -- Mod_readRest 182: end
                  rw [nI_1]
                  refine s_iastore (kk) 183 rfl rfl x4 rfl (by omega) (by decide) ?_
                  refine s_inc2 _ 186 rfl rfl rfl rfl ?_
                  refine s_goto 133 rfl (by decide) ?_
                  -- Mod_readRest 133: end
                  rw [inc1, show st + 1 + j + 1 = st + 1 + (j + 1) by omega]
                  refine ih (j + 1) _ _ _ (by omega) ⟨(x1.put (by omega)).put (by omega), x2, x3, rfl, rfl, fun i hi => ⟨(x6 i hi).1, (x6 i hi).2.1, (uq_n hi).trans (x6 i hi).2.2⟩, fun i hi => (uq_n (by omega)).trans (x7 i hi)⟩ w143 w144 uq_e (fun i hi => ?_)
                  by_cases z : i = j
                  · subst z; exact uq_e
                  · exact (uq_n (by omega)).trans (hb3 i (by omega))
          refine s_aload_n 127 rfl rfl rfl ?_
          refine s_getfield 12 39 130 rfl rfl fl_Mod_232 rfl rfl ?_
          refine s_iconst 1 131 rfl rfl (by decide) ?_
          refine s_iadd 132 rfl rfl ?_
          -- Mod_readRest 132: end
          rw [nI_1]
          refine s_ist2 133 rfl rfl rfl ?_
          -- Mod_readRest 133: end
          exact loop (en - st - 2) 0 _ rz2 rb2 (by omega) rq.md rfl n144 hr0 (fun i hi => absurd hi (Nat.not_lt_zero i))
        · have eb : be2_ (tb_ f2 n) k = (false, k + 1, 0, 0) := by unfold be2_; rw [if_pos e8, if_neg e3]
          rw [eb] at h0
          have ne3 : ¬ nI (ti_ (tb_ f2 n) (k + 1)).1 = 3 := fun w => e3 (nn_eq (b := 3) w)
          refine s_aload_n 127 rfl rfl rfl ?_
          refine s_getfield 12 39 130 rfl rfl fl_Mod_232 rfl rfl ?_
          refine s_iconst 1 131 rfl rfl (by decide) ?_
          refine s_iadd 132 rfl rfl ?_
          refine s_ist2 133 rfl rfl rfl ?_
          refine s_aload_n 134 rfl rfl rfl ?_
          refine s_getfield 12 38 137 rfl rfl fl_Mod_239 rfl rfl ?_
          refine s_iconst 3 138 rfl rfl (by decide) ?_
          refine s_icmp_ne 189 141 rfl rfl (by decide) (fun c9 => ?_) (fun c9 => ?_)
          -- Mod_readRest 141: branch 189 141
          · refine s_aload_n 190 rfl rfl rfl ?_
            refine s_aload_n 191 rfl rfl rfl ?_
            refine s_getfield 12 38 194 rfl rfl fl_Mod_239 rfl rfl ?_
            refine s_iconst 3 195 rfl rfl (by decide) ?_
            refine s_icmp_ne 202 198 rfl rfl (by decide) (fun c10 => ?_) (fun c10 => ?_)
            -- Mod_readRest 198: branch 202 198
            · refine s_iconst 0 203 rfl rfl (by decide) ?_
              refine c_callV1 (h+4) 206 rfl rfl mv_Mod_257 (by omega) (Nat.le_of_ble_eq_true rfl) (Nat.le_of_ble_eq_true rfl) rfl rfl rfl ?_
              -- Mod_readRest 206: call Mod_want
              refine d_wantF rfl ?_
              dsimp only [ax_rs]
              exact d_rrW206 rfl (h0 (Or.inl rfl) _ _ _ _ _ _ rq.md.md rfl)
            · exact absurd c10 ne3
          · exact absurd c9 ne3
theorem d_rrB {k2 : Nat} (hbl : bln ≤ 12) (hlo0 : bln = 0 → lo = 0) (hlo1 : 0 < bln → lo = nI (bln - 1)) (hkk : kk < 26) (hT : TK_ K f1 f2 n sz so sa se) (hk : k < sz) (hs : ST_ (tb_ f2 n) k tk pl bh va) (rq : RQ_ M N kk un kd rz rb un2 kd2 rz2 rb2) (hu0 : un2 kk = -1) (hr0 : rz2 kk = 0) (n143 : oC N 143 12 (md_f (nI n) (nI bln) ln dr al ru pv si pa cm os gm tk pl bh va 0 od)) (n144 : iA N 144 160 f2)
    (h0 : ∀ kw, (((on2_ (tb_ f2 n) 7 lo 11 k).1 = false ∧ kw = (on2_ (tb_ f2 n) 7 lo 11 k).2.1) ∨ ((on2_ (tb_ f2 n) 7 lo 11 k).1 = true ∧ ((be2_ (tb_ f2 n) (on2_ (tb_ f2 n) 7 lo 11 k).2.1).1 = false ∨ (ti_ (tb_ f2 n) (be2_ (tb_ f2 n) (on2_ (tb_ f2 n) 7 lo 11 k).2.1).2.1).1 ≠ 4) ∧ kw = (be2_ (tb_ f2 n) (on2_ (tb_ f2 n) 7 lo 11 k).2.1).2.1)) → ∀ N2 un3 rz3 rb3 tk2 bh2 va2, RQ_ M N2 kk un kd rz rb un3 kd2 rz3 rb3 → oC N2 143 12 (md_f (nI n) (nI bln) ln dr al ru pv si pa cm os gm tk2 (nI (ti_ (tb_ f2 n) kw).2.1) bh2 va2 1 od) → Q none N2)
    (h1 : (on2_ (tb_ f2 n) 7 lo 11 k).1 = true → (be2_ (tb_ f2 n) (on2_ (tb_ f2 n) 7 lo 11 k).2.1).1 = true → (ti_ (tb_ f2 n) (be2_ (tb_ f2 n) (on2_ (tb_ f2 n) 7 lo 11 k).2.1).2.1).1 = 4 → ∀ N2 un3 rz3 rb3 tk2 pl2 bh2 va2, RQ_ M N2 kk un kd rz rb un3 kd2 rz3 rb3 → oC N2 143 12 (md_f (nI n) (nI bln) ln dr al ru pv si pa cm os gm tk2 pl2 bh2 va2 0 od) → ST_ (tb_ f2 n) ((be2_ (tb_ f2 n) (on2_ (tb_ f2 n) 7 lo 11 k).2.1).2.1 + 1) tk2 pl2 bh2 va2 → un3 kk = (on2_ (tb_ f2 n) 7 lo 11 k).2.2 → rz3 kk = nI (be2_ (tb_ f2 n) (on2_ (tb_ f2 n) 7 lo 11 k).2.1).2.2.2 → (∀ j, j < (be2_ (tb_ f2 n) (on2_ (tb_ f2 n) 7 lo 11 k).2.1).2.2.2 → rb3 (20 * kk + j) = f2 ((be2_ (tb_ f2 n) (on2_ (tb_ f2 n) 7 lo 11 k).2.1).2.2.1 + j)) → Q none N2) : ax_G g mt_Mod_readRest (h + 5) 0 0 55 [.ref 143, .int (nI kk), .float 0] [] N Q := by
  obtain ⟨x1, x2, x3, x4, x5, x6, x7⟩ := id rq
  refine s_aload_n 56 rfl rfl rfl ?_
  refine s_getfield 12 42 59 rfl rfl fl_Mod_250 n143 rfl ?_
  refine s_if_ne 105 62 rfl rfl (by decide) (fun c1 => ?_) (fun c1 => ?_)
  -- Mod_readRest 62: branch 105 62
  · exact absurd rfl c1
  · refine s_aload_n 63 rfl rfl rfl ?_
    refine s_ldc2_w 22499628 66 rfl rfl kl_Mod_281 ?_
    refine c_callV1 (h+4) 69 rfl rfl mv_Mod_263 (by omega) (Nat.le_of_ble_eq_true rfl) (Nat.le_of_ble_eq_true rfl) n143 rfl rfl ?_
    -- Mod_readRest 69: call Mod_isWord
    refine d_isWord (h := h + 4) (i := 7) rfl (by decide) hT hk hs n143 ?_
    dsimp only [ax_rs]
    cases e7 : iw_ (tb_ f2 n) (ti_ (tb_ f2 n) k) 7 with
    | false =>
      have eo : on2_ (tb_ f2 n) 7 lo 11 k = (true, k, -1) := by unfold on2_; rw [if_neg (by rw [e7]; decide)]
      rw [eo] at h0 h1
      rw [if_neg (by decide)]
      refine s_if_eq 105 72 rfl rfl (by decide) (fun c2 => ?_) (fun c2 => ?_)
      -- Mod_readRest 72: branch 105 72
      · exact d_rrC hkk hT hk hs rq hr0 n143 n144 (fun e N2 rz3 rb3 tk2 bh2 va2 r o => h0 _ (Or.inr ⟨rfl, e, rfl⟩) N2 _ _ _ tk2 bh2 va2 r o) (fun e1 e2 N2 rz3 rb3 tk2 pl2 bh2 va2 r o s a b => h1 rfl e1 e2 N2 _ _ _ tk2 pl2 bh2 va2 r o s hu0 a b)
      · exact absurd rfl c2
    | true =>
      have k1 := hT.w hk e7
      rw [if_pos rfl]
      refine s_if_eq 105 72 rfl rfl (by decide) (fun c3 => ?_) (fun c3 => ?_)
      -- Mod_readRest 72: branch 105 72
      · exact absurd c3 (by decide)
      · refine s_aload_n 73 rfl rfl rfl ?_
        refine c_callV0 (h+4) 76 rfl rfl mv_Mod_254 (by omega) (Nat.le_of_ble_eq_true rfl) (Nat.le_of_ble_eq_true rfl) n143 rfl rfl ?_
        -- Mod_readRest 76: call Mod_next
        refine d_next (h := h + 2) hT hk (by rw [iw_1 e7]; decide) (by rw [iw_1 e7]; decide) hs n143 n144 (fun tk2 pl2 bh2 va2 s2 => ?_)
        dsimp only [ax_rs]
        have go : ax_G g mt_Mod_readRest (h + 5) 0 0 99 [.ref 143, .int (nI kk), .float 0] [.int lo, .ref 143, .int (nI kk), .ref 166] (md_m N (nI n) (nI bln) ln dr al ru pv si pa cm os gm tk2 pl2 bh2 va2 0 od) Q := by
          refine s_bipush 11 101 rfl rfl (by decide) ?_
          refine c_callV2 (h+4) 104 rfl rfl mv_Mod_267 (by omega) (Nat.le_of_ble_eq_true rfl) (Nat.le_of_ble_eq_true rfl) rfl rfl rfl ?_
          -- Mod_readRest 104: call Mod_number
          refine d_number (h := h) hT k1 s2 rfl n144 (fun e tk3 pl3 bh3 va3 s3 => ?_) (fun e v => ?_)
          · have k2 := hT.u k1 e
            have eo : on2_ (tb_ f2 n) 7 lo 11 k = (true, k + 2, vt_ (tb_ f2 n) (ti_ (tb_ f2 n) (k + 1))) := by unfold on2_; rw [if_pos e7, if_pos e]
            rw [eo] at h0 h1
            dsimp only [ax_rs]
            refine s_iastore (kk) 105 rfl rfl x2 rfl (by omega) (by decide) ?_
            -- Mod_readRest 105: end
            refine d_rrC hkk hT k2 s3 (rz2 := rz2) (rb2 := rb2) (un2 := upd un2 kk (vt_ (tb_ f2 n) (ti_ (tb_ f2 n) (k + 1)))) (kd2 := kd2) (M := M) (un := un) (kd := kd) (rz := rz) (rb := rb) ⟨((x1.put (by omega)).put (by omega)).put (by omega), rfl, x3, x4, x5, fun i hi => ⟨(uq_n hi).trans (x6 i hi).1, (x6 i hi).2⟩, x7⟩ hr0 rfl n144 (fun e N2 rz3 rb3 tk2 bh2 va2 r o => h0 _ (Or.inr ⟨rfl, e, rfl⟩) N2 _ _ _ tk2 bh2 va2 r o) (fun e1 e2 N2 rz3 rb3 tk2 pl2 bh2 va2 r o s a b => h1 rfl e1 e2 N2 _ _ _ tk2 pl2 bh2 va2 r o s uq_e a b)
          · have eo : on2_ (tb_ f2 n) 7 lo 11 k = (false, k + 1, 0) := by unfold on2_; rw [if_pos e7, if_neg (by rw [e]; decide)]
            rw [eo] at h0
            have p2 := s2.2.1
            subst p2
            dsimp only [ax_rs]
            refine s_iastore (kk) 105 rfl rfl x2 rfl (by omega) (by decide) ?_
            -- Mod_readRest 105: end
            exact d_rrW105 rfl (h0 _ (Or.inl ⟨rfl, rfl⟩) _ _ _ _ _ _ _ ⟨((x1.put (by omega)).put (by omega)).put (by omega), rfl, x3, x4, x5, fun i hi => ⟨(uq_n hi).trans (x6 i hi).1, (x6 i hi).2⟩, x7⟩ rfl)
        refine s_aload_n 77 rfl rfl rfl ?_
        refine s_getfield 12 31 80 rfl rfl fl_Mod_76 rfl rfl ?_
        refine s_iload_n 81 rfl rfl rfl ?_
        refine s_aload_n 82 rfl rfl rfl ?_
        refine s_aload_n 83 rfl rfl rfl ?_
        refine s_getfield 12 2 86 rfl rfl fl_Mod_152 rfl rfl ?_
        refine s_if_le 98 89 rfl rfl (by decide) (fun c4 => ?_) (fun c4 => ?_)
        -- Mod_readRest 89: branch 98 89
        · have c4 : bln = 0 := by have := nn_le (b := 0) c4; omega
          rw [hlo0 c4] at go
          refine s_iconst 0 99 rfl rfl (by decide) ?_
          -- Mod_readRest 99: end
          exact go
        · have c4 : 0 < bln := nn_nle (b := 0) c4
          rw [hlo1 c4] at go
          refine s_aload_n 90 rfl rfl rfl ?_
          refine s_getfield 12 2 93 rfl rfl fl_Mod_152 rfl rfl ?_
          refine s_iconst 1 94 rfl rfl (by decide) ?_
          refine s_isub 95 rfl rfl ?_
          -- Mod_readRest 95: end
          rw [show nI bln - 1 = nI (bln - 1) from by rw [show nI bln = nI (bln - 1 + 1) by rw [show bln - 1 + 1 = bln by omega], nI_pred]]
          refine s_goto 99 rfl (by decide) ?_
          -- Mod_readRest 99: end
          exact go
theorem d_readRest (hbl : bln ≤ 12) (hlo0 : bln = 0 → lo = 0) (hlo1 : 0 < bln → lo = nI (bln - 1)) (hkk : kk < 26) (hT : TK_ K f1 f2 n sz so sa se) (hk : k < sz) (hs : ST_ (tb_ f2 n) k tk pl bh va) (h_this : oC M 143 12 (md_f (nI n) (nI bln) ln dr al ru pv si pa cm os gm tk pl bh va 0 od)) (h_text : iA M 144 160 f2) (h_until : iA M 166 26 un) (h_silenceKind : iA M 167 26 kd) (h_reasonSize : iA M 171 26 rz) (h_reasons : iA M 172 520 rb)
    (h0 : ∀ kw, (((on2_ (tb_ f2 n) 6 0 9 k).1 = false ∧ kw = (on2_ (tb_ f2 n) 6 0 9 k).2.1) ∨ ((on2_ (tb_ f2 n) 6 0 9 k).1 = true ∧ (((on2_ (tb_ f2 n) 7 lo 11 (on2_ (tb_ f2 n) 6 0 9 k).2.1).1 = false ∧ kw = (on2_ (tb_ f2 n) 7 lo 11 (on2_ (tb_ f2 n) 6 0 9 k).2.1).2.1) ∨ ((on2_ (tb_ f2 n) 7 lo 11 (on2_ (tb_ f2 n) 6 0 9 k).2.1).1 = true ∧ ((be2_ (tb_ f2 n) (on2_ (tb_ f2 n) 7 lo 11 (on2_ (tb_ f2 n) 6 0 9 k).2.1).2.1).1 = false ∨ (ti_ (tb_ f2 n) (be2_ (tb_ f2 n) (on2_ (tb_ f2 n) 7 lo 11 (on2_ (tb_ f2 n) 6 0 9 k).2.1).2.1).2.1).1 ≠ 4) ∧ kw = (be2_ (tb_ f2 n) (on2_ (tb_ f2 n) 7 lo 11 (on2_ (tb_ f2 n) 6 0 9 k).2.1).2.1).2.1)))) → ∀ N2 un3 kd3 rz3 rb3 tk2 bh2 va2, RQ_ M N2 kk un kd rz rb un3 kd3 rz3 rb3 → oC N2 143 12 (md_f (nI n) (nI bln) ln dr al ru pv si pa cm os gm tk2 (nI (ti_ (tb_ f2 n) kw).2.1) bh2 va2 1 od) → Q none N2)
    (h1 : (on2_ (tb_ f2 n) 6 0 9 k).1 = true → (on2_ (tb_ f2 n) 7 lo 11 (on2_ (tb_ f2 n) 6 0 9 k).2.1).1 = true → (be2_ (tb_ f2 n) (on2_ (tb_ f2 n) 7 lo 11 (on2_ (tb_ f2 n) 6 0 9 k).2.1).2.1).1 = true → (ti_ (tb_ f2 n) (be2_ (tb_ f2 n) (on2_ (tb_ f2 n) 7 lo 11 (on2_ (tb_ f2 n) 6 0 9 k).2.1).2.1).2.1).1 = 4 → ∀ N2 un3 kd3 rz3 rb3 tk2 pl2 bh2 va2, RQ_ M N2 kk un kd rz rb un3 kd3 rz3 rb3 → oC N2 143 12 (md_f (nI n) (nI bln) ln dr al ru pv si pa cm os gm tk2 pl2 bh2 va2 0 od) → ST_ (tb_ f2 n) ((be2_ (tb_ f2 n) (on2_ (tb_ f2 n) 7 lo 11 (on2_ (tb_ f2 n) 6 0 9 k).2.1).2.1).2.1 + 1) tk2 pl2 bh2 va2 → un3 kk = (on2_ (tb_ f2 n) 7 lo 11 (on2_ (tb_ f2 n) 6 0 9 k).2.1).2.2 → kd3 kk = (on2_ (tb_ f2 n) 6 0 9 k).2.2 → rz3 kk = nI (be2_ (tb_ f2 n) (on2_ (tb_ f2 n) 7 lo 11 (on2_ (tb_ f2 n) 6 0 9 k).2.1).2.1).2.2.2 → (∀ j, j < (be2_ (tb_ f2 n) (on2_ (tb_ f2 n) 7 lo 11 (on2_ (tb_ f2 n) 6 0 9 k).2.1).2.1).2.2.2 → rb3 (20 * kk + j) = f2 ((be2_ (tb_ f2 n) (on2_ (tb_ f2 n) 7 lo 11 (on2_ (tb_ f2 n) 6 0 9 k).2.1).2.1).2.2.1 + j)) → Q none N2) : ax_G g mt_Mod_readRest (h + 5) 0 0 0 [.ref 143, .int (nI kk), .float 0] [] M Q := by
  refine s_aload_n 1 rfl rfl rfl ?_
  refine s_getfield 12 32 4 rfl rfl fl_Mod_79 h_this rfl ?_
  refine s_iload_n 5 rfl rfl rfl ?_
  refine s_iconst (-1) 6 rfl rfl (by decide) ?_
  refine s_iastore (kk) 7 rfl rfl h_silenceKind rfl (by omega) (by decide) ?_
  refine s_aload_n 8 rfl rfl rfl ?_
  refine s_getfield 12 31 11 rfl rfl fl_Mod_76 h_this rfl ?_
  refine s_iload_n 12 rfl rfl rfl ?_
  refine s_iconst (-1) 13 rfl rfl (by decide) ?_
  refine s_iastore (kk) 14 rfl rfl h_until rfl (by omega) (by decide) ?_
  refine s_aload_n 15 rfl rfl rfl ?_
  refine s_getfield 12 36 18 rfl rfl fl_Mod_92 h_this rfl ?_
  refine s_iload_n 19 rfl rfl rfl ?_
  refine s_iconst 0 20 rfl rfl (by decide) ?_
  refine s_iastore (kk) 21 rfl rfl h_reasonSize rfl (by omega) (by decide) ?_
  -- Mod_readRest 21: end
  generalize hW : ax_put (ax_put (ax_put M 167 (.inl (0, 26, .inl (upd kd kk (-1))))) 166 (.inl (0, 26, .inl (upd un kk (-1))))) 171 (.inl (0, 26, .inl (upd rz kk 0))) = W
  have rq : RQ_ M W kk un kd rz rb (upd un kk (-1)) (upd kd kk (-1)) (upd rz kk 0) rb := by
    rw [← hW]
    exact ⟨((fr_.r.put (by omega)).put (by omega)).put (by omega), rfl, rfl, rfl, h_reasons, fun i hi => ⟨uq_n hi, uq_n hi, uq_n hi⟩, fun i hi => rfl⟩
  have n143 : oC W 143 12 (md_f (nI n) (nI bln) ln dr al ru pv si pa cm os gm tk pl bh va 0 od) := by rw [← hW]; exact h_this
  have n144 : iA W 144 160 f2 := by rw [← hW]; exact h_text
  clear hW
  obtain ⟨x1, x2, x3, x4, x5, x6, x7⟩ := id rq
  refine s_aload_n 22 rfl rfl rfl ?_
  refine s_getfield 12 42 25 rfl rfl fl_Mod_250 n143 rfl ?_
  refine s_if_ne 55 28 rfl rfl (by decide) (fun c1 => ?_) (fun c1 => ?_)
  -- Mod_readRest 28: branch 55 28
  · exact absurd rfl c1
  · refine s_aload_n 29 rfl rfl rfl ?_
    refine s_ldc2_w 370116 32 rfl rfl kl_Mod_279 ?_
    refine c_callV1 (h+4) 35 rfl rfl mv_Mod_263 (by omega) (Nat.le_of_ble_eq_true rfl) (Nat.le_of_ble_eq_true rfl) n143 rfl rfl ?_
    -- Mod_readRest 35: call Mod_isWord
    refine d_isWord (h := h + 4) (i := 6) rfl (by decide) hT hk hs n143 ?_
    dsimp only [ax_rs]
    cases e6 : iw_ (tb_ f2 n) (ti_ (tb_ f2 n) k) 6 with
    | false =>
      have eo : on2_ (tb_ f2 n) 6 0 9 k = (true, k, -1) := by unfold on2_; rw [if_neg (by rw [e6]; decide)]
      rw [eo] at h0 h1
      rw [if_neg (by decide)]
      refine s_if_eq 55 38 rfl rfl (by decide) (fun c2 => ?_) (fun c2 => ?_)
      -- Mod_readRest 38: branch 55 38
      · exact d_rrB (k2 := 0) hbl hlo0 hlo1 hkk hT hk hs rq uq_e uq_e n143 n144 (fun kw e N2 un3 rz3 rb3 tk2 bh2 va2 r o => h0 kw (Or.inr ⟨rfl, e⟩) N2 _ _ _ _ tk2 bh2 va2 r o) (fun e1 e2 e3 N2 un3 rz3 rb3 tk2 pl2 bh2 va2 r o s a b c => h1 rfl e1 e2 e3 N2 _ _ _ _ tk2 pl2 bh2 va2 r o s a uq_e b c)
      · exact absurd rfl c2
    | true =>
      have k1 := hT.w hk e6
      rw [if_pos rfl]
      refine s_if_eq 55 38 rfl rfl (by decide) (fun c3 => ?_) (fun c3 => ?_)
      -- Mod_readRest 38: branch 55 38
      · exact absurd c3 (by decide)
      · refine s_aload_n 39 rfl rfl rfl ?_
        refine c_callV0 (h+4) 42 rfl rfl mv_Mod_254 (by omega) (Nat.le_of_ble_eq_true rfl) (Nat.le_of_ble_eq_true rfl) n143 rfl rfl ?_
        -- Mod_readRest 42: call Mod_next
        refine d_next (h := h + 2) hT hk (by rw [iw_1 e6]; decide) (by rw [iw_1 e6]; decide) hs n143 n144 (fun tk2 pl2 bh2 va2 s2 => ?_)
        dsimp only [ax_rs]
        refine s_aload_n 43 rfl rfl rfl ?_
        refine s_getfield 12 32 46 rfl rfl fl_Mod_79 rfl rfl ?_
        refine s_iload_n 47 rfl rfl rfl ?_
        refine s_aload_n 48 rfl rfl rfl ?_
        refine s_iconst 0 49 rfl rfl (by decide) ?_
        refine s_bipush 9 51 rfl rfl (by decide) ?_
        refine c_callV2 (h+4) 54 rfl rfl mv_Mod_267 (by omega) (Nat.le_of_ble_eq_true rfl) (Nat.le_of_ble_eq_true rfl) rfl rfl rfl ?_
        -- Mod_readRest 54: call Mod_number
        refine d_number (h := h) hT k1 s2 rfl n144 (fun e tk3 pl3 bh3 va3 s3 => ?_) (fun e v => ?_)
        · have k2 := hT.u k1 e
          have eo : on2_ (tb_ f2 n) 6 0 9 k = (true, k + 2, vt_ (tb_ f2 n) (ti_ (tb_ f2 n) (k + 1))) := by unfold on2_; rw [if_pos e6, if_pos e]
          rw [eo] at h0 h1
          dsimp only [ax_rs]
          refine s_iastore (kk) 55 rfl rfl x3 rfl (by omega) (by decide) ?_
          -- Mod_readRest 55: end
          exact d_rrB (k2 := 0) (M := M) (un := un) (kd := kd) (rz := rz) (rb := rb) (kd2 := upd (upd kd kk (-1)) kk (vt_ (tb_ f2 n) (ti_ (tb_ f2 n) (k + 1)))) (un2 := upd un kk (-1)) (rz2 := upd rz kk 0) (rb2 := rb) hbl hlo0 hlo1 hkk hT k2 s3 ⟨((x1.put (by omega)).put (by omega)).put (by omega), x2, rfl, x4, x5, fun i hi => ⟨(x6 i hi).1, (uq_n hi).trans (x6 i hi).2.1, (x6 i hi).2.2⟩, x7⟩ uq_e uq_e rfl n144 (fun kw e N2 un3 rz3 rb3 tk2 bh2 va2 r o => h0 kw (Or.inr ⟨rfl, e⟩) N2 _ _ _ _ tk2 bh2 va2 r o) (fun e1 e2 e3 N2 un3 rz3 rb3 tk2 pl2 bh2 va2 r o s a b c => h1 rfl e1 e2 e3 N2 _ _ _ _ tk2 pl2 bh2 va2 r o s a uq_e b c)
        · have eo : on2_ (tb_ f2 n) 6 0 9 k = (false, k + 1, 0) := by unfold on2_; rw [if_pos e6, if_neg (by rw [e]; decide)]
          rw [eo] at h0
          have p2 := s2.2.1
          subst p2
          dsimp only [ax_rs]
          refine s_iastore (kk) 55 rfl rfl x3 rfl (by omega) (by decide) ?_
          -- Mod_readRest 55: end
          exact d_rrW55 rfl (h0 _ (Or.inl ⟨rfl, rfl⟩) _ _ _ _ _ _ _ _ ⟨((x1.put (by omega)).put (by omega)).put (by omega), x2, rfl, x4, x5, fun i hi => ⟨(x6 i hi).1, (uq_n hi).trans (x6 i hi).2.1, (x6 i hi).2.2⟩, x7⟩ rfl)
end MREST
