/-! build -/
/-- what the reference's trends are -/
def tt_ (s : Sta) (b : Nat) (tr : Nat → Int32) (i : Nat) : Nat → Int32 := fun x => if 4 * b ≤ x ∧ x < 4 * b + i then nI (cnt (be_ s (x - 4 * b)) (sAl s)) else tr x
section BLD
variable {g : ax_Y} {M : ax_M} {Q : Option Value → ax_M → Prop} {h : Nat} {s : Sta}
/-- from 73 on -/
theorem bd_C {n pa cm os gm tk pl bh : Int32} {va : Int64} {iw od : Int32} {bl ln drn al ru si : Nat} {pv : Int32} {mf mm gf gm2 e0 e1 e2 e3 li st ob mp : Nat → Int32} {ls : Nat → Int64} {fo fn : Nat → Nat} {z1 z2 z4 : Value} (h1 : z1.category = 1) (h4 : z4.category = 1) (h_this : oC M 143 12 (md_f n (nI bl) (nI ln) (nI drn) (nI al) (nI ru) pv (nI si) pa cm os gm tk pl bh va iw od)) (h145 : iA M 145 40 mf) (h146 : iA M 146 40 mm) (h147 : iA M 147 40 mp) (h148 : iA M 148 40 gf) (h149 : iA M 149 40 gm2) (h150 : iA M 150 40 e0) (h151 : iA M 151 40 e1) (h152 : iA M 152 40 e2) (h153 : iA M 153 1681 e3) (h155 : iA M 155 50 li) (h160 : iA M 160 50 st) (h161 : iA M 161 50 ob) (h170 : lA M 170 26 ls) (hr : rp_ e0 (fun _ => none) ln) (hal : al ≤ 50) (hln : ln ≤ 40) (hdr : drn ≤ 40) (hbl : bl ≤ 12) (hsi : si ≤ 12) (hz : bl = 0 → ln = 0) (ht : ∀ a, a < al → st a = 0 → ∃ c, c < ln ∧ li a = nI c) (hs : ∀ a, a < al → (st a = 0 ∨ st a = 1 ∨ st a = 2) ∧ (st a = 2 → li a = -1)) (ho : ∀ i, i < ln → mf i = nI (fo i) ∧ fo i < 6) (hn : ∀ j, j < drn → gf j = nI (fn j) ∧ fn j < 6) (hq : ∀ (N : ax_M) (a0 a1 a2 a3 f2 m2 p2 l2 s2 o2 : Nat → Int32) (y2 : Nat → Int64), fr_ M N (fun k => k = 143 ∨ (145 ≤ k ∧ k ≤ 147) ∨ (150 ≤ k ∧ k ≤ 153) ∨ k = 155 ∨ k = 160 ∨ k = 161 ∨ k = 170) → oC N 143 12 (md_f n (nI (bl + 1)) (nI drn) (nI 0) (nI al) (nI ru) pv (nI si) pa cm os gm tk pl bh va iw od) → iA N 145 40 f2 → iA N 146 40 m2 → iA N 147 40 p2 → iA N 150 40 a0 → iA N 151 40 a1 → iA N 152 40 a2 → iA N 153 1681 a3 → iA N 155 50 l2 → iA N 160 50 s2 → iA N 161 50 o2 → lA N 170 26 y2 → (∀ j, j < drn → f2 j = gf j ∧ m2 j = gm2 j) → rp_ p2 (mt_ fo fn (fun i j => decide (mm i = gm2 j)) ln drn 6).1 drn → (∀ a, a < al → l2 a = cl_ st li (mt_ fo fn (fun i j => decide (mm i = gm2 j)) ln drn 6).2 a ∧ s2 a = (if cl_ st li (mt_ fo fn (fun i j => decide (mm i = gm2 j)) ln drn 6).2 a = -1 then 2 else 1) ∧ o2 a = on_ st ob bl a) → (∀ k, k < si → sq_ (mt_ fo fn (fun i j => decide (mm i = gm2 j)) ln drn 6).2 ln (ls k) (y2 k)) → Q (some (.int (nI bl))) N) : ax_G g mt_Mod_build (h + 1) 0 0 73 [.ref 143, z1, z2, .float 0, z4] [] M Q := by
  refine s_iconst 0 74 rfl rfl (by decide) ?_
  refine s_ist1 75 rfl rfl rfl ?_
  -- Mod_build 75: end
  have loop : ∀ (d f : Nat) (N : ax_M) (e0 e1 e2 e3 : Nat → Int32), f + d = 6 → fr_ M N (fun k => 150 ≤ k ∧ k ≤ 153) → iA N 150 40 e0 → iA N 151 40 e1 → iA N 152 40 e2 → iA N 153 1681 e3 → rp_ e0 (mt_ fo fn (fun i j => decide (mm i = gm2 j)) ln drn f).2 ln → ax_G g mt_Mod_build (h + 1) 0 0 75 [.ref 143, .int (nI f), z2, .float 0, z4] [] N Q := by
    intro d
    induction d with
    | zero =>
      intro f N e0 e1 e2 e3 hf hN q0 q1 q2 q3 qr
      obtain rfl : f = 6 := by omega
      obtain ⟨hJ, -, -⟩ := mt_J fo fn (fun i j => decide (mm i = gm2 j)) ln drn 6
      have t : oC N 143 12 (md_f n (nI bl) (nI ln) (nI drn) (nI al) (nI ru) pv (nI si) pa cm os gm tk pl bh va iw od) := (hN _ (by omega)).trans h_this
      refine s_iload_n 76 rfl rfl rfl ?_
      refine s_bipush 6 78 rfl rfl (by decide) ?_
      refine s_icmp_ge 92 81 rfl rfl (by decide) (fun c1 => ?_) (fun c1 => ?_)
      -- Mod_build 81: branch 92 81
      · refine s_aload_n 93 rfl rfl rfl ?_
        refine c_callV0 h 96 rfl rfl mv_Mod_163 (by omega) (Nat.le_of_ble_eq_true rfl) (Nat.le_of_ble_eq_true rfl) t rfl rfl ?_
        -- Mod_build 96: call Mod_carryAlarms
        refine m_Mod_carryAlarms (M := N) t ((hN _ (by omega)).trans h155) ((hN _ (by omega)).trans h160) ((hN _ (by omega)).trans h161) q0 qr hal hln hbl hz ht hs (fun l2 s2 o2 hls => ?_)
        dsimp only [ax_rs]
        refine bd_D (M := iP (iP (iP N 161 50 o2) 155 50 l2) 160 50 s2) rfl h4 t q0 ((hN 170 (by omega)).trans h170) qr hJ hsi hln hdr (fun y2 z1 z2 z4 w1 w4 hy => ?_)
        refine bd_E (M := lP (iP (iP (iP N 161 50 o2) 155 50 l2) 160 50 s2) 170 26 y2) w1 w4 t ((hN 145 (by omega)).trans h145) ((hN 146 (by omega)).trans h146) ((hN 147 (by omega)).trans h147) ((hN 148 (by omega)).trans h148) ((hN 149 (by omega)).trans h149) q0 qr hJ hln hdr (fun N2 f2 m2 p2 a1 a2 a3 a4 a5 a6 a7 => ?_)
        refine hq N2 e0 e1 e2 e3 f2 m2 p2 l2 s2 o2 y2 (fun k hk => (a1 k (by omega)).trans (ax_ne (by omega) (ax_ne (by omega) (ax_ne (by omega) (ax_ne (by omega) (hN k (by omega))))))) a2 a3 a4 a5 ((a1 150 (by omega)).trans q0) ((a1 151 (by omega)).trans q1) ((a1 152 (by omega)).trans q2) ((a1 153 (by omega)).trans q3) ((a1 155 (by omega)).trans rfl) ((a1 160 (by omega)).trans rfl) ((a1 161 (by omega)).trans rfl) ((a1 170 (by omega)).trans rfl) a6 a7 hls hy
      · exact absurd (by decide) c1
    | succ d ih =>
      intro f N e0 e1 e2 e3 hf hN q0 q1 q2 q3 qr
      have t : oC N 143 12 (md_f n (nI bl) (nI ln) (nI drn) (nI al) (nI ru) pv (nI si) pa cm os gm tk pl bh va iw od) := (hN _ (by omega)).trans h_this
      refine s_iload_n 76 rfl rfl rfl ?_
      refine s_bipush 6 78 rfl rfl (by decide) ?_
      refine s_icmp_ge 92 81 rfl rfl (by decide) (fun c2 => ?_) (fun c2 => ?_)
      -- Mod_build 81: branch 92 81
      · exact absurd (nn_le (a := 6) c2) (by omega)
      · refine s_aload_n 82 rfl rfl rfl ?_
        refine s_iload_n 83 rfl rfl rfl ?_
        refine c_callV1 h 86 rfl rfl mv_Mod_159 (by omega) (Nat.le_of_ble_eq_true rfl) (Nat.le_of_ble_eq_true rfl) t rfl rfl ?_
        -- Mod_build 86: call Mod_match
        refine m_Mod_match (M := N) (fo := fo) (fn := fn) (bf := (mt_ fo fn (fun i j => decide (mm i = gm2 j)) ln drn f).1) (wt := (mt_ fo fn (fun i j => decide (mm i = gm2 j)) ln drn f).2) t ((hN 145 (by omega)).trans h145) ((hN 146 (by omega)).trans h146) ((hN 148 (by omega)).trans h148) ((hN 149 (by omega)).trans h149) q0 q1 q2 q3 hln hdr (fun i hi => ?_) (fun j hj => ?_) qr (fun N2 a b c d2 a1 a2 a3 a4 a5 a6 => ?_)
        · obtain ⟨w1, w2⟩ := ho i hi
          rw [w1, decide_eq_true_eq]
          exact ⟨fun q => nn_eq q, fun q => by rw [q]⟩
        · obtain ⟨w1, w2⟩ := hn j hj
          rw [w1, decide_eq_true_eq]
          exact ⟨fun q => nn_eq q, fun q => by rw [q]⟩
        · dsimp only [ax_rs]
          refine s_inc1 _ 89 rfl rfl rfl rfl ?_
          refine s_goto 75 rfl (by decide) ?_
          -- Mod_build 75: end
          rw [inc1]
          refine ih (f + 1) N2 d2 a b c (by omega) (hN.t a1) a2 a3 a4 a5 ?_
          rw [mt_]
          exact a6
  exact loop 6 0 M e0 e1 e2 e3 (by omega) fr_.r h150 h151 h152 h153 hr
theorem d_build {n pa cm os gm tk pl bh : Int32} {va : Int64} {iw od : Int32} {drn : Nat} {mf mm gf gm2 e0 e1 e2 e3 ob mp tr : Nat → Int32} {fo fn : Nat → Nat} (hK : KM M s n (nI drn) pa cm os gm tk pl bh va iw od) (h145 : iA M 145 40 mf) (h146 : iA M 146 40 mm) (h147 : iA M 147 40 mp) (h148 : iA M 148 40 gf) (h149 : iA M 149 40 gm2) (h150 : iA M 150 40 e0) (h151 : iA M 151 40 e1) (h152 : iA M 152 40 e2) (h153 : iA M 153 1681 e3) (h154 : iA M 154 48 tr) (h161 : iA M 161 50 ob) (hdr : drn ≤ 40) (hz : sBl s = 0 → sLn s = 0) (hs : ∀ a, a < sAl s → (sSt s a = 0 ∨ sSt s a = 1 ∨ sSt s a = 2) ∧ (sSt s a = 2 → sLi s a = -1)) (ho : ∀ i, i < sLn s → mf i = nI (fo i) ∧ fo i < 6) (hn : ∀ j, j < drn → gf j = nI (fn j) ∧ fn j < 6) (hroom : sBl s = 12 → Q (some (.int (-4))) M) (hq : sBl s ≠ 12 → ∀ (N : ax_M) (a0 a1 a2 a3 f2 m2 p2 l2 s2 o2 : Nat → Int32) (y2 : Nat → Int64), fr_ M N (fun k => k = 143 ∨ (145 ≤ k ∧ k ≤ 147) ∨ (150 ≤ k ∧ k ≤ 155) ∨ k = 160 ∨ k = 161 ∨ k = 170) → oC N 143 12 (md_f n (nI (sBl s + 1)) (nI drn) (nI 0) (nI (sAl s)) (nI (sRu s)) (sPv s) (nI (sSi s)) pa cm os gm tk pl bh va iw od) → iA N 145 40 f2 → iA N 146 40 m2 → iA N 147 40 p2 → iA N 150 40 a0 → iA N 151 40 a1 → iA N 152 40 a2 → iA N 153 1681 a3 → iA N 154 48 (if sBl s = 0 then tr else tt_ s (sBl s - 1) tr 4) → iA N 155 50 l2 → iA N 160 50 s2 → iA N 161 50 o2 → lA N 170 26 y2 → (∀ j, j < drn → f2 j = gf j ∧ m2 j = gm2 j) → rp_ p2 (mt_ fo fn (fun i j => decide (mm i = gm2 j)) (sLn s) drn 6).1 drn → (∀ a, a < sAl s → l2 a = cl_ (sSt s) (sLi s) (mt_ fo fn (fun i j => decide (mm i = gm2 j)) (sLn s) drn 6).2 a ∧ s2 a = (if cl_ (sSt s) (sLi s) (mt_ fo fn (fun i j => decide (mm i = gm2 j)) (sLn s) drn 6).2 a = -1 then 2 else 1) ∧ o2 a = on_ (sSt s) ob (sBl s) a) → (∀ k, k < sSi s → sq_ (mt_ fo fn (fun i j => decide (mm i = gm2 j)) (sLn s) drn 6).2 (sLn s) (sLs s k) (y2 k)) → Q (some (.int (nI (sBl s)))) N) : ax_G g mt_Mod_build (h + 4) 0 0 0 [.ref 143, .float 0, .float 0, .float 0, .float 0] [] M Q := by
  obtain ⟨b1, b2, b3, b4, b5⟩ := hK.bd
  refine s_aload_n 1 rfl rfl rfl ?_
  refine s_getfield 12 2 4 rfl rfl fl_Mod_152 hK.this rfl ?_
  refine s_bipush 12 6 rfl rfl (by decide) ?_
  refine s_icmp_ne 12 9 rfl rfl (by decide) (fun c1 => ?_) (fun c1 => ?_)
  -- Mod_build 9: branch 12 9
  · have n12 : sBl s ≠ 12 := fun q => c1 (by rw [q]; rfl)
    have hq := hq n12
    have second : ∀ (t2 : Nat → Int32) (z1 : Value), z1.category = 1 → t2 = (if sBl s = 0 then tr else tt_ s (sBl s - 1) tr 4) → ax_G g mt_Mod_build (h + 4) 0 0 52 [.ref 143, z1, .float 0, .float 0, .float 0] [] (iP M 154 48 t2) Q := by
      intro t2 z1 _ ht2
      refine s_iconst 0 53 rfl rfl (by decide) ?_
      refine s_ist1 54 rfl rfl rfl ?_
      -- Mod_build 54: end
      have loop : ∀ (d i : Nat) (e : Nat → Int32), i + d = 40 → (∀ j, j < i → e j = -1) → ax_G g mt_Mod_build (h + 4) 0 0 54 [.ref 143, .int (nI i), .float 0, .float 0, .float 0] [] (iP (iP M 154 48 t2) 150 40 e) Q := by
        intro d
        induction d with
        | zero =>
          intro i e hi he
          obtain rfl : i = 40 := by omega
          refine s_iload_n 55 rfl rfl rfl ?_
          refine s_bipush 40 57 rfl rfl (by decide) ?_
          refine s_icmp_ge 73 60 rfl rfl (by decide) (fun c2 => ?_) (fun c2 => ?_)
          -- Mod_build 60: branch 73 60
          · refine bd_C (M := iP (iP M 154 48 t2) 150 40 e) (h := h + 3) (fo := fo) (fn := fn) rfl rfl hK.this h145 h146 h147 h148 h149 rfl h151 h152 h153 hK.lineOf hK.state h161 hK.silenceLines (fun j hj => he j (by omega)) b1 b4 hdr (by omega) b3 hz hK.told hs ho hn (fun N a0 a1 a2 a3 f2 m2 p2 l2 s2 o2 y2 x1 x2 x3 x4 x5 x6 x7 x8 x9 x10 x11 x12 x13 x14 x15 x16 x17 => ?_)
            refine hq N a0 a1 a2 a3 f2 m2 p2 l2 s2 o2 y2 (fun k hk => (x1 k (by omega)).trans (ax_ne (by omega) (ax_ne (by omega) rfl))) x2 x3 x4 x5 x6 x7 x8 x9 ?_ x10 x11 x12 x13 x14 x15 x16 x17
            rw [← ht2]
            exact (x1 154 (by omega)).trans rfl
          · exact absurd (by decide) c2
        | succ d ih =>
          intro i e hi he
          refine s_iload_n 55 rfl rfl rfl ?_
          refine s_bipush 40 57 rfl rfl (by decide) ?_
          refine s_icmp_ge 73 60 rfl rfl (by decide) (fun c3 => ?_) (fun c3 => ?_)
          -- Mod_build 60: branch 73 60
          · exact absurd (nn_le (a := 40) c3) (by omega)
          · refine s_aload_n 61 rfl rfl rfl ?_
            refine s_getfield 12 10 64 rfl rfl fl_Mod_28 hK.this rfl ?_
            refine s_iload_n 65 rfl rfl rfl ?_
            refine s_iconst (-1) 66 rfl rfl (by decide) ?_
            refine s_iastore (i) 67 rfl rfl rfl rfl (by omega) (by decide) ?_
            refine s_inc1 _ 70 rfl rfl rfl rfl ?_
            refine s_goto 54 rfl (by decide) ?_
            -- Mod_build 54: end
            unfold iP
            rw [ax_pp, inc1]
            refine ih (i + 1) _ (by omega) (fun j hj => ?_)
            unfold upd
            by_cases z : j = i
            · rw [if_pos z]
            · rw [if_neg z]
              exact he j (by omega)
      have h0 := loop 40 0 e0 (by omega) (fun j hj => absurd hj (Nat.not_lt_zero j))
      unfold iP at h0
      rw [ax_id (M := ax_put M 154 _) (a := 150) h150] at h0
      exact h0
    by_cases z0 : sBl s = 0
    · rw [if_pos z0] at second
      have se := second tr (.int 0) rfl rfl
      unfold iP at se
      rw [ax_id h154] at se
      refine s_iconst 0 13 rfl rfl (by decide) ?_
      refine s_ist1 14 rfl rfl rfl ?_
      refine s_iload_n 15 rfl rfl rfl ?_
      refine s_iconst 4 16 rfl rfl (by decide) ?_
      refine s_icmp_ge 52 19 rfl rfl (by decide) (fun c1 => ?_) (fun c1 => ?_)
      -- Mod_build 19: branch 52 19
      · exact absurd c1 (by decide)
      · refine s_aload_n 20 rfl rfl rfl ?_
        refine s_getfield 12 2 23 rfl rfl fl_Mod_152 hK.this rfl ?_
        refine s_if_le 52 26 rfl rfl (by decide) (fun c2 => ?_) (fun c2 => ?_)
        -- Mod_build 26: branch 52 26
        · exact se
        · exact absurd (by rw [z0]; decide) c2
    · rw [if_neg z0] at second
      have loop : ∀ (d i : Nat), i + d = 4 → ax_G g mt_Mod_build (h + 4) 0 0 14 [.ref 143, .int (nI i), .float 0, .float 0, .float 0] [] (iP M 154 48 (tt_ s (sBl s - 1) tr i)) Q := by
        intro d
        induction d with
        | zero =>
          intro i hi
          obtain rfl : i = 4 := by omega
          refine s_iload_n 15 rfl rfl rfl ?_
          refine s_iconst 4 16 rfl rfl (by decide) ?_
          refine s_icmp_ge 52 19 rfl rfl (by decide) (fun c1 => ?_) (fun c1 => ?_)
          -- Mod_build 19: branch 52 19
          · exact second _ _ rfl rfl
          · exact absurd (by decide) c1
        | succ d ih =>
          intro i hi
          have nx := ih (i + 1) (by omega)
          have hK2 : KM (iP M 154 48 (tt_ s (sBl s - 1) tr i)) s n (nI drn) pa cm os gm tk pl bh va iw od := hK.mv hK.this (fun k hk => ax_ne (by omega) rfl)
          refine s_iload_n 15 rfl rfl rfl ?_
          refine s_iconst 4 16 rfl rfl (by decide) ?_
          refine s_icmp_ge 52 19 rfl rfl (by decide) (fun c1 => ?_) (fun c1 => ?_)
          -- Mod_build 19: branch 52 19
          · exact absurd (nn_le (a := 4) c1) (by omega)
          · refine s_aload_n 20 rfl rfl rfl ?_
            refine s_getfield 12 2 23 rfl rfl fl_Mod_152 hK.this rfl ?_
            refine s_if_le 52 26 rfl rfl (by decide) (fun c2 => ?_) (fun c2 => ?_)
            -- Mod_build 26: branch 52 26
            · exact absurd (nn_le (b := 0) c2) (by omega)
            · refine s_aload_n 27 rfl rfl rfl ?_
              refine s_getfield 12 14 30 rfl rfl fl_Mod_40 hK.this rfl ?_
              refine s_iconst 4 31 rfl rfl (by decide) ?_
              refine s_aload_n 32 rfl rfl rfl ?_
              refine s_getfield 12 2 35 rfl rfl fl_Mod_152 hK.this rfl ?_
              refine s_iconst 1 36 rfl rfl (by decide) ?_
              refine s_isub 37 rfl rfl ?_
              -- Mod_build 37: end
              rw [show nI (sBl s) = nI (sBl s - 1 + 1) by rw [show sBl s - 1 + 1 = sBl s by omega], nI_pred]
              refine s_imul 38 rfl rfl ?_
              -- Mod_build 38: end
              rw [show (4 : Int32) * nI (sBl s - 1) = nI (4 * (sBl s - 1)) from pk_mul 4 _]
              refine s_iload_n 39 rfl rfl rfl ?_
              refine s_iadd 40 rfl rfl ?_
              -- Mod_build 40: end
              rw [nI_add]
              refine s_aload_n 41 rfl rfl rfl ?_
              refine s_iload_n 42 rfl rfl rfl ?_
              refine c_callV1 (h+3) 45 rfl rfl mv_Mod_155 (by omega) (Nat.le_of_ble_eq_true rfl) (Nat.le_of_ble_eq_true rfl) hK.this rfl rfl ?_
              -- Mod_build 45: call Mod_trendOf
              refine m_Mod_trendOf (h := h) hK2 (by omega) ?_
              dsimp only [ax_rs]
              refine s_iastore (4 * (sBl s - 1) + i) 46 rfl rfl rfl rfl (by omega) (by decide) ?_
              refine s_inc1 _ 49 rfl rfl rfl rfl ?_
              refine s_goto 14 rfl (by decide) ?_
              -- Mod_build 14: end
              have e : tt_ s (sBl s - 1) tr (i + 1) = upd (tt_ s (sBl s - 1) tr i) (4 * (sBl s - 1) + i) (nI (cnt (be_ s i) (sAl s))) := by
                funext x
                unfold upd tt_
                by_cases z : x = 4 * (sBl s - 1) + i
                · rw [if_pos (by omega), if_pos z, show x - 4 * (sBl s - 1) = i by omega]
                · rw [if_neg z]
                  by_cases w : 4 * (sBl s - 1) ≤ x ∧ x < 4 * (sBl s - 1) + i
                  · rw [if_pos w, if_pos (by omega)]
                  · rw [if_neg w, if_neg (by omega)]
              unfold iP
              rw [ax_pp, inc1, ← e]
              exact nx
      have h0 := loop 4 0 (by omega)
      rw [show tt_ s (sBl s - 1) tr 0 = tr from by funext x; unfold tt_; rw [if_neg (by omega)]] at h0
      unfold iP at h0
      rw [ax_id h154] at h0
      refine s_iconst 0 13 rfl rfl (by decide) ?_
      refine s_ist1 14 rfl rfl rfl ?_
      -- Mod_build 14: end
      exact h0
  · refine s_bipush (-4) 11 rfl rfl (by decide) ?_
    -- Mod_build 11: ireturn
    exact s_ireturn rfl .int rfl rfl (hroom (nn_eq (b := 12) c1))
end BLD
