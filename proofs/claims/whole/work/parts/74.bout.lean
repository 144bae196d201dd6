/-! out -/
/-- an alarm's words behind S -/
def al_w (ki li pp qq : Nat) (S : (Nat → Int32) × Nat) : (Nat → Int32) × Nat := oa_ (nuk_ qq 3 (oa_ (nuk_ pp 3 (oa_ (nuk_ li 3 (oa_ (nuk_ ki 3 S) (nI 64))) (nI 32))) (nI 47))) (nI 59)
/-- the first k alarms of a row -/
def ww_ (s : Sta) (rw : Nat → Int32) (S : (Nat → Int32) × Nat) : Nat → (Nat → Int32) × Nat
  | 0 => S
  | k + 1 => al_w (sKi s (rw k).toNatClampNeg).toNatClampNeg (sLi s (rw k).toNatClampNeg).toNatClampNeg (sPp s (rw k).toNatClampNeg).toNatClampNeg (sQq s (rw k).toNatClampNeg).toNatClampNeg (ww_ s rw S k)
theorem al_le {ki li pp qq : Nat} (h1 : ki < 10) (h2 : li < 100) {S : (Nat → Int32) × Nat} : (al_w ki li pp qq S).2 ≤ S.2 + 16 := by
  unfold al_w
  have a1 := nuk_le (v := ki) 0 S
  rw [← nuk_3 (m := 0) (by omega) (by omega)] at a1
  have a2 := nuk_le (v := li) 1 (oa_ (nuk_ ki 3 S) (nI 64))
  rw [← nuk_3 (m := 1) (by omega) (by omega)] at a2
  have a3 := nuk_le (v := pp) 3 (oa_ (nuk_ li 3 (oa_ (nuk_ ki 3 S) (nI 64))) (nI 32))
  have a4 := nuk_le (v := qq) 3 (oa_ (nuk_ pp 3 (oa_ (nuk_ li 3 (oa_ (nuk_ ki 3 S) (nI 64))) (nI 32))) (nI 47))
  show (nuk_ qq 3 _).2 + 1 ≤ _
  have b1 : (oa_ (nuk_ ki 3 S) (nI 64)).2 = (nuk_ ki 3 S).2 + 1 := rfl
  have b2 : (oa_ (nuk_ li 3 (oa_ (nuk_ ki 3 S) (nI 64))) (nI 32)).2 = (nuk_ li 3 (oa_ (nuk_ ki 3 S) (nI 64))).2 + 1 := rfl
  have b3 : (oa_ (nuk_ pp 3 (oa_ (nuk_ li 3 (oa_ (nuk_ ki 3 S) (nI 64))) (nI 32))) (nI 47)).2 = (nuk_ pp 3 (oa_ (nuk_ li 3 (oa_ (nuk_ ki 3 S) (nI 64))) (nI 32))).2 + 1 := rfl
  omega
/-- the alarms of the row have numbers that can be written -/
def wk_ (s : Sta) (rw : Nat → Int32) (n : Nat) : Prop := ∀ k, k < n → ∃ a ki li pp qq, a < 50 ∧ rw k = nI a ∧ ki < 10 ∧ sKi s a = nI ki ∧ li < 40 ∧ sLi s a = nI li ∧ pp ≤ 1000 ∧ sPp s a = nI pp ∧ qq ≤ 1000 ∧ sQq s a = nI qq
theorem ww_s {s : Sta} {rw : Nat → Int32} {S : (Nat → Int32) × Nat} {k a ki li pp qq : Nat} (h1 : a < 50) (h2 : rw k = nI a) (h3 : ki < 10) (h4 : sKi s a = nI ki) (h5 : li < 40) (h6 : sLi s a = nI li) (h7 : pp ≤ 1000) (h8 : sPp s a = nI pp) (h9 : qq ≤ 1000) (h10 : sQq s a = nI qq) : ww_ s rw S (k + 1) = al_w ki li pp qq (ww_ s rw S k) := by
  rw [ww_, h2, nI_clamp (by omega), h4, h6, h8, h10, nI_clamp (by omega), nI_clamp (by omega), nI_clamp (by omega), nI_clamp (by omega)]
theorem ww_le {s : Sta} {rw : Nat → Int32} {S : (Nat → Int32) × Nat} {n : Nat} (h : wk_ s rw n) : ∀ k, k ≤ n → (ww_ s rw S k).2 ≤ S.2 + 16 * k := by
  intro k
  induction k with
  | zero => intro _; exact Nat.le_refl _
  | succ k ih =>
    intro hk
    obtain ⟨a, ki, li, pp, qq, h1, h2, h3, h4, h5, h6, h7, h8, h9, h10⟩ := h k (by omega)
    rw [ww_s h1 h2 h3 h4 h5 h6 h7 h8 h9 h10]
    have := al_le (pp := pp) (qq := qq) h3 (show li < 100 by omega) (S := ww_ s rw S k)
    have := ih (by omega)
    omega
theorem ww_ag {s t : Sta} (hg : Ag s t) {rw rw2 : Nat → Int32} {S : (Nat → Int32) × Nat} {n : Nat} (h : ∀ k, k < n → rw2 k = rw k ∧ ∃ a, a < sAl s ∧ rw k = nI a) (hal : sAl s ≤ 50) : ∀ k, k ≤ n → ww_ t rw2 S k = ww_ s rw S k := by
  intro k
  induction k with
  | zero => intro _; rfl
  | succ k ih =>
    intro hk
    obtain ⟨e, a, ha, e2⟩ := h k (by omega)
    obtain ⟨d1, d2, d3, d4, d5, d6⟩ := hg.al a ha
    rw [ww_, ww_, ih (by omega), e, e2, nI_clamp (by omega), d1, d2, d4, d5]
section BOUT
variable {g : ax_Y} {M : ax_M} {Q : Option Value → ax_M → Prop} {h : Nat} {s : Sta} {dw nw : Nat} {gc pa : Int32} {sl : Nat → Option Nat}
theorem m_Lists_write {k0 n : Nat} {cm : Int32} {rw f0 f1 : Nat → Int32} {z : Int32} (h_this : oC M 73 3 [.ref 74, .int z]) (h_alarms : oC M 9 0 (al_f (sAl s))) (h_line : iA M 10 50 (sLi s)) (h_kind : iA M 11 50 (sKi s)) (h_p : iA M 13 50 (sPp s)) (h_q : iA M 14 50 (sQq s)) (h_ranks : oC M 69 6 (rk_f n cm)) (h_row : iA M 70 50 rw) (h_list : oC M 3 7 [.ref 4, .int (nI k0)]) (h_bytes : bA M 4 800 f1) (hn : n ≤ 50) (hw : wk_ s rw n) (hq : ∀ f1, by_ (ww_ s rw (f0, 0) n).2 f1 (ww_ s rw (f0, 0) n).1 → Q none (lw_m M f1 (ww_ s rw (f0, 0) n).2)) : ax_G g mt_Lists_write (h + 5) 0 0 0 [.ref 73, .ref 3, .ref 9, .ref 69, .float 0, .float 0] [] M Q := by
  refine s_aload_n 1 rfl rfl rfl ?_
  refine c_callV0 (h+4) 4 rfl rfl mv_Lists_15 (by omega) (Nat.le_of_ble_eq_true rfl) (Nat.le_of_ble_eq_true rfl) h_list rfl rfl ?_
  -- Lists_write 4: call Row_clear
  refine m_Row_clear h_list ?_
  dsimp only [ax_rs]
  refine s_iconst 0 5 rfl rfl (by decide) ?_
  refine s_ist4 7 rfl rfl rfl ?_
  -- Lists_write 7: end
  have loop : ∀ (d i : Nat) (f1 : Nat → Int32) (z5 : Value), z5.category = 1 → i + d = n → by_ (ww_ s rw (f0, 0) i).2 f1 (ww_ s rw (f0, 0) i).1 → ax_G g mt_Lists_write (h + 5) 0 0 7 [.ref 73, .ref 3, .ref 9, .ref 69, .int (nI i), z5] [] (lw_m M f1 (ww_ s rw (f0, 0) i).2) Q := by
    intro d
    induction d with
    | zero =>
      intro i f1 z5 _ hi hb
      obtain rfl : i = n := by omega
      refine s_iload 9 rfl rfl rfl ?_
      refine s_aload_n 10 rfl rfl rfl ?_
      refine s_getfield 6 2 13 rfl rfl fl_Lists_20 h_ranks rfl ?_
      refine s_icmp_ge 79 16 rfl rfl (by decide) (fun c1 => ?_) (fun c1 => ?_)
      -- Lists_write 16: branch 79 16
      · exact s_return rfl rfl (hq f1 hb)
      · exact absurd (nn_nle c1) (by omega)
    | succ d ih =>
      intro i f1 z5 _ hi hb
      have sz := ww_le (S := (f0, 0)) hw i (by omega)
      have sz : (ww_ s rw (f0, 0) i).2 ≤ 0 + 16 * i := sz
      obtain ⟨a, ki, li, pp, qq, h1, h2, h3, h4, h5, h6, h7, h8, h9, h10⟩ := hw i (by omega)
      have nx := fun f1 z5 hz => ih (i + 1) f1 z5 hz (by omega)
      rw [ww_s h1 h2 h3 h4 h5 h6 h7 h8 h9 h10] at nx
      unfold al_w at nx
      generalize ww_ s rw (f0, 0) i = S at sz nx hb ⊢
      have a1 := nuk_le (v := ki) 0 S
      rw [← nuk_3 (m := 0) (by omega) (by omega)] at a1
      have a2 := nuk_le (v := li) 1 (oa_ (nuk_ ki 3 S) (nI 64))
      rw [← nuk_3 (m := 1) (by omega) (by omega)] at a2
      have a3 := nuk_le (v := pp) 3 (oa_ (nuk_ li 3 (oa_ (nuk_ ki 3 S) (nI 64))) (nI 32))
      have b1 : (oa_ (nuk_ ki 3 S) (nI 64)).2 = (nuk_ ki 3 S).2 + 1 := rfl
      have b2 : (oa_ (nuk_ li 3 (oa_ (nuk_ ki 3 S) (nI 64))) (nI 32)).2 = (nuk_ li 3 (oa_ (nuk_ ki 3 S) (nI 64))).2 + 1 := rfl
      have b3 : (oa_ (nuk_ pp 3 (oa_ (nuk_ li 3 (oa_ (nuk_ ki 3 S) (nI 64))) (nI 32))) (nI 47)).2 = (nuk_ pp 3 (oa_ (nuk_ li 3 (oa_ (nuk_ ki 3 S) (nI 64))) (nI 32))).2 + 1 := rfl
      refine s_iload 9 rfl rfl rfl ?_
      refine s_aload_n 10 rfl rfl rfl ?_
      refine s_getfield 6 2 13 rfl rfl fl_Lists_20 h_ranks rfl ?_
      refine s_icmp_ge 79 16 rfl rfl (by decide) (fun c2 => ?_) (fun c2 => ?_)
      -- Lists_write 16: branch 79 16
      · exact absurd (nn_le c2) (by omega)
      · refine s_aload_n 17 rfl rfl rfl ?_
        refine s_getfield 6 0 20 rfl rfl fl_Lists_26 h_ranks rfl ?_
        refine s_iload 22 rfl rfl rfl ?_
        refine s_iaload (i) 23 rfl rfl h_row rfl (by omega) (by decide) ?_
        -- Lists_write 23: end
        rw [h2]
        refine s_ist5 25 rfl rfl rfl ?_
        refine s_aload_n 26 rfl rfl rfl ?_
        refine s_aload_n 27 rfl rfl rfl ?_
        refine s_getfield 0 1 30 rfl rfl fl_Lists_29 h_alarms rfl ?_
        refine s_iload 32 rfl rfl rfl ?_
        refine s_iaload (a) 33 rfl rfl h_kind rfl (by omega) (by decide) ?_
        -- Lists_write 33: end
        rw [h4]
        refine s_iconst 0 34 rfl rfl (by decide) ?_
        refine c_callS3 (h+4) 37 rfl rfl mv_Lists_34 (by omega) (Nat.le_of_ble_eq_true rfl) (Nat.le_of_ble_eq_true rfl) ?_
        -- Lists_write 37: call Lists_writeNumber
        refine m_Lists_writeNumber (h := h) (fd := 0) (S := S) (by omega) (by omega) hb (by omega) (fun f1 hb => ?_)
        rw [show zs_ 0 = 64 from rfl] at hb ⊢
        dsimp only [ax_rs]
        refine s_aload_n 38 rfl rfl rfl ?_
        refine s_aload_n 39 rfl rfl rfl ?_
        refine s_getfield 0 0 42 rfl rfl fl_Lists_38 h_alarms rfl ?_
        refine s_iload 44 rfl rfl rfl ?_
        refine s_iaload (a) 45 rfl rfl h_line rfl (by omega) (by decide) ?_
        -- Lists_write 45: end
        rw [h6]
        refine s_iconst 1 46 rfl rfl (by decide) ?_
        refine c_callS3 (h+4) 49 rfl rfl mv_Lists_34 (by omega) (Nat.le_of_ble_eq_true rfl) (Nat.le_of_ble_eq_true rfl) ?_
        -- Lists_write 49: call Lists_writeNumber
        refine m_Lists_writeNumber (h := h) (fd := 1) (by omega) (by omega) hb (by omega) (fun f1 hb => ?_)
        rw [show zs_ 1 = 32 from rfl] at hb ⊢
        dsimp only [ax_rs]
        refine s_aload_n 50 rfl rfl rfl ?_
        refine s_aload_n 51 rfl rfl rfl ?_
        refine s_getfield 0 3 54 rfl rfl fl_Lists_41 h_alarms rfl ?_
        refine s_iload 56 rfl rfl rfl ?_
        refine s_iaload (a) 57 rfl rfl h_p rfl (by omega) (by decide) ?_
        -- Lists_write 57: end
        rw [h8]
        refine s_iconst 2 58 rfl rfl (by decide) ?_
        refine c_callS3 (h+4) 61 rfl rfl mv_Lists_34 (by omega) (Nat.le_of_ble_eq_true rfl) (Nat.le_of_ble_eq_true rfl) ?_
        -- Lists_write 61: call Lists_writeNumber
        refine m_Lists_writeNumber (h := h) (fd := 2) (by omega) (by omega) hb (by omega) (fun f1 hb => ?_)
        rw [show zs_ 2 = 47 from rfl] at hb ⊢
        dsimp only [ax_rs]
        refine s_aload_n 62 rfl rfl rfl ?_
        refine s_aload_n 63 rfl rfl rfl ?_
        refine s_getfield 0 4 66 rfl rfl fl_Lists_44 h_alarms rfl ?_
        refine s_iload 68 rfl rfl rfl ?_
        refine s_iaload (a) 69 rfl rfl h_q rfl (by omega) (by decide) ?_
        -- Lists_write 69: end
        rw [h10]
        refine s_iconst 3 70 rfl rfl (by decide) ?_
        refine c_callS3 (h+4) 73 rfl rfl mv_Lists_34 (by omega) (Nat.le_of_ble_eq_true rfl) (Nat.le_of_ble_eq_true rfl) ?_
        -- Lists_write 73: call Lists_writeNumber
        refine m_Lists_writeNumber (h := h) (fd := 3) (by omega) (by omega) hb (by omega) (fun f1 hb => ?_)
        rw [show zs_ 3 = 59 from rfl] at hb ⊢
        dsimp only [ax_rs]
        refine s_inc4 _ 76 rfl rfl rfl rfl ?_
        refine s_goto 7 rfl (by decide) ?_
        -- Lists_write 7: end
        rw [inc1]
        exact nx f1 _ rfl hb
  have h0 := loop n 0 f1 (.float 0) rfl (by omega) (fun j hj => absurd hj (Nat.not_lt_zero j))
  rw [ww_] at h0
  unfold lw_m bP at h0
  rw [ax_id h_bytes] at h0
  exact h0
theorem cc_out {k0 k1 : Nat} {cm : Int32} {f f0 f1 : Nat → Int32} {z : Int32} (hK : KC M s dw nw gc pa sl) (h_ranks : oC M 69 6 (rk_f k0 cm)) (h_row : iA M 70 50 f) (h_lists : oC M 73 3 [.ref 74, .int z]) (h_list : oC M 3 7 [.ref 4, .int (nI k1)]) (h_bytes : bA M 4 800 f1) (hw : wk_ s (od_ s false (be_ s 0) f (sAl s)).1 (od_ s false (be_ s 0) f (sAl s)).2) (hq : ∀ f1, by_ (ww_ s (od_ s false (be_ s 0) f (sAl s)).1 (f0, 0) (od_ s false (be_ s 0) f (sAl s)).2).2 f1 (ww_ s (od_ s false (be_ s 0) f (sAl s)).1 (f0, 0) (od_ s false (be_ s 0) f (sAl s)).2).1 → Q (some (.int (nI (ww_ s (od_ s false (be_ s 0) f (sAl s)).1 (f0, 0) (od_ s false (be_ s 0) f (sAl s)).2).2))) (lw_m (rk_m M (od_ s false (be_ s 0) f (sAl s)).1 (od_ s false (be_ s 0) f (sAl s)).2 cm) f1 (ww_ s (od_ s false (be_ s 0) f (sAl s)).1 (f0, 0) (od_ s false (be_ s 0) f (sAl s)).2).2)) : ax_G g mt_Top_out (h + 6) 0 0 0 [.ref 0] [] M Q := by
  obtain ⟨b1, b2, b3, b4, b5⟩ := hK.bd
  refine s_aload_n 1 rfl rfl rfl ?_
  refine s_getfield 11 6 4 rfl rfl fl_Top_52 hK.top rfl ?_
  refine s_aload_n 5 rfl rfl rfl ?_
  refine s_getfield 11 3 8 rfl rfl fl_Top_31 hK.top rfl ?_
  refine s_aload_n 9 rfl rfl rfl ?_
  refine s_iconst 0 10 rfl rfl (by decide) ?_
  refine c_callV1 (h+5) 13 rfl rfl mv_Top_208 (by omega) (Nat.le_of_ble_eq_true rfl) (Nat.le_of_ble_eq_true rfl) hK.top rfl rfl ?_
  -- Top_out 13: call Top_setNow
  refine m_Top_setNow (h := h + 1) (w := 0) hK (by omega) ?_
  dsimp only [ax_rs]
  refine s_iconst 0 14 rfl rfl (by decide) ?_
  refine c_callV3 (h+5) 17 rfl rfl mv_Top_281 (by omega) (Nat.le_of_ble_eq_true rfl) (Nat.le_of_ble_eq_true rfl) h_ranks rfl rfl ?_
  -- Top_out 17: call Ranks_order
  refine m_Ranks_order (h := h + 3) (o := false) (p := be_ s 0) h_ranks h_row hK.alarms hK.line hK.kind hK.p hK.q b1 (fun a ha => by rw [lset_b _ _ (by omega) a (by omega), decide_eq_true ha, Bool.true_and]) ?_
  dsimp only [ax_rs]
  have ol := od_le s false (be_ s 0) f (sAl s)
  generalize (od_ s false (be_ s 0) f (sAl s)).1 = rw at hq hw ⊢
  generalize (od_ s false (be_ s 0) f (sAl s)).2 = n at hq hw ol ⊢
  refine s_aload_n 18 rfl rfl rfl ?_
  refine s_getfield 11 7 21 rfl rfl fl_Top_59 hK.top rfl ?_
  refine s_aload_n 22 rfl rfl rfl ?_
  refine s_getfield 11 1 25 rfl rfl fl_Top_18 hK.top rfl ?_
  refine s_aload_n 26 rfl rfl rfl ?_
  refine s_getfield 11 3 29 rfl rfl fl_Top_31 hK.top rfl ?_
  refine s_aload_n 30 rfl rfl rfl ?_
  refine s_getfield 11 6 33 rfl rfl fl_Top_52 hK.top rfl ?_
  refine c_callV3 (h+5) 36 rfl rfl mv_Top_314 (by omega) (Nat.le_of_ble_eq_true rfl) (Nat.le_of_ble_eq_true rfl) h_lists rfl rfl ?_
  -- Top_out 36: call Lists_write
  refine m_Lists_write (h := h) (f0 := f0) (M := rk_m M rw n cm) h_lists hK.alarms hK.line hK.kind hK.p hK.q rfl rfl h_list h_bytes (by omega) hw (fun f1 hb => ?_)
  dsimp only [ax_rs]
  refine s_aload_n 37 rfl rfl rfl ?_
  refine s_getfield 11 1 40 rfl rfl fl_Top_18 hK.top rfl ?_
  refine c_callV0 (h+5) 43 rfl rfl mv_Top_98 (by omega) (Nat.le_of_ble_eq_true rfl) (Nat.le_of_ble_eq_true rfl) rfl rfl rfl ?_
  -- Top_out 43: call Row_size
  refine m_Row_size (a := 3) (b := 4) (n := (ww_ s rw (f0, 0) n).2) rfl ?_
  dsimp only [ax_rs]
  -- Top_out 43: ireturn
  exact s_ireturn rfl .int rfl rfl (hq f1 hb)
end BOUT
section MOUT
variable {g : ax_Y} {M : ax_M} {Q : Option Value → ax_M → Prop} {h : Nat} {s : Sta} {n bl ln dr al ru pv si pa cm os gm tk pl bh : Int32} {va : Int64} {iw od : Int32}
abbrev ou_m (M : ax_M) (n bl ln dr al ru pv si pa cm gm tk pl bh : Int32) (va : Int64) (iw od : Int32) (S : (Nat → Int32) × Nat) : ax_M := md_m (iP M 182 800 S.1) n bl ln dr al ru pv si pa cm (nI S.2) gm tk pl bh va iw od
theorem m_Mod_say {x : Int32} {S : (Nat → Int32) × Nat} (hn : S.2 < 800) (hq : Q none (ou_m M n bl ln dr al ru pv si pa cm gm tk pl bh va iw od (oa_ S x))) : ax_G g mt_Mod_say h 0 0 0 [.ref 143, .int x] [] (ou_m M n bl ln dr al ru pv si pa cm gm tk pl bh va iw od S) Q := by
  refine s_aload_n 1 rfl rfl rfl ?_
  refine s_getfield 12 55 4 rfl rfl fl_Mod_126 rfl rfl ?_
  refine s_aload_n 5 rfl rfl rfl ?_
  refine s_getfield 12 56 8 rfl rfl fl_Mod_347 rfl rfl ?_
  refine s_iload_n 9 rfl rfl rfl ?_
  refine s_iastore (S.2) 10 rfl rfl rfl rfl (by omega) (by decide) ?_
  refine s_aload_n 11 rfl rfl rfl ?_
  refine s_dup 12 rfl rfl rfl ?_
  refine s_getfield 12 56 15 rfl rfl fl_Mod_347 rfl rfl ?_
  refine s_iconst 1 16 rfl rfl (by decide) ?_
  refine s_iadd 17 rfl rfl ?_
  -- Mod_say 17: end
  rw [nI_1]
  refine s_putfield 12 56 (.int) 20 rfl rfl fp_Mod_347 rfl (Nat.le_of_ble_eq_true rfl) ⟨rfl, rfl⟩ (fun h => absurd h (by decide)) ?_
  -- Mod_say 20: return_
  unfold ou_m md_m oP iP at hq ⊢
  rw [ax_p4]
  exact s_return rfl rfl (hq)
theorem m_Mod_sayNumber {v : Nat} {S : (Nat → Int32) × Nat} (hv : v < 10000) (hn : S.2 + 4 ≤ 800) (hq : Q none (ou_m M n bl ln dr al ru pv si pa cm gm tk pl bh va iw od (nuk_ v 3 S))) : ax_G g mt_Mod_sayNumber (h + 1) 0 0 0 [.ref 143, .int (nI v), .float 0] [] (ou_m M n bl ln dr al ru pv si pa cm gm tk pl bh va iw od S) Q := by
  have second : ∀ (k : Nat) (S : (Nat → Int32) × Nat), k ≤ 3 → (k = 0 ∨ 10 ^ k ≤ v) → S.2 + k + 1 ≤ 800 → Q none (ou_m M n bl ln dr al ru pv si pa cm gm tk pl bh va iw od (nuk_ v k S)) → ax_G g mt_Mod_sayNumber (h + 1) 0 0 18 [.ref 143, .int (nI v), .int (nI (10 ^ k))] [] (ou_m M n bl ln dr al ru pv si pa cm gm tk pl bh va iw od S) Q := by
    intro k
    have emit : ∀ (k : Nat) (S : (Nat → Int32) × Nat), k ≤ 3 → S.2 + 1 ≤ 800 → ax_G g mt_Mod_sayNumber (h + 1) 0 0 35 [.ref 143, .int (nI v), .int (nI (10 ^ k))] [] (ou_m M n bl ln dr al ru pv si pa cm gm tk pl bh va iw od (oa_ S (nI (48 + v / 10 ^ k % 10)))) Q → ax_G g mt_Mod_sayNumber (h + 1) 0 0 18 [.ref 143, .int (nI v), .int (nI (10 ^ k))] [] (ou_m M n bl ln dr al ru pv si pa cm gm tk pl bh va iw od S) Q := by
      intro k S hk hn ct
      obtain ⟨p1, p2⟩ := p10 hk
      have r10 : v / 10 ^ k % 10 < 10 := Nat.mod_lt _ (by decide)
      have d31 : v / 10 ^ k ≤ v := Nat.div_le_self _ _
      refine s_iload_n 19 rfl rfl rfl ?_
      refine s_if_le 43 22 rfl rfl (by decide) (fun c1 => ?_) (fun c1 => ?_)
      -- Mod_sayNumber 22: branch 43 22
      · exact absurd c1 (nI_nle (by omega) (by omega))
      · refine s_aload_n 23 rfl rfl rfl ?_
        refine s_bipush 48 25 rfl rfl (by decide) ?_
        refine s_iload_n 26 rfl rfl rfl ?_
        refine s_iload_n 27 rfl rfl rfl ?_
        -- Mod_sayNumber 27: end
        refine s_idiv 28 rfl rfl (fun q => absurd (nn_eq (b := 0) q) (by omega)) ?_
        rw [pk_div (by omega) (by omega) (by omega)]
        refine s_bipush 10 30 rfl rfl (by decide) ?_
        refine s_irem 31 rfl rfl (by decide) ?_
        rw [show nI (v / 10 ^ k) - nI (v / 10 ^ k) / 10 * 10 = nI (v / 10 ^ k % 10) from pk_rem (d := 10) (by omega) (by omega) (by omega)]
        refine s_iadd 32 rfl rfl ?_
        rw [show (48 : Int32) + nI (v / 10 ^ k % 10) = nI (48 + v / 10 ^ k % 10) from nI_add 48 _]
        refine c_callV1 h 35 rfl rfl mv_Mod_350 (by omega) (Nat.le_of_ble_eq_true rfl) (Nat.le_of_ble_eq_true rfl) rfl rfl rfl ?_
        -- Mod_sayNumber 35: call Mod_say
        refine m_Mod_say (by omega) ?_
        dsimp only [ax_rs]
        exact ct
    induction k with
    | zero =>
      intro S _ _ hn hq
      refine emit 0 S (by omega) (by omega) ?_
      refine s_iload_n 36 rfl rfl rfl ?_
      refine s_bipush 10 38 rfl rfl (by decide) ?_
      refine s_idiv 39 rfl rfl (by decide) ?_
      refine s_ist2 40 rfl rfl rfl ?_
      refine s_goto 18 rfl (by decide) ?_
      -- Mod_sayNumber 18: end
      rw [show nI (10 ^ 0) / 10 = 0 from by decide]
      refine s_iload_n 19 rfl rfl rfl ?_
      refine s_if_le 43 22 rfl rfl (by decide) (fun c2 => ?_) (fun c2 => ?_)
      -- Mod_sayNumber 22: branch 43 22
      · exact s_return rfl rfl (hq)
      · exact absurd (by decide) c2
    | succ k ih =>
      intro S hk hv2 hn hq
      obtain ⟨p1, p2⟩ := p10 (k := k + 1) hk
      have e10 : 10 ^ (k + 1) = 10 ^ k * 10 := Nat.pow_succ 10 k
      have hv3 : 10 ^ (k + 1) ≤ v := hv2.elim (fun q => by omega) id
      rw [nuk_, if_pos hv3] at hq
      refine emit (k + 1) S hk (by omega) ?_
      refine s_iload_n 36 rfl rfl rfl ?_
      refine s_bipush 10 38 rfl rfl (by decide) ?_
      refine s_idiv 39 rfl rfl (by decide) ?_
      -- Mod_sayNumber 39: end
      rw [show nI (10 ^ (k + 1)) / 10 = nI (10 ^ k) by rw [show (10 : Int32) = nI 10 from rfl, pk_div (by omega) (by omega) (by omega), e10, Nat.mul_div_cancel _ (by decide)]]
      refine s_ist2 40 rfl rfl rfl ?_
      refine s_goto 18 rfl (by decide) ?_
      -- Mod_sayNumber 18: end
      exact ih _ (by omega) (Or.inr (by omega)) (by show S.2 + 1 + k + 1 ≤ 800; omega) hq
  have first : ∀ (d k : Nat), k + d = 3 → (k = 0 ∨ 10 ^ k ≤ v) → ax_G g mt_Mod_sayNumber (h + 1) 0 0 2 [.ref 143, .int (nI v), .int (nI (10 ^ k))] [] (ou_m M n bl ln dr al ru pv si pa cm gm tk pl bh va iw od S) Q := by
    intro d
    induction d with
    | zero =>
      intro k hk hv2
      obtain rfl : k = 3 := by omega
      have q3 := second 3 S (by omega) hv2 (by omega) hq
      refine s_iload_n 3 rfl rfl rfl ?_
      refine s_iload_n 4 rfl rfl rfl ?_
      -- Mod_sayNumber 4: end
      refine s_idiv 5 rfl rfl (by decide) ?_
      rw [show nI v / nI (10 ^ 3) = nI (v / 1000) from pk_div (by omega) (by omega) (by omega)]
      refine s_bipush 9 7 rfl rfl (by decide) ?_
      refine s_icmp_le 18 10 rfl rfl (by decide) (fun c3 => ?_) (fun c3 => ?_)
      -- Mod_sayNumber 10: branch 18 10
      · exact q3
      · exact absurd (nn_nle (b := 9) c3) (by omega)
    | succ d ih =>
      intro k hk hv2
      obtain ⟨p1, p2⟩ := p10 (k := k) (by omega)
      have e10 : 10 ^ (k + 1) = 10 ^ k * 10 := Nat.pow_succ 10 k
      have d31 : v / 10 ^ k ≤ v := Nat.div_le_self _ _
      refine s_iload_n 3 rfl rfl rfl ?_
      refine s_iload_n 4 rfl rfl rfl ?_
      -- Mod_sayNumber 4: end
      refine s_idiv 5 rfl rfl (fun q => absurd (nn_eq (b := 0) q) (by omega)) ?_
      rw [pk_div (by omega) (by omega) (by omega)]
      refine s_bipush 9 7 rfl rfl (by decide) ?_
      refine s_icmp_le 18 10 rfl rfl (by decide) (fun c4 => ?_) (fun c4 => ?_)
      -- Mod_sayNumber 10: branch 18 10
      · have c4 := nn_le (b := 9) c4
        have lt : v < 10 ^ (k + 1) := by
          rw [e10]
          have := Nat.div_lt_iff_lt_mul (x := v) (y := 10) (k := 10 ^ k) (by omega)
          have := this.mp (by omega)
          omega
        rw [nuk_3 (m := k) (by omega) lt] at hq
        exact second k S (by omega) hv2 (by omega) hq
      · have c4 := nn_nle (b := 9) c4
        have ge : 10 ^ (k + 1) ≤ v := by
          rw [e10]
          have := (Nat.le_div_iff_mul_le (x := 10) (y := v) (k := 10 ^ k) (by omega)).mp (by omega)
          omega
        refine s_iload_n 11 rfl rfl rfl ?_
        refine s_bipush 10 13 rfl rfl (by decide) ?_
        refine s_imul 14 rfl rfl ?_
        -- Mod_sayNumber 14: end
        rw [show nI (10 ^ k) * 10 = nI (10 ^ (k + 1)) by rw [e10]; exact pk_mul _ 10]
        refine s_ist2 15 rfl rfl rfl ?_
        refine s_goto 2 rfl (by decide) ?_
        -- Mod_sayNumber 2: end
        exact ih (k + 1) (by omega) (Or.inr ge)
  refine s_iconst 1 1 rfl rfl (by decide) ?_
  refine s_ist2 2 rfl rfl rfl ?_
  -- Mod_sayNumber 2: end
  exact first 3 0 (by omega) (Or.inl rfl)
theorem d_out {f f0 : Nat → Int32} (hK : KM M s n dr pa cm os gm tk pl bh va iw od) (h_order : iA M 179 50 f) (h_out : iA M 182 800 f0) (hw : wk_ s (od_ s false (be_ s 0) f (sAl s)).1 (od_ s false (be_ s 0) f (sAl s)).2) (hq : Q (some (.int (nI (ww_ s (od_ s false (be_ s 0) f (sAl s)).1 (f0, 0) (od_ s false (be_ s 0) f (sAl s)).2).2))) (ou_m (ar_m M s n dr pa cm os gm tk pl bh va iw (od_ s false (be_ s 0) f (sAl s)).1 (od_ s false (be_ s 0) f (sAl s)).2) n (nI (sBl s)) (nI (sLn s)) dr (nI (sAl s)) (nI (sRu s)) (sPv s) (nI (sSi s)) pa cm gm tk pl bh va iw (nI (od_ s false (be_ s 0) f (sAl s)).2) (ww_ s (od_ s false (be_ s 0) f (sAl s)).1 (f0, 0) (od_ s false (be_ s 0) f (sAl s)).2))) : ax_G g mt_Mod_out (h + 4) 0 0 0 [.ref 143, .float 0, .float 0] [] M Q := by
  obtain ⟨b1, b2, b3, b4, b5⟩ := hK.bd
  refine s_aload_n 1 rfl rfl rfl ?_
  refine s_iconst 0 2 rfl rfl (by decide) ?_
  refine c_callV1 (h+3) 5 rfl rfl mv_Mod_332 (by omega) (Nat.le_of_ble_eq_true rfl) (Nat.le_of_ble_eq_true rfl) hK.this rfl rfl ?_
  -- Mod_out 5: call Mod_arrange
  refine m_Mod_arrange (h := h) (o := false) hK h_order ?_
  dsimp only [ax_rs]
  rw [show (if (false : Bool) = true then 3 else 0) = 0 from rfl]
  have ol := od_le s false (be_ s 0) f (sAl s)
  generalize (od_ s false (be_ s 0) f (sAl s)).1 = rw at hq hw ⊢
  generalize (od_ s false (be_ s 0) f (sAl s)).2 = c at hq hw ol ⊢
  refine s_aload_n 6 rfl rfl rfl ?_
  refine s_iconst 0 7 rfl rfl (by decide) ?_
  refine s_putfield 12 56 (.int) 10 rfl rfl fp_Mod_347 rfl (Nat.le_of_ble_eq_true rfl) ⟨rfl, rfl⟩ (fun h => absurd h (by decide)) ?_
  refine s_iconst 0 11 rfl rfl (by decide) ?_
  refine s_ist1 12 rfl rfl rfl ?_
  -- Mod_out 12: end
  have loop : ∀ (d i : Nat) (z2 : Value), z2.category = 1 → i + d = c → ax_G g mt_Mod_out (h + 4) 0 0 12 [.ref 143, .int (nI i), z2] [] (ou_m (ar_m M s n dr pa cm os gm tk pl bh va iw rw c) n (nI (sBl s)) (nI (sLn s)) dr (nI (sAl s)) (nI (sRu s)) (sPv s) (nI (sSi s)) pa cm gm tk pl bh va iw (nI c) (ww_ s rw (f0, 0) i)) Q := by
    intro d
    induction d with
    | zero =>
      intro i z2 _ hi
      obtain rfl : i = c := by omega
      refine s_iload_n 13 rfl rfl rfl ?_
      refine s_aload_n 14 rfl rfl rfl ?_
      refine s_getfield 12 51 17 rfl rfl fl_Mod_325 rfl rfl ?_
      refine s_icmp_ge 97 20 rfl rfl (by decide) (fun c1 => ?_) (fun c1 => ?_)
      -- Mod_out 20: branch 97 20
      · refine s_aload_n 98 rfl rfl rfl ?_
        refine s_getfield 12 56 101 rfl rfl fl_Mod_347 rfl rfl ?_
        -- Mod_out 101: ireturn
        exact s_ireturn rfl .int rfl rfl (hq)
      · exact absurd (nn_nle c1) (by omega)
    | succ d ih =>
      intro i z2 _ hi
      have sz := ww_le (S := (f0, 0)) hw i (by omega)
      have sz : (ww_ s rw (f0, 0) i).2 ≤ 0 + 16 * i := sz
      obtain ⟨a, ki, li, pp, qq, h1, h2, h3, h4, h5, h6, h7, h8, h9, h10⟩ := hw i (by omega)
      have nx := fun z2 hz => ih (i + 1) z2 hz (by omega)
      rw [ww_s h1 h2 h3 h4 h5 h6 h7 h8 h9 h10] at nx
      unfold al_w at nx
      generalize ww_ s rw (f0, 0) i = S at sz nx ⊢
      have a1 := nuk_le (v := ki) 0 S
      rw [← nuk_3 (m := 0) (by omega) (by omega)] at a1
      have a2 := nuk_le (v := li) 1 (oa_ (nuk_ ki 3 S) (nI 64))
      rw [← nuk_3 (m := 1) (by omega) (by omega)] at a2
      have a3 := nuk_le (v := pp) 3 (oa_ (nuk_ li 3 (oa_ (nuk_ ki 3 S) (nI 64))) (nI 32))
      have a4 := nuk_le (v := qq) 3 (oa_ (nuk_ pp 3 (oa_ (nuk_ li 3 (oa_ (nuk_ ki 3 S) (nI 64))) (nI 32))) (nI 47))
      have b1 : (oa_ (nuk_ ki 3 S) (nI 64)).2 = (nuk_ ki 3 S).2 + 1 := rfl
      have b2 : (oa_ (nuk_ li 3 (oa_ (nuk_ ki 3 S) (nI 64))) (nI 32)).2 = (nuk_ li 3 (oa_ (nuk_ ki 3 S) (nI 64))).2 + 1 := rfl
      have b3 : (oa_ (nuk_ pp 3 (oa_ (nuk_ li 3 (oa_ (nuk_ ki 3 S) (nI 64))) (nI 32))) (nI 47)).2 = (nuk_ pp 3 (oa_ (nuk_ li 3 (oa_ (nuk_ ki 3 S) (nI 64))) (nI 32))).2 + 1 := rfl
      refine s_iload_n 13 rfl rfl rfl ?_
      refine s_aload_n 14 rfl rfl rfl ?_
      refine s_getfield 12 51 17 rfl rfl fl_Mod_325 rfl rfl ?_
      refine s_icmp_ge 97 20 rfl rfl (by decide) (fun c2 => ?_) (fun c2 => ?_)
      -- Mod_out 20: branch 97 20
      · exact absurd (nn_le c2) (by omega)
      · refine s_aload_n 21 rfl rfl rfl ?_
        refine s_getfield 12 50 24 rfl rfl fl_Mod_117 rfl rfl ?_
        refine s_iload_n 25 rfl rfl rfl ?_
        refine s_iaload (i) 26 rfl rfl rfl rfl (by omega) (by decide) ?_
        -- Mod_out 26: end
        rw [h2]
        refine s_ist2 27 rfl rfl rfl ?_
        refine s_aload_n 28 rfl rfl rfl ?_
        refine s_aload_n 29 rfl rfl rfl ?_
        refine s_getfield 12 17 32 rfl rfl fl_Mod_46 rfl rfl ?_
        refine s_iload_n 33 rfl rfl rfl ?_
        refine s_iaload (a) 34 rfl rfl hK.kindOf rfl (by omega) (by decide) ?_
        -- Mod_out 34: end
        rw [h4]
        refine c_callV1 (h+3) 37 rfl rfl mv_Mod_353 (by omega) (Nat.le_of_ble_eq_true rfl) (Nat.le_of_ble_eq_true rfl) rfl rfl rfl ?_
        -- Mod_out 37: call Mod_sayNumber
        refine m_Mod_sayNumber (h := h + 2) (by omega) (by omega) ?_
        dsimp only [ax_rs]
        refine s_aload_n 38 rfl rfl rfl ?_
        refine s_bipush 64 40 rfl rfl (by decide) ?_
        refine c_callV1 (h+3) 43 rfl rfl mv_Mod_350 (by omega) (Nat.le_of_ble_eq_true rfl) (Nat.le_of_ble_eq_true rfl) rfl rfl rfl ?_
        -- Mod_out 43: call Mod_say
        refine m_Mod_say (by omega) ?_
        dsimp only [ax_rs]
        rw [show (64 : Int32) = nI 64 from rfl]
        refine s_aload_n 44 rfl rfl rfl ?_
        refine s_aload_n 45 rfl rfl rfl ?_
        refine s_getfield 12 16 48 rfl rfl fl_Mod_43 rfl rfl ?_
        refine s_iload_n 49 rfl rfl rfl ?_
        refine s_iaload (a) 50 rfl rfl hK.lineOf rfl (by omega) (by decide) ?_
        -- Mod_out 50: end
        rw [h6]
        refine c_callV1 (h+3) 53 rfl rfl mv_Mod_353 (by omega) (Nat.le_of_ble_eq_true rfl) (Nat.le_of_ble_eq_true rfl) rfl rfl rfl ?_
        -- Mod_out 53: call Mod_sayNumber
        refine m_Mod_sayNumber (h := h + 2) (by omega) (by omega) ?_
        dsimp only [ax_rs]
        refine s_aload_n 54 rfl rfl rfl ?_
        refine s_bipush 32 56 rfl rfl (by decide) ?_
        refine c_callV1 (h+3) 59 rfl rfl mv_Mod_350 (by omega) (Nat.le_of_ble_eq_true rfl) (Nat.le_of_ble_eq_true rfl) rfl rfl rfl ?_
        -- Mod_out 59: call Mod_say
        refine m_Mod_say (by omega) ?_
        dsimp only [ax_rs]
        rw [show (32 : Int32) = nI 32 from rfl]
        refine s_aload_n 60 rfl rfl rfl ?_
        refine s_aload_n 61 rfl rfl rfl ?_
        refine s_getfield 12 19 64 rfl rfl fl_Mod_52 rfl rfl ?_
        refine s_iload_n 65 rfl rfl rfl ?_
        refine s_iaload (a) 66 rfl rfl hK.above rfl (by omega) (by decide) ?_
        -- Mod_out 66: end
        rw [h8]
        refine c_callV1 (h+3) 69 rfl rfl mv_Mod_353 (by omega) (Nat.le_of_ble_eq_true rfl) (Nat.le_of_ble_eq_true rfl) rfl rfl rfl ?_
        -- Mod_out 69: call Mod_sayNumber
        refine m_Mod_sayNumber (h := h + 2) (by omega) (by omega) ?_
        dsimp only [ax_rs]
        refine s_aload_n 70 rfl rfl rfl ?_
        refine s_bipush 47 72 rfl rfl (by decide) ?_
        refine c_callV1 (h+3) 75 rfl rfl mv_Mod_350 (by omega) (Nat.le_of_ble_eq_true rfl) (Nat.le_of_ble_eq_true rfl) rfl rfl rfl ?_
        -- Mod_out 75: call Mod_say
        refine m_Mod_say (by omega) ?_
        dsimp only [ax_rs]
        rw [show (47 : Int32) = nI 47 from rfl]
        refine s_aload_n 76 rfl rfl rfl ?_
        refine s_aload_n 77 rfl rfl rfl ?_
        refine s_getfield 12 20 80 rfl rfl fl_Mod_55 rfl rfl ?_
        refine s_iload_n 81 rfl rfl rfl ?_
        refine s_iaload (a) 82 rfl rfl hK.below rfl (by omega) (by decide) ?_
        -- Mod_out 82: end
        rw [h10]
        refine c_callV1 (h+3) 85 rfl rfl mv_Mod_353 (by omega) (Nat.le_of_ble_eq_true rfl) (Nat.le_of_ble_eq_true rfl) rfl rfl rfl ?_
        -- Mod_out 85: call Mod_sayNumber
        refine m_Mod_sayNumber (h := h + 2) (by omega) (by omega) ?_
        dsimp only [ax_rs]
        refine s_aload_n 86 rfl rfl rfl ?_
        refine s_bipush 59 88 rfl rfl (by decide) ?_
        refine c_callV1 (h+3) 91 rfl rfl mv_Mod_350 (by omega) (Nat.le_of_ble_eq_true rfl) (Nat.le_of_ble_eq_true rfl) rfl rfl rfl ?_
        -- Mod_out 91: call Mod_say
        refine m_Mod_say (by omega) ?_
        dsimp only [ax_rs]
        rw [show (59 : Int32) = nI 59 from rfl]
        refine s_inc1 _ 94 rfl rfl rfl rfl ?_
        refine s_goto 12 rfl (by decide) ?_
        -- Mod_out 12: end
        rw [inc1]
        exact nx _ rfl
  have h0 := loop c 0 (.float 0) rfl (by omega)
  rw [ww_] at h0
  unfold ou_m md_m oP iP at h0
  rw [ax_id (M := ar_m M s n dr pa cm os gm tk pl bh va iw rw c) (a := 182) h_out] at h0
  exact h0
theorem both_out : BI g (Rel g) mt_Top_out mt_Mod_out [] := by
  intro M hR
  have hR' := hR
  obtain ⟨s, t, dw, nw, gc, sl, n, pa, dr, cm, os, gm, tk, pl, bh, va, iw, od, hC, hM, hg, hT, hL, hA, hF, hS, hO, ⟨u1, u2, u3, u4, u5, u6, u7⟩, ⟨sz, rw0, cr, pf, c2, x1, x2, x3, x4, x5, x6, x7⟩, hX, hz⟩ := hR.get
  obtain ⟨b1, b2, b3, b4, b5⟩ := hC.bd
  obtain ⟨q1, q2, q3, q4, q5, q6, q7⟩ := hg.sc
  obtain ⟨ki, rfl⟩ := nI_su sz
  obtain ⟨fo, h179⟩ := (hX.2.2.2.2.2.2.2.2.2.2.2.2.2.2.2.2.2.2.2.1 : sI M 179 50)
  obtain ⟨zz, h73⟩ := (hX.2.2.2.2.2.2.2.2.2.2.1 : ∃ z : Int32, oC M 73 3 [.ref 74, .int z])
  have hA' := hA
  obtain ⟨li, ki2, wa, pp, qq, st, l2, k2, w2, p2, qq2, s2', ob, trr, pst, a1, a2, a3, a4, a5, a6, a7, a8, a9, a10, a11, a12, a13, a14, a15, a16, a17, a18, a19, a20, a21⟩ := hA'
  have f1 := iA_j hC.line a2
  have f2 := iA_j hC.kind a3
  have f3 := iA_j hC.p a5
  have f4 := iA_j hC.q a6
  have f5 := iA_j hC.state a7
  obtain ⟨e1, e2⟩ := od_ag hg (o := false) b1 (p := be_ s 0) (q := be_ t 0) (fun a ha => be_ag hg hC.told b4 0 ha) rw0 fo (sAl s) (Nat.le_refl _)
  have oi := od_in s false (be_ s 0) rw0 (sAl s)
  have hw : wk_ s (od_ s false (be_ s 0) rw0 (sAl s)).1 (od_ s false (be_ s 0) rw0 (sAl s)).2 := by
    intro k hk
    obtain ⟨a, ha, hp, e⟩ := oi k hk
    have st0 : st a = 0 := by
      unfold be_ at hp
      rw [f5] at hp
      simp at hp
      exact hp
    obtain ⟨-, -, -, v4, ⟨kk, hk1, hk2⟩, -, ⟨c, d, hc1, hc2, hc3, hc4, hc5⟩, -⟩ := a19 a ha
    obtain ⟨c', hc', el⟩ := v4 (by rw [st0]; decide)
    exact ⟨a, kk, c', c, d, by omega, e, hk1, by rw [f2]; exact hk2, by omega, by rw [f1]; exact el, by omega, by rw [f3]; exact hc4, by omega, by rw [f4]; exact hc5⟩
  have ag : ∀ k, k < (od_ s false (be_ s 0) rw0 (sAl s)).2 → (od_ t false (be_ t 0) fo (sAl s)).1 k = (od_ s false (be_ s 0) rw0 (sAl s)).1 k ∧ ∃ a, a < sAl s ∧ (od_ s false (be_ s 0) rw0 (sAl s)).1 k = nI a := fun k hk => ⟨e2 k hk, by
    obtain ⟨a, ha, -, e⟩ := oi k hk
    exact ⟨a, ha, e⟩⟩
  have ew := ww_ag hg (S := (u2, 0)) ag b1 _ (Nat.le_refl _)
  have hw2 : wk_ t (od_ t false (be_ t 0) fo (sAl t)).1 (od_ t false (be_ t 0) fo (sAl t)).2 := by
    rw [q1, e1]
    intro k hk
    obtain ⟨a, ha, -, e⟩ := oi k hk
    obtain ⟨a', v1, v2, v3, v4, y1, y2, y3, y4, y5, y6, y7, y8, y9, y10⟩ := hw k hk
    obtain rfl : a = a' := nn_eq (e.symm.trans y2)
    obtain ⟨d1, d2, d3, d4, d5, d6⟩ := hg.al a ha
    exact ⟨a, v1, v2, v3, v4, y1, (e2 k hk).trans y2, y3, d2.trans y4, y5, d1.trans y6, y7, d4.trans y8, y9, d5.trans y10⟩
  have bd := ww_le (S := (u2, 0)) hw _ (Nat.le_refl _)
  have bd : (ww_ s (od_ s false (be_ s 0) rw0 (sAl s)).1 (u2, 0) (od_ s false (be_ s 0) rw0 (sAl s)).2).2 ≤ 0 + 16 * (od_ s false (be_ s 0) rw0 (sAl s)).2 := bd
  have ol := od_le s false (be_ s 0) rw0 (sAl s)
  refine cc_out (h := 5) (f0 := u2) hC x1 x2 h73 u3 u4 hw (fun g1 hg1 => ?_)
  have hM2 : KM (lw_m (rk_m M (od_ s false (be_ s 0) rw0 (sAl s)).1 (od_ s false (be_ s 0) rw0 (sAl s)).2 (nI cm)) g1 (ww_ s (od_ s false (be_ s 0) rw0 (sAl s)).1 (u2, 0) (od_ s false (be_ s 0) rw0 (sAl s)).2).2) t (nI n) (nI dr) (nI pa) (nI cm) (nI os) gm tk pl bh va iw od := hM.mv hM.this (fun k hk => ax_ne (by omega) (ax_ne (by omega) (ax_ne (by omega) (ax_ne (by omega) rfl))))
  refine ⟨_, rfl, ⟨_, hM.this⟩, d_out (h := 7) (f0 := u2) hM2 h179 u5 hw2 ?_⟩
  rw [q1, e1, ew]
  refine ⟨rfl, ?_⟩
  have key : ∀ k, ¬ (k = 3 ∨ k = 4 ∨ k = 69 ∨ k = 70 ∨ k = 143 ∨ k = 179 ∨ k = 182) → (ou_m (ar_m (lw_m (rk_m M (od_ s false (be_ s 0) rw0 (sAl s)).1 (od_ s false (be_ s 0) rw0 (sAl s)).2 (nI cm)) g1 (ww_ s (od_ s false (be_ s 0) rw0 (sAl s)).1 (u2, 0) (od_ s false (be_ s 0) rw0 (sAl s)).2).2) t (nI n) (nI dr) (nI pa) (nI cm) (nI os) gm tk pl bh va iw (od_ t false (be_ t 0) fo (sAl s)).1 (od_ s false (be_ s 0) rw0 (sAl s)).2) (nI n) (nI (sBl t)) (nI (sLn t)) (nI dr) (nI (sAl s)) (nI (sRu t)) (sPv t) (nI (sSi t)) (nI pa) (nI cm) gm tk pl bh va iw (nI (od_ s false (be_ s 0) rw0 (sAl s)).2) (ww_ s (od_ s false (be_ s 0) rw0 (sAl s)).1 (u2, 0) (od_ s false (be_ s 0) rw0 (sAl s)).2)).2 k = M.2 k := fun k hk => ax_ne (by omega) (ax_ne (by omega) (ax_ne (by omega) (ax_ne (by omega) (ax_ne (by omega) (ax_ne (by omega) (ax_ne (by omega) (ax_ne (by omega) rfl)))))))
  refine Rel.mk2 hg hC.top (by rw [q1]; rfl) (hT.mv ?_) (hL.mv ?_) (hA.mv ?_) (hF.mv ?_) (hS.mv ?_) (hO.mv ?_) ⟨g1, _, rfl, rfl, rfl, by omega, hg1⟩ ⟨_, _, cr, pf, c2, rfl, rfl, x3, x4, x5, x6, x7⟩ (hX.set (fun k hk => ?_)) hz
  case refine_7 =>
    by_cases z : k = 179
    · subst z
      exact Or.inr ⟨_, rfl⟩
    · exact Or.inl (key k (by omega))
  all_goals exact fun k hk => key k (by omega)
end MOUT
