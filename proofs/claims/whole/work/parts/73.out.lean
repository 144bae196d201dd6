/-! numbers written -/
/-- a row and one more -/
def oa_ (S : (Nat → Int32) × Nat) (c : Int32) : (Nat → Int32) × Nat := (upd S.1 S.2 c, S.2 + 1)
/-- v's digits from that of 10 ^ k on, without noughts ahead -/
def nuk_ (v : Nat) : Nat → (Nat → Int32) × Nat → (Nat → Int32) × Nat
  | 0, S => oa_ S (nI (48 + v / 10 ^ 0 % 10))
  | k + 1, S => nuk_ v k (if 10 ^ (k + 1) ≤ v then oa_ S (nI (48 + v / 10 ^ (k + 1) % 10)) else S)
theorem nuk_up {v k : Nat} (h : v < 10 ^ (k + 1)) (S : (Nat → Int32) × Nat) : nuk_ v (k + 1) S = nuk_ v k S := by
  rw [nuk_, if_neg (by omega)]
theorem nuk_m {v m : Nat} (h : v < 10 ^ (m + 1)) (S : (Nat → Int32) × Nat) : ∀ d, nuk_ v (m + d) S = nuk_ v m S := by
  intro d
  induction d with
  | zero => rfl
  | succ d ih =>
    rw [show m + (d + 1) = (m + d) + 1 by omega, nuk_up, ih]
    exact Nat.lt_of_lt_of_le h (Nat.pow_le_pow_right (by omega) (by omega))
theorem nuk_le {v : Nat} : ∀ k S, (nuk_ v k S).2 ≤ S.2 + k + 1 := by
  intro k
  induction k with
  | zero => intro S; exact Nat.le_refl _
  | succ k ih =>
    intro S
    rw [nuk_]
    refine Nat.le_trans (ih _) ?_
    split
    · show S.2 + 1 + k + 1 ≤ _
      omega
    · omega
theorem nuk_3 {v m : Nat} (hm : m ≤ 3) (h : v < 10 ^ (m + 1)) (S : (Nat → Int32) × Nat) : nuk_ v 3 S = nuk_ v m S := by
  have := nuk_m h S (3 - m)
  rw [show m + (3 - m) = 3 by omega] at this
  exact this
theorem by_add {n c : Nat} {f1 f2 : Nat → Int32} (h : by_ n f1 f2) (hc : c < 256) : by_ (n + 1) (upd f1 n (nI c).toInt8.toInt32) (upd f2 n (nI c)) := by
  intro j hj
  unfold upd
  by_cases z : j = n
  · rw [if_pos z, if_pos z]
    refine ⟨?_, c, hc, rfl⟩
    rw [bp_b, pk_andN (by omega) 8 (by decide), Nat.mod_eq_of_lt (by omega)]
  · rw [if_neg z, if_neg z]
    exact h j (by omega)
def zs_ (k : Nat) : Nat := [64, 32, 47, 59].getD k 0
theorem zs_b : ∀ k, k < 4 → sb_ 9 k = nI (zs_ k) ∧ zs_ k < 256 ∧ k < ax_sln.getD 9 0 := by decide +kernel
theorem p10 {k : Nat} (hk : k ≤ 3) : 1 ≤ 10 ^ k ∧ 10 ^ k ≤ 1000 := ⟨Nat.pow_pos (by omega), Nat.le_trans (Nat.pow_le_pow_right (by omega) hk) (by decide)⟩
section OUT
variable {g : ax_Y} {M : ax_M} {Q : Option Value → ax_M → Prop} {h : Nat}
/-- the class's row of the list -/
abbrev lw_m (M : ax_M) (f : Nat → Int32) (n : Nat) : ax_M := oP (bP M 4 800 f) 3 7 [.ref 4, .int (nI n)]
theorem m_Lists_writeNumber {v fd : Nat} {f1 : Nat → Int32} {S : (Nat → Int32) × Nat} (hv : v < 10000) (hfd : fd < 4) (hb : by_ S.2 f1 S.1) (hn : S.2 + 5 ≤ 800) (hq : ∀ f1, by_ (oa_ (nuk_ v 3 S) (nI (zs_ fd))).2 f1 (oa_ (nuk_ v 3 S) (nI (zs_ fd))).1 → Q none (lw_m M f1 (oa_ (nuk_ v 3 S) (nI (zs_ fd))).2)) : ax_G g mt_Lists_writeNumber (h + 4) 0 0 0 [.ref 3, .int (nI v), .int (nI fd), .float 0] [] (lw_m M f1 S.2) Q := by
  have add : ∀ (f1 : Nat → Int32) (S : (Nat → Int32) × Nat) (c : Nat) (R : Option Value → ax_M → Prop), by_ S.2 f1 S.1 → c < 256 → S.2 + 1 ≤ 800 → (∀ f1, by_ (oa_ S (nI c)).2 f1 (oa_ S (nI c)).1 → R none (lw_m M f1 (oa_ S (nI c)).2)) → ax_G g mt_Row_add (h + 3) 0 0 0 [.ref 3, .int (nI c)] [] (lw_m M f1 S.2) R := by
    intro f1 S c R hb hc hn hR
    refine m_Row_add (M := lw_m M f1 S.2) rfl rfl (by omega) (by decide) ?_
    rw [if_pos (by omega)]
    have q := hR _ (by_add hb hc)
    unfold lw_m oP bP at q
    unfold rw_m lw_m oP bP
    rw [ax_p4]
    exact q
  have fin : ∀ (f1 : Nat → Int32) (S : (Nat → Int32) × Nat) (z3 : Value), z3.category = 1 → by_ S.2 f1 S.1 → S.2 + 1 ≤ 800 → (∀ f1, by_ (oa_ S (nI (zs_ fd))).2 f1 (oa_ S (nI (zs_ fd))).1 → Q none (lw_m M f1 (oa_ S (nI (zs_ fd))).2)) → ax_G g mt_Lists_writeNumber (h + 4) 0 0 39 [.ref 3, .int (nI v), .int (nI fd), z3] [] (lw_m M f1 S.2) Q := by
    intro f1 S z3 _ hb hn hq
    obtain ⟨e1, e2, e3⟩ := zs_b fd hfd
    refine s_aload_n 40 rfl rfl rfl ?_
    refine s_ldcS 9 42 rfl rfl rfl ?_
    refine s_iload_n 43 rfl rfl rfl ?_
    -- Lists_writeNumber 43: end
    refine c_text1 (h + 3) 46 rfl rfl mv_Lists_53 (by omega) (Nat.le_of_ble_eq_true rfl) (Nat.le_of_ble_eq_true rfl) (by decide) rfl ?_
    refine m_String_charAt (h := h) (by decide) e3 ?_
    dsimp only [ax_rs]
    rw [e1]
    refine c_callV1 (h+3) 49 rfl rfl mv_Lists_47 (by omega) (Nat.le_of_ble_eq_true rfl) (Nat.le_of_ble_eq_true rfl) rfl rfl rfl ?_
    -- Lists_writeNumber 49: call Row_add
    refine add f1 S (zs_ fd) _ hb e2 hn (fun f1 hb => ?_)
    dsimp only [ax_rs]
    exact s_return rfl rfl (hq f1 hb)
  have loop : ∀ (k : Nat) (f1 : Nat → Int32) (S : (Nat → Int32) × Nat), k ≤ 3 → by_ S.2 f1 S.1 → S.2 + k + 2 ≤ 800 → (∀ f1, by_ (oa_ (nuk_ v k S) (nI (zs_ fd))).2 f1 (oa_ (nuk_ v k S) (nI (zs_ fd))).1 → Q none (lw_m M f1 (oa_ (nuk_ v k S) (nI (zs_ fd))).2)) → ax_G g mt_Lists_writeNumber (h + 4) 0 0 4 [.ref 3, .int (nI v), .int (nI fd), .int (nI (10 ^ k))] [] (lw_m M f1 S.2) Q := by
    intro k
    have emit : ∀ (k : Nat) (f1 : Nat → Int32) (S : (Nat → Int32) × Nat), k ≤ 3 → by_ S.2 f1 S.1 → S.2 + 1 ≤ 800 → (∀ f1, by_ (oa_ S (nI (48 + v / 10 ^ k % 10))).2 f1 (oa_ S (nI (48 + v / 10 ^ k % 10))).1 → ax_G g mt_Lists_writeNumber (h + 4) 0 0 31 [.ref 3, .int (nI v), .int (nI fd), .int (nI (10 ^ k))] [] (lw_m M f1 (oa_ S (nI (48 + v / 10 ^ k % 10))).2) Q) → ax_G g mt_Lists_writeNumber (h + 4) 0 0 18 [.ref 3, .int (nI v), .int (nI fd), .int (nI (10 ^ k))] [] (lw_m M f1 S.2) Q := by
      intro k f1 S hk hb hn ct
      obtain ⟨p1, p2⟩ := p10 hk
      have r10 : v / 10 ^ k % 10 < 10 := Nat.mod_lt _ (by decide)
      have d31 : v / 10 ^ k ≤ v := Nat.div_le_self _ _
      refine s_aload_n 19 rfl rfl rfl ?_
      refine s_bipush 48 21 rfl rfl (by decide) ?_
      refine s_iload_n 22 rfl rfl rfl ?_
      refine s_iload_n 23 rfl rfl rfl ?_
      -- Lists_writeNumber 23: end
      refine s_idiv 24 rfl rfl (fun q => absurd (nn_eq (b := 0) q) (by omega)) ?_
      rw [pk_div (by omega) (by omega) (by omega)]
      refine s_bipush 10 26 rfl rfl (by decide) ?_
      refine s_irem 27 rfl rfl (by decide) ?_
      rw [show nI (v / 10 ^ k) - nI (v / 10 ^ k) / 10 * 10 = nI (v / 10 ^ k % 10) from pk_rem (d := 10) (by omega) (by omega) (by omega)]
      refine s_iadd 28 rfl rfl ?_
      rw [show (48 : Int32) + nI (v / 10 ^ k % 10) = nI (48 + v / 10 ^ k % 10) from nI_add 48 _]
      refine c_callV1 (h+3) 31 rfl rfl mv_Lists_47 (by omega) (Nat.le_of_ble_eq_true rfl) (Nat.le_of_ble_eq_true rfl) rfl rfl rfl ?_
      -- Lists_writeNumber 31: call Row_add
      refine add f1 S _ _ hb (by omega) hn (fun f1 hb => ?_)
      dsimp only [ax_rs]
      exact ct f1 hb
    induction k with
    | zero =>
      intro f1 S _ hb hn hq
      have one : ax_G g mt_Lists_writeNumber (h + 4) 0 0 18 [.ref 3, .int (nI v), .int (nI fd), .int (nI (10 ^ 0))] [] (lw_m M f1 S.2) Q := by
        refine emit 0 f1 S (by omega) hb (by omega) (fun f1 hb => ?_)
        refine s_iload_n 32 rfl rfl rfl ?_
        refine s_bipush 10 34 rfl rfl (by decide) ?_
        refine s_idiv 35 rfl rfl (by decide) ?_
        refine s_ist3 36 rfl rfl rfl ?_
        refine s_goto 4 rfl (by decide) ?_
        -- Lists_writeNumber 4: end
        rw [show nI (10 ^ 0) / 10 = 0 from by decide]
        refine s_iload_n 5 rfl rfl rfl ?_
        refine s_if_le 39 8 rfl rfl (by decide) (fun c1 => ?_) (fun c1 => ?_)
        -- Lists_writeNumber 8: branch 39 8
        · exact fin f1 _ _ rfl hb (by show S.2 + 1 + 1 ≤ 800; omega) hq
        · exact absurd (by decide) c1
      refine s_iload_n 5 rfl rfl rfl ?_
      refine s_if_le 39 8 rfl rfl (by decide) (fun c2 => ?_) (fun c2 => ?_)
      -- Lists_writeNumber 8: branch 39 8
      · exact absurd c2 (by decide)
      · refine s_iload_n 9 rfl rfl rfl ?_
        refine s_iload_n 10 rfl rfl rfl ?_
        refine s_icmp_ge 18 13 rfl rfl (by decide) (fun c3 => ?_) (fun c3 => ?_)
        -- Lists_writeNumber 13: branch 18 13
        · exact one
        · refine s_iload_n 14 rfl rfl rfl ?_
          refine s_iconst 1 15 rfl rfl (by decide) ?_
          refine s_icmp_ne 31 18 rfl rfl (by decide) (fun c4 => ?_) (fun c4 => ?_)
          -- Lists_writeNumber 18: branch 31 18
          · exact absurd (by decide) c4
          · exact one
    | succ k ih =>
      intro f1 S hk hb hn hq
      obtain ⟨p1, p2⟩ := p10 (k := k + 1) hk
      have e10 : 10 ^ (k + 1) = 10 ^ k * 10 := Nat.pow_succ 10 k
      have next : ∀ (f1 : Nat → Int32) (S : (Nat → Int32) × Nat), by_ S.2 f1 S.1 → S.2 + k + 2 ≤ 800 → (∀ f1, by_ (oa_ (nuk_ v k S) (nI (zs_ fd))).2 f1 (oa_ (nuk_ v k S) (nI (zs_ fd))).1 → Q none (lw_m M f1 (oa_ (nuk_ v k S) (nI (zs_ fd))).2)) → ax_G g mt_Lists_writeNumber (h + 4) 0 0 31 [.ref 3, .int (nI v), .int (nI fd), .int (nI (10 ^ (k + 1)))] [] (lw_m M f1 S.2) Q := by
        intro f1 S hb hn hq
        refine s_iload_n 32 rfl rfl rfl ?_
        refine s_bipush 10 34 rfl rfl (by decide) ?_
        refine s_idiv 35 rfl rfl (by decide) ?_
        -- Lists_writeNumber 35: end
        rw [show nI (10 ^ (k + 1)) / 10 = nI (10 ^ k) by rw [show (10 : Int32) = nI 10 from rfl, pk_div (by omega) (by omega) (by omega), e10, Nat.mul_div_cancel _ (by decide)]]
        refine s_ist3 36 rfl rfl rfl ?_
        refine s_goto 4 rfl (by decide) ?_
        -- Lists_writeNumber 4: end
        exact ih f1 S (by omega) hb hn hq
      rw [nuk_] at hq
      refine s_iload_n 5 rfl rfl rfl ?_
      refine s_if_le 39 8 rfl rfl (by decide) (fun c5 => ?_) (fun c5 => ?_)
      -- Lists_writeNumber 8: branch 39 8
      · exact absurd c5 (nI_nle (by omega) (by omega))
      · refine s_iload_n 9 rfl rfl rfl ?_
        refine s_iload_n 10 rfl rfl rfl ?_
        refine s_icmp_ge 18 13 rfl rfl (by decide) (fun c6 => ?_) (fun c6 => ?_)
        -- Lists_writeNumber 13: branch 18 13
        · have c6 := nn_le c6
          rw [if_pos c6] at hq
          refine emit (k + 1) f1 S hk hb (by omega) (fun f1 hb => ?_)
          exact next f1 _ hb (by show S.2 + 1 + k + 2 ≤ 800; omega) hq
        · have c6 := nn_nle c6
          rw [if_neg (by omega)] at hq
          refine s_iload_n 14 rfl rfl rfl ?_
          refine s_iconst 1 15 rfl rfl (by decide) ?_
          refine s_icmp_ne 31 18 rfl rfl (by decide) (fun c7 => ?_) (fun c7 => ?_)
          -- Lists_writeNumber 18: branch 31 18
          · exact next f1 S hb (by omega) hq
          · exact absurd (nn_eq (b := 1) c7) (by have := Nat.pow_pos (n := k) (show 0 < 10 by decide); omega)
  refine s_sipush 1000 3 rfl rfl (by decide) ?_
  refine s_ist3 4 rfl rfl rfl ?_
  -- Lists_writeNumber 4: end
  exact loop 3 f1 S (by omega) hb (by omega) hq
end OUT
