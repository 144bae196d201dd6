section ROWP
variable {g : ax_Y} {M : ax_M} {Q : Option Value → ax_M → Prop} {h a b cap n : Nat} {f : Nat → Int32}
/-- behind i bytes of another row, from place s on -/
def rw_ap (f : Nat → Int32) (n : Nat) (f2 : Nat → Int32) (s i : Nat) : Nat → Int32 := fun j => if n ≤ j ∧ j < n + i then (f2 (s + (j - n)) &&& 255).toInt8.toInt32 else f j
theorem rw_ap_0 (f : Nat → Int32) (n : Nat) (f2 : Nat → Int32) (s : Nat) : rw_ap f n f2 s 0 = f := by
  funext j
  unfold rw_ap
  rw [if_neg (by omega)]
theorem rw_ap_s (f : Nat → Int32) (n : Nat) (f2 : Nat → Int32) (s i : Nat) : upd (rw_ap f n f2 s i) (n + i) (f2 (s + i) &&& 255).toInt8.toInt32 = rw_ap f n f2 s (i + 1) := by
  funext j
  unfold upd rw_ap
  by_cases h1 : j = n + i
  · subst h1
    rw [if_pos rfl, if_pos (by omega), show s + (n + i - n) = s + i by omega]
  · rw [if_neg h1]
    by_cases h2 : n ≤ j ∧ j < n + i
    · rw [if_pos h2, if_pos (by omega)]
    · rw [if_neg h2, if_neg (by omega)]
theorem m_Row_addPart {a2 b2 cap2 n2 s k : Nat} {f2 : Nat → Int32} (h_this : M.2 a = some (.inr (7, [.ref b, .int (nI n)]))) (h_bytes : M.2 b = some (.inl (1, cap, .inl f))) (h_from : M.2 a2 = some (.inr (7, [.ref b2, .int (nI n2)]))) (h_fb : M.2 b2 = some (.inl (1, cap2, .inl f2))) (n12 : a2 ≠ a) (n22 : b2 ≠ b) (hcap : cap < 65536) (hcap2 : cap2 < 65536) (hn2 : n2 ≤ cap2) (hk : n + k ≤ cap) (hs : s + k ≤ n2)
    (hq : Q none (rw_m M a b cap (rw_ap f n f2 s k) (n + k))) : ax_G g mt_Row_addPart (h + 1) 0 0 0 [.ref a, .ref a2, .int (nI s), .int (nI k), .float 0] [] M Q := by
  have nab : a ≠ b := ax_apart h_this h_bytes (by simp)
  have na2b : a2 ≠ b := ax_apart h_from h_bytes (by simp)
  have nb2a : b2 ≠ a := ax_apart h_fb h_this (by simp)
  refine s_iconst 0 1 rfl rfl (by decide) ?_
  refine s_ist4 3 rfl rfl rfl ?_
  -- Row_addPart 3: end
  have loop : ∀ (d i : Nat), i + d = k → ax_G g mt_Row_addPart (h + 1) 0 0 3 [.ref a, .ref a2, .int (nI s), .int (nI k), .int (nI i)] [] (rw_m M a b cap (rw_ap f n f2 s i) (n + i)) Q := by
    intro d
    induction d with
    | zero =>
      intro i hi
      obtain rfl : i = k := by omega
      refine s_iload 5 rfl rfl rfl ?_
      refine s_iload_n 6 rfl rfl rfl ?_
      refine s_icmp_ge 27 9 rfl rfl (by decide) (fun c1 => ?_) (fun c1 => ?_)
      -- Row_addPart 9: branch 27 9
      · exact s_return rfl rfl (hq)
      · exact absurd (nI_le (Nat.le_refl i) (by omega)) c1
    | succ d ih =>
      intro i hi
      refine s_iload 5 rfl rfl rfl ?_
      refine s_iload_n 6 rfl rfl rfl ?_
      refine s_icmp_ge 27 9 rfl rfl (by decide) (fun c2 => ?_) (fun c2 => ?_)
      -- Row_addPart 9: branch 27 9
      · exact absurd c2 (nI_ge (by omega) (by omega))
      · skip
        refine s_aload_n 10 rfl rfl rfl ?_
        refine s_aload_n 11 rfl rfl rfl ?_
        refine s_iload_n 12 rfl rfl rfl ?_
        refine s_iload 14 rfl rfl rfl ?_
        refine s_iadd 15 rfl rfl ?_
        refine c_callV1 h 18 rfl rfl mv_Row_25 (by omega) (Nat.le_of_ble_eq_true rfl) (Nat.le_of_ble_eq_true rfl) (rw_m_o n12 na2b h_from) rfl rfl ?_
        -- Row_addPart 18: call Row_at
        refine m_Row_at (rw_m_o n12 na2b h_from) (rw_m_o nb2a n22 h_fb) hn2 hcap2 ?_
        dsimp only [ax_rs]
        rw [nI_add, rw_at_in (by omega) (by omega)]
        refine c_callV1 h 21 rfl rfl mv_Row_29 (by omega) (Nat.le_of_ble_eq_true rfl) (Nat.le_of_ble_eq_true rfl) rw_m_a rfl rfl ?_
        -- Row_addPart 21: call Row_add
        refine m_Row_add rw_m_a (rw_m_b nab) (by omega) hcap ?_
        dsimp only [ax_rs]
        rw [if_pos (by omega), rw_m_m nab, rw_ap_s]
        refine s_inc4 _ 24 rfl rfl rfl rfl ?_
        refine s_goto 3 rfl (by decide) ?_
        -- Row_addPart 3: end
        rw [show nI i + Int32.ofInt 1 = nI (i + 1) from nI_1 i]
        exact ih (i + 1) (by omega)
  have h0 := loop k 0 (by omega)
  rw [rw_ap_0, show n + 0 = n from rfl, rw_m_id h_this h_bytes] at h0
  exact h0
end ROWP
