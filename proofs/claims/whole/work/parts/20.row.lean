/-! Row -/
theorem ax_apart {M : ax_M} {a b : Nat} {e1 e2 : ax_E} (h1 : M.2 a = some e1) (h2 : M.2 b = some e2) (hne : e1 ≠ e2) : a ≠ b := by
  intro q
  subst q
  exact hne (Option.some.inj (h1.symm.trans h2))
def rw_m (M : ax_M) (a b cap : Nat) (f : Nat → Int32) (n : Nat) : ax_M := ax_put (ax_put M b (.inl (1, cap, .inl f))) a (.inr (7, [.ref b, .int (nI n)]))
def rw_at (f : Nat → Int32) (n : Nat) (x : Int32) : Int32 := if x < 0 then -1 else if nI n ≤ x then -1 else f x.toNatClampNeg &&& 255
theorem rw_at_in {f : Nat → Int32} {n j : Nat} (hj : j < n) (hn : n < 65536) : rw_at f n (nI j) = f j &&& 255 := by
  unfold rw_at
  rw [if_neg (nI_pos (by omega)), if_neg (nI_ge hj (by omega)), nI_clamp (by omega)]
theorem rw_at_out {f : Nat → Int32} {n j : Nat} (hj : n ≤ j) (hn : j < 65536) : rw_at f n (nI j) = -1 := by
  unfold rw_at
  rw [if_neg (nI_pos (by omega)), if_pos (nI_le hj (by omega))]
theorem ax_b8 (x : Int32) : x.toInt8.toInt32.toInt8.toInt32 = x.toInt8.toInt32 := by simp
section ROW
variable {g : ax_Y} {M : ax_M} {Q : Option Value → ax_M → Prop} {h a b cap n : Nat} {f : Nat → Int32}
theorem rw_m_a {M : ax_M} : (rw_m M a b cap f n).2 a = some (.inr (7, [.ref b, .int (nI n)])) := ax_eq
theorem rw_m_b {M : ax_M} (hab : a ≠ b) : (rw_m M a b cap f n).2 b = some (.inl (1, cap, .inl f)) := ax_ne hab.symm ax_eq
theorem rw_m_o {M : ax_M} {k : Nat} {x : Option ax_E} (hka : k ≠ a) (hkb : k ≠ b) (hx : M.2 k = x) : (rw_m M a b cap f n).2 k = x := ax_ne hka (ax_ne hkb hx)
theorem rw_m_m {M : ax_M} {f2 : Nat → Int32} {n2 cap2 : Nat} (hab : a ≠ b) : rw_m (rw_m M a b cap f n) a b cap2 f2 n2 = rw_m M a b cap2 f2 n2 := by
  unfold rw_m
  rw [ax_px _ _ hab, ax_pp, ax_pp]
theorem rw_m_id (h_this : M.2 a = some (.inr (7, [.ref b, .int (nI n)]))) (h_bytes : M.2 b = some (.inl (1, cap, .inl f))) : rw_m M a b cap f n = M := by
  unfold rw_m
  rw [ax_id h_bytes, ax_id h_this]
theorem m_Row_size (h_this : M.2 a = some (.inr (7, [.ref b, .int (nI n)]))) (hq : Q (some (.int (nI n))) M) : ax_G g mt_Row_size h 0 0 0 [.ref a] [] M Q := by
  refine s_aload_n 1 rfl rfl rfl ?_
  refine s_getfield 7 1 4 rfl rfl fl_Row_21 h_this rfl ?_
  -- Row_size 4: ireturn
  exact s_ireturn rfl .int rfl rfl (hq)
theorem m_Row_room (h_this : M.2 a = some (.inr (7, [.ref b, .int (nI n)]))) (h_bytes : M.2 b = some (.inl (1, cap, .inl f))) (hn : n ≤ cap) (hq : Q (some (.int (nI (cap - n)))) M) : ax_G g mt_Row_room h 0 0 0 [.ref a] [] M Q := by
  refine s_aload_n 1 rfl rfl rfl ?_
  refine s_getfield 7 0 4 rfl rfl fl_Row_15 h_this rfl ?_
  refine s_alen _ 5 rfl rfl h_bytes rfl ?_
  refine s_aload_n 6 rfl rfl rfl ?_
  refine s_getfield 7 1 9 rfl rfl fl_Row_21 h_this rfl ?_
  refine s_isub 10 rfl rfl ?_
  -- Row_room 10: ireturn
  rw [pk_sub hn]
  exact s_ireturn rfl .int rfl rfl (hq)
theorem m_Row_at {x : Int32} (h_this : M.2 a = some (.inr (7, [.ref b, .int (nI n)]))) (h_bytes : M.2 b = some (.inl (1, cap, .inl f))) (hn : n ≤ cap) (hcap : cap < 65536) (hq : Q (some (.int (rw_at f n x))) M) : ax_G g mt_Row_at h 0 0 0 [.ref a, .int x] [] M Q := by
  unfold rw_at at hq
  refine s_iload_n 1 rfl rfl rfl ?_
  refine s_if_lt 25 4 rfl rfl (by decide) (fun c1 => ?_) (fun c1 => ?_)
  -- Row_at 4: branch 25 4
  · rw [if_pos c1] at hq
    refine s_iconst (-1) 26 rfl rfl (by decide) ?_
    -- Row_at 26: ireturn
    exact s_ireturn rfl .int rfl rfl (hq)
  · rw [if_neg c1] at hq
    refine s_iload_n 5 rfl rfl rfl ?_
    refine s_aload_n 6 rfl rfl rfl ?_
    refine s_getfield 7 1 9 rfl rfl fl_Row_21 h_this rfl ?_
    refine s_icmp_ge 25 12 rfl rfl (by decide) (fun c2 => ?_) (fun c2 => ?_)
    -- Row_at 12: branch 25 12
    · rw [if_pos c2] at hq
      refine s_iconst (-1) 26 rfl rfl (by decide) ?_
      -- Row_at 26: ireturn
      exact s_ireturn rfl .int rfl rfl (hq)
    · rw [if_neg c2] at hq
      obtain ⟨j, hj, rfl⟩ := nI_of c1
      have hjn : j < n := by
        rcases Nat.lt_or_ge j n with q | q
        · exact q
        · exact absurd (nI_le q hj) c2
      rw [nI_clamp hj] at hq
      refine s_aload_n 13 rfl rfl rfl ?_
      refine s_getfield 7 0 16 rfl rfl fl_Row_15 h_this rfl ?_
      refine s_iload_n 17 rfl rfl rfl ?_
      refine s_baload (j) 18 rfl rfl h_bytes rfl (by omega) (by omega) ?_
      refine s_sipush 255 21 rfl rfl (by decide) ?_
      refine s_iand 22 rfl rfl ?_
      refine s_goto 26 rfl (by decide) ?_
      -- Row_at 26: ireturn
      exact s_ireturn rfl .int rfl rfl (hq)
theorem m_Row_add {x : Int32} (h_this : M.2 a = some (.inr (7, [.ref b, .int (nI n)]))) (h_bytes : M.2 b = some (.inl (1, cap, .inl f))) (hn : n ≤ cap) (hcap : cap < 65536) (hq : Q none (if n < cap then rw_m M a b cap (upd f n x.toInt8.toInt32) (n + 1) else M)) : ax_G g mt_Row_add h 0 0 0 [.ref a, .int x] [] M Q := by
  have n_this_bytes : a ≠ b := ax_apart h_this h_bytes (by simp)
  have n_bytes_this : b ≠ a := n_this_bytes.symm
  refine s_aload_n 1 rfl rfl rfl ?_
  refine s_getfield 7 1 4 rfl rfl fl_Row_21 h_this rfl ?_
  refine s_aload_n 5 rfl rfl rfl ?_
  refine s_getfield 7 0 8 rfl rfl fl_Row_15 h_this rfl ?_
  refine s_alen _ 9 rfl rfl h_bytes rfl ?_
  refine s_icmp_ge 33 12 rfl rfl (by decide) (fun c1 => ?_) (fun c1 => ?_)
  -- Row_add 12: branch 33 12
  · have q : ¬ n < cap := fun q => nI_ge q (by omega) c1
    rw [if_neg q] at hq
    exact s_return rfl rfl (hq)
  · have q : n < cap := by
      rcases Nat.lt_or_ge n cap with q | q
      · exact q
      · exact absurd (nI_le q (by omega)) c1
    rw [if_pos q] at hq
    refine s_aload_n 13 rfl rfl rfl ?_
    refine s_getfield 7 0 16 rfl rfl fl_Row_15 h_this rfl ?_
    refine s_aload_n 17 rfl rfl rfl ?_
    refine s_getfield 7 1 20 rfl rfl fl_Row_21 h_this rfl ?_
    refine s_iload_n 21 rfl rfl rfl ?_
    refine s_i2b 22 rfl rfl ?_
    refine s_bastore (n) 23 rfl rfl h_bytes rfl q (by omega) ?_
    rw [ax_b8]
    refine s_aload_n 24 rfl rfl rfl ?_
    refine s_dup 25 rfl rfl rfl ?_
    refine s_getfield 7 1 28 rfl rfl fl_Row_21 (ax_ne n_this_bytes h_this) rfl ?_
    refine s_iconst 1 29 rfl rfl (by decide) ?_
    refine s_iadd 30 rfl rfl ?_
    refine s_putfield 7 1 (.int) 33 rfl rfl fp_Row_21 (ax_ne n_this_bytes h_this) (Nat.le_of_ble_eq_true rfl) ⟨rfl, rfl⟩ (fun h => absurd h (by decide)) ?_
    -- Row_add 33: return_
    rw [nI_1]
    exact s_return rfl rfl (hq)
theorem m_Row_clear (h_this : M.2 a = some (.inr (7, [.ref b, .int (nI n)]))) (hq : Q none (ax_put M a (.inr (7, [.ref b, .int (nI 0)])))) : ax_G g mt_Row_clear h 0 0 0 [.ref a] [] M Q := by
  refine s_aload_n 1 rfl rfl rfl ?_
  refine s_iconst 0 2 rfl rfl (by decide) ?_
  refine s_putfield 7 1 (.int) 5 rfl rfl fp_Row_21 h_this (Nat.le_of_ble_eq_true rfl) ⟨rfl, rfl⟩ (fun h => absurd h (by decide)) ?_
  -- Row_clear 5: return_
  exact s_return rfl rfl (hq)
theorem m_Row_keep {k : Nat} (h_this : M.2 a = some (.inr (7, [.ref b, .int (nI n)]))) (hk : k ≤ n) (hn : n < 65536) (hq : Q none (ax_put M a (.inr (7, [.ref b, .int (nI k)])))) : ax_G g mt_Row_keep h 0 0 0 [.ref a, .int (nI k)] [] M Q := by
  refine s_iload_n 1 rfl rfl rfl ?_
  refine s_if_lt 17 4 rfl rfl (by decide) (fun c1 => ?_) (fun c1 => ?_)
  -- Row_keep 4: branch 17 4
  · exact absurd c1 (nI_pos (by omega))
  · refine s_iload_n 5 rfl rfl rfl ?_
    refine s_aload_n 6 rfl rfl rfl ?_
    refine s_getfield 7 1 9 rfl rfl fl_Row_21 h_this rfl ?_
    refine s_icmp_ge 17 12 rfl rfl (by decide) (fun c2 => ?_) (fun c2 => ?_)
    -- Row_keep 12: branch 17 12
    · have q : k = n := by
        rcases Nat.lt_or_ge k n with q | q
        · exact absurd c2 (nI_ge q (by omega))
        · omega
      subst q
      rw [ax_id h_this] at hq
      exact s_return rfl rfl (hq)
    · refine s_aload_n 13 rfl rfl rfl ?_
      refine s_iload_n 14 rfl rfl rfl ?_
      refine s_putfield 7 1 (.int) 17 rfl rfl fp_Row_21 h_this (Nat.le_of_ble_eq_true rfl) ⟨rfl, rfl⟩ (fun h => absurd h (by decide)) ?_
      -- Row_keep 17: return_
      exact s_return rfl rfl (hq)
end ROW
