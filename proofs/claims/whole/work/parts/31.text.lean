/-! feed, cut -/
theorem bp_b (x : Int32) : x.toInt8.toInt32 &&& 255 = x &&& 255 := by
  apply Int32.toBitVec_inj.mp
  rw [Int32.toBitVec_and, Int32.toBitVec_and, Int8.toBitVec_toInt32, Int32.toBitVec_toInt8]
  apply BitVec.eq_of_getLsbD_eq
  intro i hi
  rw [BitVec.getLsbD_and, BitVec.getLsbD_and]
  have hm : ∀ i < 32, 8 ≤ i → (255 : Int32).toBitVec.getLsbD i = false := by decide
  rcases Nat.lt_or_ge i 8 with z | z
  · rw [BitVec.getLsbD_signExtend, BitVec.getLsbD_signExtend, if_pos z, if_pos hi]
    simp only [z, hi, decide_true, Bool.true_and]
  · rw [hm i hi z]; simp
theorem b_l2i (x : Int64) {i : Nat} (hi : i < 32) : bt x.toInt32 i = lb x i := by
  show x.toInt32.toBitVec.getLsbD i = x.toBitVec.getLsbD i
  rw [Int64.toBitVec_toInt32, BitVec.getLsbD_signExtend]
  simp [hi]
  omega
theorem b_255 : ∀ i, i < 32 → bt 255 i = decide (i < 8) := by decide +kernel
theorem l_255 : ∀ i, i < 64 → lb 255 i = decide (i < 8) := by decide +kernel
/-- byte i of a long, both ways -/
theorem fd_b (w : Int64) {i : Nat} (hi : i < 8) : (w.toUInt64 >>> ((nI (8 * i)).toInt64.toUInt64 &&& Int64.toUInt64 63)).toInt64.toInt32.toInt8.toInt32 &&& 255 = ((w >>> ((nI (8 * i)).toInt64 &&& 63)) &&& 255).toInt32 := by
  rw [bp_b]
  refine b_ext (fun j hj => ?_)
  rw [b_and, b_l2i _ hj, b_l2i _ hj, l_and, l_ushr _ (by omega), l_sshr _ (by omega) _ (by omega), b_255 j hj, l_255 j (by omega)]
  by_cases h : j < 8
  · rw [if_pos (by omega)]
  · simp [h]
theorem fd_c (x : Int64) : ∃ c, c < 256 ∧ (x &&& 255).toInt32 = nI c := by
  have h : (x &&& 255).toInt32 = (x &&& 255).toInt32 &&& 255 := by
    refine b_ext (fun j hj => ?_)
    rw [b_and, b_l2i _ hj, l_and, b_255 j hj, l_255 j (by omega)]
    cases lb x j <;> simp
  rw [h]
  obtain ⟨j, hj, e⟩ := pk_andE (x &&& 255).toInt32 (m := 255) 8 (by decide)
  exact ⟨j, hj, e⟩
/-- k bytes of w behind n, j of them done -/
def fd_ (B : Nat → Int32) (f : Nat → Int32) (n k : Nat) : Nat → (Nat → Int32)
  | 0 => f
  | j + 1 => upd (fd_ B f n k j) (n + j) (B (k - 1 - j))
theorem fd_at (B f : Nat → Int32) (n k : Nat) : ∀ j i, fd_ B f n k j i = if n ≤ i ∧ i < n + j then B (k - 1 - (i - n)) else f i := by
  intro j
  induction j with
  | zero => intro i; rw [fd_, if_neg (by omega)]
  | succ j ih =>
    intro i
    rw [fd_]
    unfold upd
    by_cases h : i = n + j
    · subst h
      rw [if_pos rfl, if_pos (by omega), show n + j - n = j by omega]
    · rw [if_neg h, ih i]
      by_cases h2 : n ≤ i ∧ i < n + j
      · rw [if_pos h2, if_pos (by omega)]
      · rw [if_neg h2, if_neg (by omega)]
def fd_B1 (w : Int64) (i : Nat) : Int32 := (w.toUInt64 >>> ((nI (8 * i)).toInt64.toUInt64 &&& Int64.toUInt64 63)).toInt64.toInt32.toInt8.toInt32
def fd_B2 (w : Int64) (i : Nat) : Int32 := ((w >>> ((nI (8 * i)).toInt64 &&& 63)) &&& 255).toInt32
theorem dec1 (x : Int32) : x + Int32.ofInt (-1) = x - 1 := by
  rw [show Int32.ofInt (-1) = -1 by decide, Int32.sub_eq_add_neg]
theorem nI_ge0 (x : Int32) (h1 : ¬ x < 1) (h2 : x ≤ 8) : ∃ k : Nat, 1 ≤ k ∧ k ≤ 8 ∧ x = nI k := by
  obtain ⟨j, hj, rfl⟩ := nI_of2 (x := x) (M := 8) (n := 8) (by decide) (fun q => h1 (Int32.lt_trans q (by decide))) h2
  refine ⟨j, ?_, hj, rfl⟩
  rcases Nat.lt_or_ge j 1 with q | q
  · obtain rfl : j = 0 := by omega
    exact absurd (by decide) h1
  · exact q
section TEXT
variable {g : ax_Y} {M : ax_M} {Q : Option Value → ax_M → Prop} {h n dw nw : Nat} {bl pa : Int32} {f : Nat → Int32}
theorem c_feed {x : Int32} {w : Int64} (h_this : oC M 0 11 (tp_f dw nw bl pa)) (h_text : oC M 1 7 [.ref 2, .int (nI n)]) (h_bytes : bA M 2 160 f) (hn : n ≤ 160) (hb : (x < 1 ∨ ¬ x ≤ 8) → Q (some (.int (-2))) M) (hr : ∀ k, 1 ≤ k → k ≤ 8 → x = nI k → 160 < n + k → Q (some (.int (-4))) M) (hg : ∀ k, 1 ≤ k → k ≤ 8 → x = nI k → n + k ≤ 160 → Q (some (.int (nI (n + k)))) (rw_m M 1 2 160 (fd_ (fd_B1 w) f n k k) (n + k))) : ax_G g mt_Top_feed (h + 1) 0 0 0 [.ref 0, .int x, .long w, .float 0, .float 0] [] M Q := by
  refine s_iload_n 1 rfl rfl rfl ?_
  refine s_iconst 1 2 rfl rfl (by decide) ?_
  refine s_icmp_lt 11 5 rfl rfl (by decide) (fun c1 => ?_) (fun c1 => ?_)
  -- Top_feed 5: branch 11 5
  · refine s_bipush (-2) 13 rfl rfl (by decide) ?_
    -- Top_feed 13: ireturn
    exact s_ireturn rfl .int rfl rfl (hb (Or.inl c1))
  · refine s_iload_n 6 rfl rfl rfl ?_
    refine s_bipush 8 8 rfl rfl (by decide) ?_
    refine s_icmp_le 14 11 rfl rfl (by decide) (fun c2 => ?_) (fun c2 => ?_)
    -- Top_feed 11: branch 14 11
    · obtain ⟨k, k1, k8, rfl⟩ := nI_ge0 x c1 c2
      refine s_iload_n 15 rfl rfl rfl ?_
      refine s_aload_n 16 rfl rfl rfl ?_
      refine s_getfield 11 0 19 rfl rfl fl_Top_14 h_this rfl ?_
      refine c_callV0 h 22 rfl rfl mv_Top_91 (by omega) (Nat.le_of_ble_eq_true rfl) (Nat.le_of_ble_eq_true rfl) h_text rfl rfl ?_
      -- Top_feed 22: call Row_room
      refine m_Row_room h_text h_bytes hn ?_
      dsimp only [ax_rs]
      refine s_icmp_le 28 25 rfl rfl (by decide) (fun c3 => ?_) (fun c3 => ?_)
      -- Top_feed 25: branch 28 25
      · have hk := nn_le c3
        have hg := hg k k1 k8 rfl (by omega)
        refine s_iload_n 29 rfl rfl rfl ?_
        refine s_iconst 1 30 rfl rfl (by decide) ?_
        refine s_isub 31 rfl rfl ?_
        refine s_ist4 33 rfl rfl rfl ?_
        -- Top_feed 33: end
        have loop : ∀ (r : Nat), r ≤ k → ax_G g mt_Top_feed (h + 1) 0 0 33 [.ref 0, .int (nI k), .long w, .float 0, .int (nI r - 1)] [] (rw_m M 1 2 160 (fd_ (fd_B1 w) f n k (k - r)) (n + (k - r))) Q := by
          intro r
          induction r with
          | zero =>
            intro _
            refine s_iload 35 rfl rfl rfl ?_
            refine s_if_lt 59 38 rfl rfl (by decide) (fun c4 => ?_) (fun c4 => ?_)
            -- Top_feed 38: branch 59 38
            · skip
              refine s_aload_n 60 rfl rfl rfl ?_
              refine s_getfield 11 0 63 rfl rfl fl_Top_14 h_this rfl ?_
              refine c_callV0 h 66 rfl rfl mv_Top_98 (by omega) (Nat.le_of_ble_eq_true rfl) (Nat.le_of_ble_eq_true rfl) rfl rfl rfl ?_
              -- Top_feed 66: call Row_size
              refine m_Row_size rfl ?_
              dsimp only [ax_rs]
              exact s_ireturn rfl .int rfl rfl (hg)
            · exact absurd (by decide) c4
          | succ r ih =>
            intro hr
            rw [nI_pred]
            refine s_iload 35 rfl rfl rfl ?_
            refine s_if_lt 59 38 rfl rfl (by decide) (fun c5 => ?_) (fun c5 => ?_)
            -- Top_feed 38: branch 59 38
            · exact absurd c5 (nI_pos (by omega))
            · skip
              refine s_aload_n 39 rfl rfl rfl ?_
              refine s_getfield 11 0 42 rfl rfl fl_Top_14 h_this rfl ?_
              refine s_lload_n 43 rfl rfl rfl ?_
              refine s_bipush 8 45 rfl rfl (by decide) ?_
              refine s_iload 47 rfl rfl rfl ?_
              refine s_imul 48 rfl rfl ?_
              -- Top_feed 48: end
              rw [show (8 : Int32) * nI r = nI (8 * r) from pk_mul 8 r]
              refine s_lushr 49 rfl rfl ?_
              refine s_l2i 50 rfl rfl ?_
              refine c_callV1 h 53 rfl rfl mv_Top_95 (by omega) (Nat.le_of_ble_eq_true rfl) (Nat.le_of_ble_eq_true rfl) rfl rfl rfl ?_
              -- Top_feed 53: call Row_add
              refine m_Row_add rfl rfl (by omega) (by omega) ?_
              dsimp only [ax_rs]
              rw [if_pos (by omega), rw_m_m (by decide)]
              refine s_inc4 _ 56 rfl rfl rfl rfl ?_
              refine s_goto 33 rfl (by decide) ?_
              -- Top_feed 33: end
              rw [dec1]
              have := ih (by omega)
              rw [show k - r = k - (r + 1) + 1 by omega, fd_, show k - 1 - (k - (r + 1)) = r by omega] at this
              exact this
        have h0 := loop k (Nat.le_refl k)
        rw [show k - k = 0 by omega, fd_, show n + 0 = n from rfl, rw_m_id h_text h_bytes] at h0
        exact h0
      · refine s_bipush (-4) 27 rfl rfl (by decide) ?_
        -- Top_feed 27: ireturn
        exact s_ireturn rfl .int rfl rfl (hr k k1 k8 rfl (by have := nn_nle c3; omega))
    · refine s_bipush (-2) 13 rfl rfl (by decide) ?_
      -- Top_feed 13: ireturn
      exact s_ireturn rfl .int rfl rfl (hb (Or.inr c2))
theorem c_cut {x : Int32} (h_this : oC M 0 11 (tp_f dw nw bl pa)) (h_text : oC M 1 7 [.ref 2, .int (nI n)]) (hn : n ≤ 160) (hb : (x < 0 ∨ ¬ x ≤ nI n) → Q (some (.int (-2))) M) (hg : ∀ k, k ≤ n → x = nI k → Q (some (.int (nI (n - k)))) (oP M 1 7 [.ref 2, .int (nI k)])) : ax_G g mt_Top_cut (h + 1) 0 0 0 [.ref 0, .int x, .float 0] [] M Q := by
  refine s_iload_n 1 rfl rfl rfl ?_
  refine s_if_lt 15 4 rfl rfl (by decide) (fun c1 => ?_) (fun c1 => ?_)
  -- Top_cut 4: branch 15 4
  · refine s_bipush (-2) 17 rfl rfl (by decide) ?_
    -- Top_cut 17: ireturn
    exact s_ireturn rfl .int rfl rfl (hb (Or.inl c1))
  · refine s_iload_n 5 rfl rfl rfl ?_
    refine s_aload_n 6 rfl rfl rfl ?_
    refine s_getfield 11 0 9 rfl rfl fl_Top_14 h_this rfl ?_
    refine c_callV0 h 12 rfl rfl mv_Top_98 (by omega) (Nat.le_of_ble_eq_true rfl) (Nat.le_of_ble_eq_true rfl) h_text rfl rfl ?_
    -- Top_cut 12: call Row_size
    refine m_Row_size h_text ?_
    dsimp only [ax_rs]
    refine s_icmp_le 18 15 rfl rfl (by decide) (fun c2 => ?_) (fun c2 => ?_)
    -- Top_cut 15: branch 18 15
    · obtain ⟨k, hk, rfl⟩ := nI_of c1
      have hkn := nn_le c2
      refine s_aload_n 19 rfl rfl rfl ?_
      refine s_getfield 11 0 22 rfl rfl fl_Top_14 h_this rfl ?_
      refine c_callV0 h 25 rfl rfl mv_Top_98 (by omega) (Nat.le_of_ble_eq_true rfl) (Nat.le_of_ble_eq_true rfl) h_text rfl rfl ?_
      -- Top_cut 25: call Row_size
      refine m_Row_size h_text ?_
      dsimp only [ax_rs]
      refine s_iload_n 26 rfl rfl rfl ?_
      refine s_isub 27 rfl rfl ?_
      -- Top_cut 27: end
      rw [pk_sub hkn]
      refine s_ist2 28 rfl rfl rfl ?_
      refine s_aload_n 29 rfl rfl rfl ?_
      refine s_getfield 11 0 32 rfl rfl fl_Top_14 h_this rfl ?_
      refine s_iload_n 33 rfl rfl rfl ?_
      refine c_callV1 h 36 rfl rfl mv_Top_101 (by omega) (Nat.le_of_ble_eq_true rfl) (Nat.le_of_ble_eq_true rfl) h_text rfl rfl ?_
      -- Top_cut 36: call Row_keep
      refine m_Row_keep h_text hkn (by omega) ?_
      dsimp only [ax_rs]
      refine s_iload_n 37 rfl rfl rfl ?_
      -- Top_cut 37: ireturn
      exact s_ireturn rfl .int rfl rfl (hg k hkn rfl)
    · refine s_bipush (-2) 17 rfl rfl (by decide) ?_
      -- Top_cut 17: ireturn
      exact s_ireturn rfl .int rfl rfl (hb (Or.inr c2))
end TEXT
