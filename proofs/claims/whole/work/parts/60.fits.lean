/-! fits -/
def bx_ (n : Nat) (f : Nat → Int32) (c : Nat) : Int32 := if c < n then f c &&& 255 else 47
def pq_ (M : ax_M) (a n : Nat) (f : Nat → Int32) (k : Nat) (s : Nat → Int32) (z : Nat → Nat) : Prop := pt_ M a n f k s ∧ (∀ i, i < k → s i = nI (z i) ∧ z i < n) ∧ W_ (bx_ n f) (if n = 0 then 0 else n + 1) k z ∧ k ≤ n
theorem pq_of {M : ax_M} {a n : Nat} {f : Nat → Int32} {k : Nat} {s : Nat → Int32} (h : pt_ M a n f k s) (h2 : ps_ n f k s) (h3 : vp_ n f) : ∃ z, pq_ M a n f k s z := by
  have kl := ps_le h2
  obtain ⟨z, p1, p2, p3⟩ := h2
  have zlt : ∀ i j, i < k → j < k → z i < z j → i < j := by
    intro i j hi hj q
    rcases Nat.lt_trichotomy i j with w | w | w
    · exact w
    · subst w; omega
    · have := p2 j i w hi; omega
  refine ⟨fun i => if i < k then z i else if n = 0 then 0 else n + 1, h, fun i hi => ?_, ⟨?_, ?_, fun a ha => ?_⟩, kl⟩
  · show s i = nI (if i < k then z i else (if n = 0 then 0 else n + 1)) ∧ (if i < k then z i else (if n = 0 then 0 else n + 1)) < n
    rw [if_pos hi]
    exact p1 i hi
  · show (if 0 < k then z 0 else if n = 0 then 0 else n + 1) = 0
    by_cases w : n = 0
    · rw [if_neg (by omega), if_pos w]
    · obtain ⟨i, h4, h5⟩ := (p3 0 (by omega)).mp (Or.inl rfl)
      rw [if_pos (by omega)]
      by_cases v : i = 0
      · subst v; exact h5
      · have := p2 0 i (by omega) h4; omega
  · show (if k < k then z k else if n = 0 then 0 else n + 1) = _
    rw [if_neg (by omega)]
  · show (if a < k then z a else _) < (if a + 1 < k then z (a + 1) else _) ∧ bx_ n f ((if a + 1 < k then z (a + 1) else _) - 1) = 47 ∧ ∀ c, (if a < k then z a else _) ≤ c → c + 1 < (if a + 1 < k then z (a + 1) else _) → _
    rw [if_pos ha]
    have za := (p1 a ha).2
    by_cases w : a + 1 < k
    · rw [if_pos w]
      have zb := (p1 (a + 1) w).2
      have lt := p2 a (a + 1) (by omega) w
      refine ⟨lt, ?_, fun c h4 h5 q => ?_⟩
      · rcases (p3 (z (a + 1)) zb).mpr ⟨a + 1, w, rfl⟩ with v | v
        · omega
        · unfold bx_
          rw [if_pos (by omega), v]
      · unfold bx_ at q
        rw [if_pos (by omega)] at q
        obtain ⟨i, h6, h7⟩ := (p3 (c + 1) (by omega)).mp (Or.inr (by rw [Nat.add_sub_cancel]; exact q))
        have := zlt a i ha h6 (by omega)
        have := zlt i (a + 1) h6 w (by omega)
        omega
    · rw [if_neg w, if_neg (by omega : ¬ n = 0)]
      refine ⟨by omega, ?_, fun c h4 h5 q => ?_⟩
      · unfold bx_
        rw [if_neg (by omega)]
      · unfold bx_ at q
        rw [if_pos (by omega)] at q
        by_cases v : c + 1 = n
        · rcases h3.1 with u | u
          · omega
          · rw [show n - 1 = c by omega] at u
            exact u q
        · obtain ⟨i, h6, h7⟩ := (p3 (c + 1) (by omega)).mp (Or.inr (by rw [Nat.add_sub_cancel]; exact q))
          have := zlt a i ha h6 (by omega)
          omega
theorem pq_ds {M : ax_M} {a n : Nat} {f : Nat → Int32} {k : Nat} {s : Nat → Int32} {z : Nat → Nat} (h : pq_ M a n f k s z) (h3 : vp_ n f) : ∀ i, i < k → any_ (bx_ n f) n (z i) → ds_ (bx_ n f) z i := by
  obtain ⟨-, p1, p2, p3⟩ := h
  rintro i hi ⟨q1, q2, q3, q4⟩
  have n0 : ¬ n = 0 := by omega
  rw [if_neg n0] at p2
  obtain ⟨w1, w2, w3⟩ := p2.2.2 i hi
  have hN := p2.mono (a := i + 1) (k - (i + 1)) (by omega)
  rw [show i + 1 + (k - (i + 1)) = k by omega, p2.2.1] at hN
  refine ⟨?_, q3, q4⟩
  have e1 : z (i + 1) - 1 ≠ z i := fun e => by rw [e, q3] at w2; exact absurd w2 (by decide)
  have e2 : z (i + 1) - 1 ≠ z i + 1 := fun e => by rw [e, q4] at w2; exact absurd w2 (by decide)
  by_cases v : z (i + 1) = z i + 3
  · exact v
  · have q := w3 (z i + 2) (by omega) (by omega)
    have u : z i + 2 = n ∨ f (z i + 2) &&& 255 = 47 := by
      refine h3.2 (z i) ?_ q2 ?_ ?_
      · rcases q1 with q1 | q1
        · exact Or.inl q1
        · by_cases v : z i = 0
          · exact Or.inl v
          · unfold bx_ at q1
            rw [if_pos (by omega)] at q1
            exact Or.inr q1
      · unfold bx_ at q3
        rw [if_pos (by omega)] at q3
        exact q3
      · unfold bx_ at q4
        rw [if_pos (by omega)] at q4
        exact q4
    rcases u with u | u
    · omega
    · unfold bx_ at q
      rw [if_pos (by omega)] at q
      exact absurd u q
theorem b_neg (x : Int32) {i : Nat} (hi : i < 32) : bt (-x) i = (bt x i ^^ decide (∃ j, j < i ∧ bt x j = true)) := by
  unfold bt
  rw [Int32.toBitVec_neg, BitVec.getLsbD_neg]
  simp [hi]
theorem fl_mask : ∀ L, L < 25 → ∀ i, i < 32 → bt (((1 : Int32) <<< (nI (L + 1) &&& 31)) - 1) i = decide (i ≤ L) := by decide +kernel
section FITS
variable {g : ax_Y} {M : ax_M} {Q : Option Value → ax_M → Prop} {h a n k : Nat} {f s : Nat → Int32} {z : Nat → Nat} {a2 n2 k2 : Nat} {f2 s2 : Nat → Int32} {z2 : Nat → Nat}
theorem m_Parts_fromLowest {x : Int32} {L : Nat} (hL : L ≤ 24) (hq : ∀ r, (∀ b, b < 32 → (bt r b = true ↔ (b ≤ L ∧ ∃ c, c ≤ b ∧ bt x c = true))) → Q (some (.int r)) M) : ax_G g mt_Parts_fromLowest h 0 0 0 [.int x, .int (nI L)] [] M Q := by
  have key : ∀ b, b < 32 → (bt ((x ||| -x) &&& (((1 : Int32) <<< (nI (L + 1) &&& 31)) - 1)) b = true ↔ (b ≤ L ∧ ∃ c, c ≤ b ∧ bt x c = true)) := by
   intro b hb
   rw [b_and, b_or, b_neg x hb, fl_mask L (by omega) b hb, Bool.and_eq_true_iff, decide_eq_true_eq, Bool.or_eq_true_iff, and_comm]
   refine and_congr_right (fun _ => ?_)
   constructor
   · rintro (q | q)
     · exact ⟨b, Nat.le_refl b, q⟩
     · by_cases w : bt x b = true
       · exact ⟨b, Nat.le_refl b, w⟩
       · have w : bt x b = false := by simpa using w
         rw [w, Bool.false_xor] at q
         obtain ⟨j, h1, h2⟩ := of_decide_eq_true q
         exact ⟨j, by omega, h2⟩
   · rintro ⟨c, h1, h2⟩
     by_cases w : bt x b = true
     · exact Or.inl w
     · refine Or.inr ?_
       have hne : c ≠ b := fun e => by subst e; exact w h2
       have w : bt x b = false := by simpa using w
       rw [w, Bool.false_xor]
       exact decide_eq_true ⟨c, by omega, h2⟩
  refine s_iload_n 1 rfl rfl rfl ?_
  refine s_iload_n 2 rfl rfl rfl ?_
  refine s_ineg 3 rfl rfl ?_
  refine s_ior 4 rfl rfl ?_
  refine s_iconst 1 5 rfl rfl (by decide) ?_
  refine s_iload_n 6 rfl rfl rfl ?_
  refine s_iconst 1 7 rfl rfl (by decide) ?_
  refine s_iadd 8 rfl rfl ?_
  -- Parts_fromLowest 8: end
  rw [nI_1]
  refine s_ishl 9 rfl rfl ?_
  refine s_iconst 1 10 rfl rfl (by decide) ?_
  refine s_isub 11 rfl rfl ?_
  refine s_iand 12 rfl rfl ?_
  -- Parts_fromLowest 12: ireturn
  exact s_ireturn rfl .int rfl rfl (hq _ key)
theorem m_Parts_endOf {p : Nat} (hp : pq_ M a n f k s z) (hk : p < k) (hq : Q (some (.int (nI (z (p + 1) - 1)))) M) : ax_G g mt_Parts_endOf (h + 1) 0 0 0 [.ref a, .int (nI p)] [] M Q := by
  obtain ⟨⟨h_this, h_bytes, h_bb, h_starts, n24⟩, p1, p2, p3⟩ := hp
  rw [if_neg (by omega : ¬ n = 0)] at p2
  refine s_iload_n 1 rfl rfl rfl ?_
  refine s_iconst 1 2 rfl rfl (by decide) ?_
  refine s_iadd 3 rfl rfl ?_
  -- Parts_endOf 3: end
  rw [nI_1]
  refine s_aload_n 4 rfl rfl rfl ?_
  refine s_getfield 5 2 7 rfl rfl fl_Parts_49 h_this rfl ?_
  refine s_icmp_ge 23 10 rfl rfl (by decide) (fun c1 => ?_) (fun c1 => ?_)
  -- Parts_endOf 10: branch 23 10
  · have q := nn_le c1
    have e : z (p + 1) = n + 1 := by
      rw [show p + 1 = k by omega]
      exact p2.2.1
    rw [e, Nat.add_sub_cancel] at hq
    refine s_aload_n 24 rfl rfl rfl ?_
    refine s_getfield 5 0 27 rfl rfl fl_Parts_14 h_this rfl ?_
    refine c_callV0 h 30 rfl rfl mv_Parts_24 (by omega) (Nat.le_of_ble_eq_true rfl) (Nat.le_of_ble_eq_true rfl) h_bytes rfl rfl ?_
    -- Parts_endOf 30: call Row_size
    refine m_Row_size h_bytes ?_
    dsimp only [ax_rs]
    -- Parts_endOf 30: ireturn
    exact s_ireturn rfl .int rfl rfl (hq)
  · have q := nn_nle c1
    have lt := (p2.2.2 p hk).1
    refine s_aload_n 11 rfl rfl rfl ?_
    refine s_getfield 5 1 14 rfl rfl fl_Parts_20 h_this rfl ?_
    refine s_iload_n 15 rfl rfl rfl ?_
    refine s_iconst 1 16 rfl rfl (by decide) ?_
    refine s_iadd 17 rfl rfl ?_
    -- Parts_endOf 17: end
    rw [nI_1]
    refine s_iaload (p + 1) 18 rfl rfl h_starts rfl (by omega) (by decide) ?_
    -- Parts_endOf 18: end
    rw [(p1 (p + 1) q).1, show z (p + 1) = z (p + 1) - 1 + 1 by omega]
    refine s_iconst 1 19 rfl rfl (by decide) ?_
    refine s_isub 20 rfl rfl ?_
    -- Parts_endOf 20: end
    rw [nI_pred]
    refine s_goto 30 rfl (by decide) ?_
    -- Parts_endOf 30: ireturn
    exact s_ireturn rfl .int rfl rfl (hq)
theorem m_Parts_isDoubleStar {p : Nat} (hp : pq_ M a n f k s z) (hk : p < k) (hq : ∀ r : Bool, (r = true ↔ ds_ (bx_ n f) z p) → Q (some (.int (if r then 1 else 0))) M) : ax_G g mt_Parts_isDoubleStar (h + 2) 0 0 0 [.ref a, .int (nI p), .float 0] [] M Q := by
  have hp' := hp
  obtain ⟨⟨h_this, h_bytes, h_bb, h_starts, n24⟩, p1, p2, p3⟩ := hp
  rw [if_neg (by omega : ¬ n = 0)] at p2
  obtain ⟨w1, w2, w3⟩ := p2.2.2 p hk
  have hN := p2.mono (a := p + 1) (k - (p + 1)) (by omega)
  rw [show p + 1 + (k - (p + 1)) = k by omega, p2.2.1] at hN
  obtain ⟨e1, e2⟩ := p1 p hk
  unfold ds_ at hq
  have no : ¬ (z (p + 1) = z p + 3 ∧ bx_ n f (z p) = 42 ∧ bx_ n f (z p + 1) = 42) → ax_G g mt_Parts_isDoubleStar (h + 2) 0 0 50 [.ref a, .int (nI p), .int (nI (z p))] [] M Q := by
    intro q
    refine s_iconst 0 51 rfl rfl (by decide) ?_
    -- Parts_isDoubleStar 51: ireturn
    exact s_ireturn rfl .boolean rfl rfl (hq false ⟨fun q => (by cases q), fun w => absurd w q⟩)
  refine s_aload_n 1 rfl rfl rfl ?_
  refine s_getfield 5 1 4 rfl rfl fl_Parts_20 h_this rfl ?_
  refine s_iload_n 5 rfl rfl rfl ?_
  refine s_iaload (p) 6 rfl rfl h_starts rfl (by omega) (by decide) ?_
  -- Parts_isDoubleStar 6: end
  rw [e1]
  refine s_ist2 7 rfl rfl rfl ?_
  refine s_aload_n 8 rfl rfl rfl ?_
  refine s_iload_n 9 rfl rfl rfl ?_
  refine c_callV1 (h+1) 12 rfl rfl mv_Parts_53 (by omega) (Nat.le_of_ble_eq_true rfl) (Nat.le_of_ble_eq_true rfl) h_this rfl rfl ?_
  -- Parts_isDoubleStar 12: call Parts_endOf
  refine m_Parts_endOf (h := h) hp' hk ?_
  dsimp only [ax_rs]
  refine s_iload_n 13 rfl rfl rfl ?_
  refine s_isub 14 rfl rfl ?_
  -- Parts_isDoubleStar 14: end
  rw [pk_sub (by omega)]
  refine s_iconst 2 15 rfl rfl (by decide) ?_
  refine s_icmp_ne 50 18 rfl rfl (by decide) (fun c1 => ?_) (fun c1 => ?_)
  -- Parts_isDoubleStar 18: branch 50 18
  · exact no (fun q => c1 (by rw [q.1]; rw [show z p + 3 - 1 - z p = 2 by omega]; rfl))
  · have c1 := nn_eq (b := 2) c1
    have b1 : bx_ n f (z p) = f (z p) &&& 255 := by unfold bx_; rw [if_pos (by omega)]
    have b2 : bx_ n f (z p + 1) = f (z p + 1) &&& 255 := by unfold bx_; rw [if_pos (by omega)]
    refine s_aload_n 19 rfl rfl rfl ?_
    refine s_getfield 5 0 22 rfl rfl fl_Parts_14 h_this rfl ?_
    refine s_iload_n 23 rfl rfl rfl ?_
    refine c_callV1 (h+1) 26 rfl rfl mv_Parts_28 (by omega) (Nat.le_of_ble_eq_true rfl) (Nat.le_of_ble_eq_true rfl) h_bytes rfl rfl ?_
    -- Parts_isDoubleStar 26: call Row_at
    refine m_Row_at h_bytes h_bb n24 (by decide) ?_
    dsimp only [ax_rs]
    rw [rw_at_in e2 (by omega), ← b1]
    refine s_bipush 42 28 rfl rfl (by decide) ?_
    refine s_icmp_ne 50 31 rfl rfl (by decide) (fun c2 => ?_) (fun c2 => ?_)
    -- Parts_isDoubleStar 31: branch 50 31
    · exact no (fun q => c2 q.2.1)
    · refine s_aload_n 32 rfl rfl rfl ?_
      refine s_getfield 5 0 35 rfl rfl fl_Parts_14 h_this rfl ?_
      refine s_iload_n 36 rfl rfl rfl ?_
      refine s_iconst 1 37 rfl rfl (by decide) ?_
      refine s_iadd 38 rfl rfl ?_
      -- Parts_isDoubleStar 38: end
      rw [nI_1]
      refine c_callV1 (h+1) 41 rfl rfl mv_Parts_28 (by omega) (Nat.le_of_ble_eq_true rfl) (Nat.le_of_ble_eq_true rfl) h_bytes rfl rfl ?_
      -- Parts_isDoubleStar 41: call Row_at
      refine m_Row_at h_bytes h_bb n24 (by decide) ?_
      dsimp only [ax_rs]
      rw [rw_at_in (by omega) (by omega), ← b2]
      refine s_bipush 42 43 rfl rfl (by decide) ?_
      refine s_icmp_ne 50 46 rfl rfl (by decide) (fun c3 => ?_) (fun c3 => ?_)
      -- Parts_isDoubleStar 46: branch 50 46
      · exact no (fun q => c3 q.2.2)
      · refine s_iconst 1 47 rfl rfl (by decide) ?_
        refine s_goto 51 rfl (by decide) ?_
        -- Parts_isDoubleStar 51: ireturn
        exact s_ireturn rfl .boolean rfl rfl (hq true ⟨fun _ => ⟨by omega, c2, c3⟩, fun _ => rfl⟩)
/-- the bits of a number are a set -/
def se_ (r : Int32) (p : Nat → Prop) : Prop := ∀ b, b < 32 → (bt r b = true ↔ p b)
theorem m_Parts_partFits {p o : Nat} (hp : pq_ M a n f k s z) (hk : p < k) (hp2 : pq_ M a2 n2 f2 k2 s2 z2) (hk2 : o < k2) (hq : ∀ r : Bool, (r = true ↔ pf_ (bx_ n f) (bx_ n2 f2) z z2 p o) → Q (some (.int (if r then 1 else 0))) M) : ax_G g mt_Parts_partFits (h + 2) 0 0 0 [.ref a, .int (nI p), .ref a2, .int (nI o), .float 0, .float 0, .float 0, .float 0, .float 0, .float 0, .float 0] [] M Q := by
  have hp' := hp
  have hp2' := hp2
  obtain ⟨⟨h_this, h_bytes, h_bb, h_starts, n24⟩, p1, p2, p3⟩ := hp
  obtain ⟨⟨i_this, i_bytes, i_bb, i_starts, i24⟩, r1, r2, r3⟩ := hp2
  rw [if_neg (by omega : ¬ n = 0)] at p2
  rw [if_neg (by omega : ¬ n2 = 0)] at r2
  obtain ⟨w1, w2, w3⟩ := p2.2.2 p hk
  obtain ⟨v1, v2, v3⟩ := r2.2.2 o hk2
  have hN := p2.mono (a := p + 1) (k - (p + 1)) (by omega)
  rw [show p + 1 + (k - (p + 1)) = k by omega, p2.2.1] at hN
  have hN2 := r2.mono (a := o + 1) (k2 - (o + 1)) (by omega)
  rw [show o + 1 + (k2 - (o + 1)) = k2 by omega, r2.2.1] at hN2
  obtain ⟨e1, e2⟩ := p1 p hk
  obtain ⟨d1, d2⟩ := r1 o hk2
  unfold pf_ at hq
  generalize hS : (fun i => bx_ n f (z p + i) = 42) = st at hq
  generalize hO : (fun i j => bx_ n2 f2 (z2 o + j) = bx_ n f (z p + i)) = ok at hq
  generalize hL : z2 (o + 1) - 1 - z2 o = L at hq
  generalize hT : z (p + 1) - 1 - z p = T at hq
  refine s_aload_n 1 rfl rfl rfl ?_
  refine s_getfield 5 1 4 rfl rfl fl_Parts_20 i_this rfl ?_
  refine s_iload_n 5 rfl rfl rfl ?_
  refine s_iaload (o) 6 rfl rfl i_starts rfl (by omega) (by decide) ?_
  -- Parts_partFits 6: end
  rw [d1]
  refine s_ist4 8 rfl rfl rfl ?_
  refine s_aload_n 9 rfl rfl rfl ?_
  refine s_iload_n 10 rfl rfl rfl ?_
  refine c_callV1 (h+1) 13 rfl rfl mv_Parts_53 (by omega) (Nat.le_of_ble_eq_true rfl) (Nat.le_of_ble_eq_true rfl) i_this rfl rfl ?_
  -- Parts_partFits 13: call Parts_endOf
  refine m_Parts_endOf (h := h) hp2' hk2 ?_
  dsimp only [ax_rs]
  refine s_iload 15 rfl rfl rfl ?_
  refine s_isub 16 rfl rfl ?_
  -- Parts_partFits 16: end
  rw [pk_sub (by omega), hL]
  refine s_ist5 18 rfl rfl rfl ?_
  refine s_iconst 1 19 rfl rfl (by decide) ?_
  refine s_ist6 21 rfl rfl rfl ?_
  refine s_aload_n 22 rfl rfl rfl ?_
  refine s_getfield 5 1 25 rfl rfl fl_Parts_20 h_this rfl ?_
  refine s_iload_n 26 rfl rfl rfl ?_
  refine s_iaload (p) 27 rfl rfl h_starts rfl (by omega) (by decide) ?_
  -- Parts_partFits 27: end
  rw [e1]
  refine s_ist7 29 rfl rfl rfl ?_
  -- Parts_partFits 29: end
  have loop : ∀ (d t : Nat) (x : Int32) (z8 z9 z10 : Value), z8.category = 1 → z9.category = 1 → z10.category = 1 → t + d = T → se_ x (fw_ st ok L t) → ax_G g mt_Parts_partFits (h + 2) 0 0 29 [.ref a, .int (nI p), .ref a2, .int (nI o), .int (nI (z2 o)), .int (nI L), .int x, .int (nI (z p + t)), z8, z9, z10] [] M Q := by
    intro d
    induction d with
    | zero =>
      intro t x z8 z9 z10 _ _ _ ht hx
      obtain rfl : t = T := by omega
      refine s_iload 31 rfl rfl rfl ?_
      refine s_aload_n 32 rfl rfl rfl ?_
      refine s_iload_n 33 rfl rfl rfl ?_
      refine c_callV1 (h+1) 36 rfl rfl mv_Parts_53 (by omega) (Nat.le_of_ble_eq_true rfl) (Nat.le_of_ble_eq_true rfl) h_this rfl rfl ?_
      -- Parts_partFits 36: call Parts_endOf
      refine m_Parts_endOf (h := h) hp' hk ?_
      dsimp only [ax_rs]
      refine s_icmp_ge 134 39 rfl rfl (by decide) (fun c1 => ?_) (fun c1 => ?_)
      -- Parts_partFits 39: branch 134 39
      · refine s_iload 136 rfl rfl rfl ?_
        refine s_iload 138 rfl rfl rfl ?_
        refine s_iushr 139 rfl rfl ?_
        refine s_iconst 1 140 rfl rfl (by decide) ?_
        refine s_iand 141 rfl rfl ?_
        -- Parts_partFits 141: end
        rw [b_tsu _ (by omega)]
        refine s_if_eq 148 144 rfl rfl (by decide) (fun c2 => ?_) (fun c2 => ?_)
        -- Parts_partFits 144: branch 148 144
        · rw [i01] at c2
          refine s_iconst 0 149 rfl rfl (by decide) ?_
          -- Parts_partFits 149: ireturn
          exact s_ireturn rfl .boolean rfl rfl (hq false ⟨fun q => (by cases q), fun q => by rw [(hx L (by omega)).mpr q] at c2; cases c2⟩)
        · rw [i01] at c2
          refine s_iconst 1 145 rfl rfl (by decide) ?_
          refine s_goto 149 rfl (by decide) ?_
          -- Parts_partFits 149: ireturn
          exact s_ireturn rfl .boolean rfl rfl (hq true ⟨fun _ => (hx L (by omega)).mp (by simpa using c2), fun _ => rfl⟩)
      · exact absurd (nn_nle c1) (by omega)
    | succ d ih =>
      intro t x z8 z9 z10 _ _ _ ht hx
      have bt_ : bx_ n f (z p + t) = f (z p + t) &&& 255 := by unfold bx_; rw [if_pos (by omega)]
      refine s_iload 31 rfl rfl rfl ?_
      refine s_aload_n 32 rfl rfl rfl ?_
      refine s_iload_n 33 rfl rfl rfl ?_
      refine c_callV1 (h+1) 36 rfl rfl mv_Parts_53 (by omega) (Nat.le_of_ble_eq_true rfl) (Nat.le_of_ble_eq_true rfl) h_this rfl rfl ?_
      -- Parts_partFits 36: call Parts_endOf
      refine m_Parts_endOf (h := h) hp' hk ?_
      dsimp only [ax_rs]
      refine s_icmp_ge 134 39 rfl rfl (by decide) (fun c3 => ?_) (fun c3 => ?_)
      -- Parts_partFits 39: branch 134 39
      · exact absurd (nn_le c3) (by omega)
      · skip
        refine s_aload_n 40 rfl rfl rfl ?_
        refine s_getfield 5 0 43 rfl rfl fl_Parts_14 h_this rfl ?_
        refine s_iload 45 rfl rfl rfl ?_
        refine c_callV1 (h+1) 48 rfl rfl mv_Parts_28 (by omega) (Nat.le_of_ble_eq_true rfl) (Nat.le_of_ble_eq_true rfl) h_bytes rfl rfl ?_
        -- Parts_partFits 48: call Row_at
        refine m_Row_at h_bytes h_bb n24 (by decide) ?_
        dsimp only [ax_rs]
        rw [rw_at_in (by omega) (by omega), ← bt_]
        refine s_ist8 50 rfl rfl rfl ?_
        refine s_iconst 0 51 rfl rfl (by decide) ?_
        refine s_ist9 53 rfl rfl rfl ?_
        refine s_iconst 0 54 rfl rfl (by decide) ?_
        refine s_ist10 56 rfl rfl rfl ?_
        -- Parts_partFits 56: end
        have inner : ∀ (d j : Nat) (y : Int32), j + d = L → se_ y (fun b => ∃ c, b = c + 1 ∧ c < j ∧ bt x c = true ∧ bx_ n2 f2 (z2 o + c) = bx_ n f (z p + t)) → ax_G g mt_Parts_partFits (h + 2) 0 0 56 [.ref a, .int (nI p), .ref a2, .int (nI o), .int (nI (z2 o)), .int (nI L), .int x, .int (nI (z p + t)), .int (bx_ n f (z p + t)), .int y, .int (nI j)] [] M Q := by
          intro d2
          induction d2 with
          | zero =>
            intro j y hj hy
            obtain rfl : j = L := by omega
            refine s_iload 58 rfl rfl rfl ?_
            refine s_iload 60 rfl rfl rfl ?_
            refine s_icmp_ge 107 63 rfl rfl (by decide) (fun c4 => ?_) (fun c4 => ?_)
            -- Parts_partFits 63: branch 107 63
            · refine s_iload 109 rfl rfl rfl ?_
              refine s_bipush 42 111 rfl rfl (by decide) ?_
              refine s_icmp_ne 124 114 rfl rfl (by decide) (fun c5 => ?_) (fun c5 => ?_)
              -- Parts_partFits 114: branch 124 114
              · have nst : ¬ st t := by rw [← hS]; exact c5
                refine s_iload 126 rfl rfl rfl ?_
                refine s_ist6 128 rfl rfl rfl ?_
                refine s_inc7 _ 131 rfl rfl rfl rfl ?_
                refine s_goto 29 rfl (by decide) ?_
                -- Parts_partFits 29: end
                rw [inc1, show z p + t + 1 = z p + (t + 1) by omega]
                refine ih (t + 1) y _ _ _ rfl rfl rfl (by omega) (fun b hb => ?_)
                rw [hy b hb, fw_]
                constructor
                · rintro ⟨c, q1, q2, q3, q4⟩
                  exact ⟨by omega, Or.inr ⟨nst, c, q1, (hx c (by omega)).mp q3, by rw [← hO]; exact q4⟩⟩
                · rintro ⟨q0, q | ⟨-, c, q1, q2, q3⟩⟩
                  · exact absurd q.1 nst
                  · rw [← hO] at q3
                    exact ⟨c, q1, by omega, (hx c (by omega)).mpr q2, q3⟩
              · have yst : st t := by rw [← hS]; exact c5
                refine s_iload 116 rfl rfl rfl ?_
                refine s_iload 118 rfl rfl rfl ?_
                refine c_callS2 (h+1) 121 rfl rfl mv_Parts_59 (by omega) (Nat.le_of_ble_eq_true rfl) (Nat.le_of_ble_eq_true rfl) ?_
                -- Parts_partFits 121: call Parts_fromLowest
                refine m_Parts_fromLowest (L := j) (by omega) (fun r hr => ?_)
                dsimp only [ax_rs]
                refine s_goto 126 rfl (by decide) ?_
                refine s_ist6 128 rfl rfl rfl ?_
                refine s_inc7 _ 131 rfl rfl rfl rfl ?_
                refine s_goto 29 rfl (by decide) ?_
                -- Parts_partFits 29: end
                rw [inc1, show z p + t + 1 = z p + (t + 1) by omega]
                refine ih (t + 1) r _ _ _ rfl rfl rfl (by omega) (fun b hb => ?_)
                rw [hr b hb, fw_]
                refine and_congr_right (fun _ => ⟨?_, ?_⟩)
                · rintro ⟨c, q1, q2⟩
                  exact Or.inl ⟨yst, c, q1, (hx c (by omega)).mp q2⟩
                · rintro (⟨-, c, q1, q2⟩ | q)
                  · exact ⟨c, q1, (hx c (by omega)).mpr q2⟩
                  · exact absurd yst q.1
            · exact absurd (nn_nle c4) (by omega)
          | succ d2 ih2 =>
            intro j y hj hy
            have b2 : bx_ n2 f2 (z2 o + j) = f2 (z2 o + j) &&& 255 := by unfold bx_; rw [if_pos (by omega)]
            have skip : ¬ (bt x j = true ∧ bx_ n2 f2 (z2 o + j) = bx_ n f (z p + t)) → ax_G g mt_Parts_partFits (h + 2) 0 0 101 [.ref a, .int (nI p), .ref a2, .int (nI o), .int (nI (z2 o)), .int (nI L), .int x, .int (nI (z p + t)), .int (bx_ n f (z p + t)), .int y, .int (nI j)] [] M Q := by
              intro q
              refine s_inc10 _ 104 rfl rfl rfl rfl ?_
              refine s_goto 56 rfl (by decide) ?_
              -- Parts_partFits 56: end
              rw [inc1]
              refine ih2 (j + 1) y (by omega) (fun b hb => ?_)
              rw [hy b hb]
              constructor
              · rintro ⟨c, q1, q2, q3⟩
                exact ⟨c, q1, by omega, q3⟩
              · rintro ⟨c, q1, q2, q3⟩
                by_cases w : c = j
                · subst w; exact absurd q3 q
                · exact ⟨c, q1, by omega, q3⟩
            refine s_iload 58 rfl rfl rfl ?_
            refine s_iload 60 rfl rfl rfl ?_
            refine s_icmp_ge 107 63 rfl rfl (by decide) (fun c6 => ?_) (fun c6 => ?_)
            -- Parts_partFits 63: branch 107 63
            · exact absurd (nn_le c6) (by omega)
            · refine s_iload 65 rfl rfl rfl ?_
              refine s_iload 67 rfl rfl rfl ?_
              refine s_iushr 68 rfl rfl ?_
              refine s_iconst 1 69 rfl rfl (by decide) ?_
              refine s_iand 70 rfl rfl ?_
              -- Parts_partFits 70: end
              rw [b_tsu _ (by omega)]
              refine s_if_eq 101 73 rfl rfl (by decide) (fun c7 => ?_) (fun c7 => ?_)
              -- Parts_partFits 73: branch 101 73
              · rw [i01] at c7
                exact skip (fun q => by rw [c7] at q; exact absurd q.1 (by decide))
              · rw [i01] at c7
                have c7 : bt x j = true := by simpa using c7
                refine s_aload_n 74 rfl rfl rfl ?_
                refine s_getfield 5 0 77 rfl rfl fl_Parts_14 i_this rfl ?_
                refine s_iload 79 rfl rfl rfl ?_
                refine s_iload 81 rfl rfl rfl ?_
                refine s_iadd 82 rfl rfl ?_
                -- Parts_partFits 82: end
                rw [nI_add]
                refine c_callV1 (h+1) 85 rfl rfl mv_Parts_28 (by omega) (Nat.le_of_ble_eq_true rfl) (Nat.le_of_ble_eq_true rfl) i_bytes rfl rfl ?_
                -- Parts_partFits 85: call Row_at
                refine m_Row_at i_bytes i_bb i24 (by decide) ?_
                dsimp only [ax_rs]
                rw [rw_at_in (by omega) (by omega), ← b2]
                refine s_iload 87 rfl rfl rfl ?_
                refine s_icmp_ne 101 90 rfl rfl (by decide) (fun c8 => ?_) (fun c8 => ?_)
                -- Parts_partFits 90: branch 101 90
                · exact skip (fun q => c8 q.2)
                · refine s_iload 92 rfl rfl rfl ?_
                  refine s_iconst 1 93 rfl rfl (by decide) ?_
                  refine s_iload 95 rfl rfl rfl ?_
                  refine s_iconst 1 96 rfl rfl (by decide) ?_
                  refine s_iadd 97 rfl rfl ?_
                  -- Parts_partFits 97: end
                  rw [nI_1]
                  refine s_ishl 98 rfl rfl ?_
                  refine s_ior 99 rfl rfl ?_
                  refine s_ist9 101 rfl rfl rfl ?_
                  refine s_inc10 _ 104 rfl rfl rfl rfl ?_
                  refine s_goto 56 rfl (by decide) ?_
                  -- Parts_partFits 56: end
                  rw [inc1]
                  refine ih2 (j + 1) _ (by omega) (fun b hb => ?_)
                  rw [b_or, b_one _ (by omega) hb, Bool.or_eq_true_iff, hy b hb, decide_eq_true_eq]
                  constructor
                  · rintro (⟨c, q1, q2, q3⟩ | q)
                    · exact ⟨c, q1, by omega, q3⟩
                    · exact ⟨j, q, by omega, c7, c8⟩
                  · rintro ⟨c, q1, q2, q3⟩
                    by_cases w : c = j
                    · subst w; exact Or.inr q1
                    · exact Or.inl ⟨c, q1, by omega, q3⟩
        exact inner L 0 0 (by omega) (fun b hb => by rw [b_0]; exact ⟨fun q => (by cases q), fun ⟨c, _, q, _⟩ => absurd q (Nat.not_lt_zero c)⟩)
  refine loop T 0 1 _ _ _ rfl rfl rfl (by omega) (fun b hb => ?_)
  rw [b_1 b hb, decide_eq_true_eq, fw_]
theorem m_Parts_stepped {p : Nat} {x : Int32} (hp : pq_ M a n f k s z) (hk : p < k) (hp2 : pq_ M a2 n2 f2 k2 s2 z2) (hq : ∀ y, se_ y (fun b => ∃ c, b = c + 1 ∧ c < k2 ∧ bt x c = true ∧ pf_ (bx_ n f) (bx_ n2 f2) z z2 p c) → Q (some (.int y)) M) : ax_G g mt_Parts_stepped (h + 3) 0 0 0 [.ref a, .int x, .int (nI p), .ref a2, .float 0, .float 0] [] M Q := by
  have hp2' := hp2
  have h_this := hp.1.1
  obtain ⟨⟨i_this, i_bytes, i_bb, i_starts, i24⟩, r1, r2, r3⟩ := hp2
  refine s_iconst 0 1 rfl rfl (by decide) ?_
  refine s_ist4 3 rfl rfl rfl ?_
  refine s_iconst 0 4 rfl rfl (by decide) ?_
  refine s_ist5 6 rfl rfl rfl ?_
  -- Parts_stepped 6: end
  have loop : ∀ (d j : Nat) (y : Int32), j + d = k2 → se_ y (fun b => ∃ c, b = c + 1 ∧ c < j ∧ bt x c = true ∧ pf_ (bx_ n f) (bx_ n2 f2) z z2 p c) → ax_G g mt_Parts_stepped (h + 3) 0 0 6 [.ref a, .int x, .int (nI p), .ref a2, .int y, .int (nI j)] [] M Q := by
    intro d
    induction d with
    | zero =>
      intro j y hj hy
      obtain rfl : j = k2 := by omega
      refine s_iload 8 rfl rfl rfl ?_
      refine s_aload_n 9 rfl rfl rfl ?_
      refine s_getfield 5 2 12 rfl rfl fl_Parts_49 i_this rfl ?_
      refine s_icmp_ge 52 15 rfl rfl (by decide) (fun c1 => ?_) (fun c1 => ?_)
      -- Parts_stepped 15: branch 52 15
      · refine s_iload 54 rfl rfl rfl ?_
        -- Parts_stepped 54: ireturn
        exact s_ireturn rfl .int rfl rfl (hq y hy)
      · exact absurd (nn_nle c1) (by omega)
    | succ d ih =>
      intro j y hj hy
      have skip : ¬ (bt x j = true ∧ pf_ (bx_ n f) (bx_ n2 f2) z z2 p j) → ax_G g mt_Parts_stepped (h + 3) 0 0 46 [.ref a, .int x, .int (nI p), .ref a2, .int y, .int (nI j)] [] M Q := by
        intro q
        refine s_inc5 _ 49 rfl rfl rfl rfl ?_
        refine s_goto 6 rfl (by decide) ?_
        -- Parts_stepped 6: end
        rw [inc1]
        refine ih (j + 1) y (by omega) (fun b hb => ?_)
        rw [hy b hb]
        constructor
        · rintro ⟨c, q1, q2, q3⟩
          exact ⟨c, q1, by omega, q3⟩
        · rintro ⟨c, q1, q2, q3⟩
          by_cases w : c = j
          · subst w; exact absurd q3 q
          · exact ⟨c, q1, by omega, q3⟩
      refine s_iload 8 rfl rfl rfl ?_
      refine s_aload_n 9 rfl rfl rfl ?_
      refine s_getfield 5 2 12 rfl rfl fl_Parts_49 i_this rfl ?_
      refine s_icmp_ge 52 15 rfl rfl (by decide) (fun c2 => ?_) (fun c2 => ?_)
      -- Parts_stepped 15: branch 52 15
      · exact absurd (nn_le c2) (by omega)
      · refine s_iload_n 16 rfl rfl rfl ?_
        refine s_iload 18 rfl rfl rfl ?_
        refine s_iushr 19 rfl rfl ?_
        refine s_iconst 1 20 rfl rfl (by decide) ?_
        refine s_iand 21 rfl rfl ?_
        -- Parts_stepped 21: end
        rw [b_tsu _ (by omega)]
        refine s_if_eq 46 24 rfl rfl (by decide) (fun c3 => ?_) (fun c3 => ?_)
        -- Parts_stepped 24: branch 46 24
        · rw [i01] at c3
          exact skip (fun q => by rw [c3] at q; exact absurd q.1 (by decide))
        · rw [i01] at c3
          have c3 : bt x j = true := by simpa using c3
          refine s_aload_n 25 rfl rfl rfl ?_
          refine s_iload_n 26 rfl rfl rfl ?_
          refine s_aload_n 27 rfl rfl rfl ?_
          refine s_iload 29 rfl rfl rfl ?_
          refine c_callV3 (h+2) 32 rfl rfl mv_Parts_67 (by omega) (Nat.le_of_ble_eq_true rfl) (Nat.le_of_ble_eq_true rfl) h_this rfl rfl ?_
          -- Parts_stepped 32: call Parts_partFits
          refine m_Parts_partFits (h := h) hp hk hp2' (by omega) (fun r hr => ?_)
          dsimp only [ax_rs]
          refine s_if_eq 46 35 rfl rfl (by decide) (fun c4 => ?_) (fun c4 => ?_)
          -- Parts_stepped 35: branch 46 35
          · rw [i01] at c4
            exact skip (fun q => by rw [hr.mpr q.2] at c4; cases c4)
          · rw [i01] at c4
            refine s_iload 37 rfl rfl rfl ?_
            refine s_iconst 1 38 rfl rfl (by decide) ?_
            refine s_iload 40 rfl rfl rfl ?_
            refine s_iconst 1 41 rfl rfl (by decide) ?_
            refine s_iadd 42 rfl rfl ?_
            -- Parts_stepped 42: end
            rw [nI_1]
            refine s_ishl 43 rfl rfl ?_
            refine s_ior 44 rfl rfl ?_
            refine s_ist4 46 rfl rfl rfl ?_
            refine s_inc5 _ 49 rfl rfl rfl rfl ?_
            refine s_goto 6 rfl (by decide) ?_
            -- Parts_stepped 6: end
            rw [inc1]
            refine ih (j + 1) _ (by omega) (fun b hb => ?_)
            rw [b_or, b_one _ (by omega) hb, Bool.or_eq_true_iff, hy b hb, decide_eq_true_eq]
            constructor
            · rintro (⟨c, q1, q2, q3⟩ | q)
              · exact ⟨c, q1, by omega, q3⟩
              · exact ⟨j, q, by omega, c3, hr.mp (by simpa using c4)⟩
            · rintro ⟨c, q1, q2, q3⟩
              by_cases w : c = j
              · subst w; exact Or.inr q1
              · exact Or.inl ⟨c, q1, by omega, q3⟩
  exact loop k2 0 0 (by omega) (fun b hb => by rw [b_0]; exact ⟨fun q => (by cases q), fun ⟨c, _, q, _⟩ => absurd q (Nat.not_lt_zero c)⟩)
theorem m_Parts_fits (hp : pq_ M a n f k s z) (hp2 : pq_ M a2 n2 f2 k2 s2 z2) (hq : ∀ r : Bool, (r = true ↔ fw_ (ds_ (bx_ n f) z) (pf_ (bx_ n f) (bx_ n2 f2) z z2) k2 k k2) → Q (some (.int (if r then 1 else 0))) M) : ax_G g mt_Parts_fits (h + 4) 0 0 0 [.ref a, .ref a2, .float 0, .float 0] [] M Q := by
  have hp' := hp
  have hp2' := hp2
  obtain ⟨⟨h_this, h_bytes, h_bb, h_starts, n24⟩, p1, p2, p3⟩ := hp
  obtain ⟨⟨i_this, i_bytes, i_bb, i_starts, i24⟩, r1, r2, r3⟩ := hp2
  generalize hS : ds_ (bx_ n f) z = st at hq
  generalize hO : pf_ (bx_ n f) (bx_ n2 f2) z z2 = ok at hq
  refine s_iconst 1 1 rfl rfl (by decide) ?_
  refine s_ist2 2 rfl rfl rfl ?_
  refine s_iconst 0 3 rfl rfl (by decide) ?_
  refine s_ist3 4 rfl rfl rfl ?_
  -- Parts_fits 4: end
  have loop : ∀ (d t : Nat) (x : Int32), t + d = k → se_ x (fw_ st ok k2 t) → ax_G g mt_Parts_fits (h + 4) 0 0 4 [.ref a, .ref a2, .int x, .int (nI t)] [] M Q := by
    intro d
    induction d with
    | zero =>
      intro t x ht hx
      obtain rfl : t = k := by omega
      refine s_iload_n 5 rfl rfl rfl ?_
      refine s_aload_n 6 rfl rfl rfl ?_
      refine s_getfield 5 2 9 rfl rfl fl_Parts_49 h_this rfl ?_
      refine s_icmp_ge 45 12 rfl rfl (by decide) (fun c1 => ?_) (fun c1 => ?_)
      -- Parts_fits 12: branch 45 12
      · refine s_iload_n 46 rfl rfl rfl ?_
        refine s_aload_n 47 rfl rfl rfl ?_
        refine s_getfield 5 2 50 rfl rfl fl_Parts_49 i_this rfl ?_
        refine s_iushr 51 rfl rfl ?_
        refine s_iconst 1 52 rfl rfl (by decide) ?_
        refine s_iand 53 rfl rfl ?_
        -- Parts_fits 53: end
        rw [b_tsu _ (by omega)]
        refine s_if_eq 60 56 rfl rfl (by decide) (fun c2 => ?_) (fun c2 => ?_)
        -- Parts_fits 56: branch 60 56
        · rw [i01] at c2
          refine s_iconst 0 61 rfl rfl (by decide) ?_
          -- Parts_fits 61: ireturn
          exact s_ireturn rfl .boolean rfl rfl (hq false ⟨fun q => (by cases q), fun q => by rw [(hx k2 (by omega)).mpr q] at c2; cases c2⟩)
        · rw [i01] at c2
          refine s_iconst 1 57 rfl rfl (by decide) ?_
          refine s_goto 61 rfl (by decide) ?_
          -- Parts_fits 61: ireturn
          exact s_ireturn rfl .boolean rfl rfl (hq true ⟨fun _ => (hx k2 (by omega)).mp (by simpa using c2), fun _ => rfl⟩)
      · exact absurd (nn_nle c1) (by omega)
    | succ d ih =>
      intro t x ht hx
      refine s_iload_n 5 rfl rfl rfl ?_
      refine s_aload_n 6 rfl rfl rfl ?_
      refine s_getfield 5 2 9 rfl rfl fl_Parts_49 h_this rfl ?_
      refine s_icmp_ge 45 12 rfl rfl (by decide) (fun c3 => ?_) (fun c3 => ?_)
      -- Parts_fits 12: branch 45 12
      · exact absurd (nn_le c3) (by omega)
      · refine s_aload_n 13 rfl rfl rfl ?_
        refine s_iload_n 14 rfl rfl rfl ?_
        refine c_callV1 (h+3) 17 rfl rfl mv_Parts_56 (by omega) (Nat.le_of_ble_eq_true rfl) (Nat.le_of_ble_eq_true rfl) h_this rfl rfl ?_
        -- Parts_fits 17: call Parts_isDoubleStar
        refine m_Parts_isDoubleStar (h := h + 1) hp' (by omega) (fun r hr => ?_)
        dsimp only [ax_rs]
        rw [hS] at hr
        refine s_if_eq 31 20 rfl rfl (by decide) (fun c4 => ?_) (fun c4 => ?_)
        -- Parts_fits 20: branch 31 20
        · rw [i01] at c4
          have nst : ¬ st t := fun q => by rw [hr.mpr q] at c4; cases c4
          refine s_aload_n 32 rfl rfl rfl ?_
          refine s_iload_n 33 rfl rfl rfl ?_
          refine s_iload_n 34 rfl rfl rfl ?_
          refine s_aload_n 35 rfl rfl rfl ?_
          refine c_callV3 (h+3) 38 rfl rfl mv_Parts_63 (by omega) (Nat.le_of_ble_eq_true rfl) (Nat.le_of_ble_eq_true rfl) h_this rfl rfl ?_
          -- Parts_fits 38: call Parts_stepped
          refine m_Parts_stepped (h := h) hp' (by omega) hp2' (fun y hy => ?_)
          dsimp only [ax_rs]
          refine s_ist2 39 rfl rfl rfl ?_
          refine s_inc3 _ 42 rfl rfl rfl rfl ?_
          refine s_goto 4 rfl (by decide) ?_
          -- Parts_fits 4: end
          rw [inc1]
          refine ih (t + 1) y (by omega) (fun b hb => ?_)
          rw [hy b hb, fw_]
          rw [hO]
          constructor
          · rintro ⟨c, q1, q2, q3, q4⟩
            exact ⟨by omega, Or.inr ⟨nst, c, q1, (hx c (by omega)).mp q3, q4⟩⟩
          · rintro ⟨q0, q | ⟨-, c, q1, q2, q3⟩⟩
            · exact absurd q.1 nst
            · exact ⟨c, q1, by omega, (hx c (by omega)).mpr q2, q3⟩
        · rw [i01] at c4
          have yst : st t := hr.mp (by simpa using c4)
          refine s_iload_n 21 rfl rfl rfl ?_
          refine s_aload_n 22 rfl rfl rfl ?_
          refine s_getfield 5 2 25 rfl rfl fl_Parts_49 i_this rfl ?_
          refine c_callS2 (h+3) 28 rfl rfl mv_Parts_59 (by omega) (Nat.le_of_ble_eq_true rfl) (Nat.le_of_ble_eq_true rfl) ?_
          -- Parts_fits 28: call Parts_fromLowest
          refine m_Parts_fromLowest (L := k2) (by omega) (fun r hr => ?_)
          dsimp only [ax_rs]
          refine s_goto 38 rfl (by decide) ?_
          refine s_ist2 39 rfl rfl rfl ?_
          refine s_inc3 _ 42 rfl rfl rfl rfl ?_
          refine s_goto 4 rfl (by decide) ?_
          -- Parts_fits 4: end
          rw [inc1]
          refine ih (t + 1) r (by omega) (fun b hb => ?_)
          rw [hr b hb, fw_]
          refine and_congr_right (fun _ => ⟨?_, ?_⟩)
          · rintro ⟨c, q1, q2⟩
            exact Or.inl ⟨yst, c, q1, (hx c (by omega)).mp q2⟩
          · rintro (⟨-, c, q1, q2⟩ | q)
            · exact ⟨c, q1, (hx c (by omega)).mpr q2⟩
            · exact absurd yst q.1
  refine loop k 0 1 (by omega) (fun b hb => ?_)
  rw [b_1 b hb, decide_eq_true_eq, fw_]
end FITS
