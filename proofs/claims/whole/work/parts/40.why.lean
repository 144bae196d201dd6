/-! the i-th member of a set; why -/
/-- r is the x-th place below n with p (x = -1: how many; else -2) -/
def isN (p : Nat → Bool) (n : Nat) (x r : Int32) : Prop := (x = -1 ∧ r = nI (cnt p n)) ∨ (∃ b, b < n ∧ p b = true ∧ x = nI (cnt p b) ∧ r = nI b) ∨ (x ≠ -1 ∧ (∀ b, b < n → p b = true → x ≠ nI (cnt p b)) ∧ r = -2)
theorem cnt_s {p : Nat → Bool} {b c : Nat} (h : b < c) (hp : p b = true) : cnt p b < cnt p c := by
  induction c with
  | zero => omega
  | succ c ih =>
    rw [cnt]
    by_cases e : b = c
    · subst e
      rw [if_pos hp]
      omega
    · have := ih (by omega)
      omega
theorem cnt_ge {p : Nat → Bool} {b c : Nat} (h : b ≤ c) : cnt p b ≤ cnt p c := by
  induction c with
  | zero => obtain rfl : b = 0 := by omega
            exact Nat.le_refl _
  | succ c ih =>
    rw [cnt]
    by_cases e : b = c + 1
    · subst e
      rw [cnt]
      omega
    · have := ih (by omega)
      omega
theorem cnt_x {p q : Nat → Bool} {n m : Nat} (hnm : n ≤ m) (h1 : ∀ b, b < n → p b = q b) (h2 : ∀ b, n ≤ b → b < m → q b = false) : cnt q m = cnt p n := by
  induction m with
  | zero =>
    obtain rfl : n = 0 := by omega
    rfl
  | succ m ih =>
    by_cases e : n = m + 1
    · subst e
      exact cnt_cg (fun i hi => (h1 i hi).symm)
    · rw [cnt, h2 m (by omega) (by omega), ih (by omega) (fun b a c => h2 b a (by omega))]
      rfl
theorem isN_u {p q : Nat → Bool} {n m : Nat} {x r s : Int32} (hnm : n ≤ m) (hm : m < 65536) (h1 : ∀ b, b < n → p b = q b) (h2 : ∀ b, n ≤ b → b < m → q b = false) (hr : isN p n x r) (hs : isN q m x s) : r = s := by
  have e := cnt_x hnm h1 h2
  have eb : ∀ b, b ≤ n → cnt p b = cnt q b := fun b hb => cnt_cg (fun i hi => h1 i (by omega))
  have big : ∀ b, b ≤ m → cnt q b < 65536 := fun b hb => Nat.lt_of_le_of_lt (cnt_le q b) (by omega)
  rcases hr with ⟨a1, a2⟩ | ⟨b, a1, a2, a3, a4⟩ | ⟨a1, a2, a3⟩
  · rcases hs with ⟨d1, d2⟩ | ⟨c, d1, d2, d3, d4⟩ | ⟨d1, d2, d3⟩
    · rw [a2, d2, e]
    · exact absurd (d3.symm.trans a1) (nn_m1 (by have := big c (by omega); omega))
    · exact absurd a1 d1
  · have hb := big b (by omega)
    rw [eb b (by omega)] at a3
    rw [h1 b a1] at a2
    rcases hs with ⟨d1, d2⟩ | ⟨c, d1, d2, d3, d4⟩ | ⟨d1, d2, d3⟩
    · exact absurd (a3.symm.trans d1) (nn_m1 (by omega))
    · have hc := big c (by omega)
      have q1 := nn_eq (a3.symm.trans d3)
      rcases Nat.lt_trichotomy b c with z | z | z
      · have := cnt_s z a2
        omega
      · rw [a4, d4, z]
      · have := cnt_s z d2
        omega
    · exact absurd a3 (d2 b (by omega) a2)
  · rcases hs with ⟨d1, d2⟩ | ⟨c, d1, d2, d3, d4⟩ | ⟨d1, d2, d3⟩
    · exact absurd d1 a1
    · rcases Nat.lt_or_ge c n with z | z
      · rw [← eb c (by omega)] at d3
        exact absurd d3 (a2 c z (by rw [h1 c z]; exact d2))
      · rw [h2 c z d1] at d2
        cases d2
    · rw [a3, d3]
theorem l_i2l (x : Int32) {i : Nat} (hi : i < 64) : lb x.toInt64 i = if i < 32 then bt x i else bt x 31 := by
  show x.toInt64.toBitVec.getLsbD i = _
  rw [Int32.toBitVec_toInt64, BitVec.getLsbD_signExtend, BitVec.msb_eq_getLsbD_last]
  simp [hi]
  rfl
section WHY
variable {g : ax_Y} {M : ax_M} {Q : Option Value → ax_M → Prop} {h ru : Nat} {n bl ln dr pv si pa cm os gm tk pl bh : Int32} {va : Int64} {iw od : Int32} {rs rh wa : Nat → Int32} {dw nw al : Nat} {gc : Int32}
theorem m_Top_member {w : Int64} {x : Int32} (hq : ∀ r, isN (lb w) 64 x r → Q (some (.int r)) M) : ax_G g mt_Top_member (h + 1) 0 0 0 [.long w, .float 0, .int x, .float 0, .float 0, .float 0] [] M Q := by
  have b64 := cnt_le (lb w) 64
  refine s_lload_n 1 rfl rfl rfl ?_
  refine c_callS1 h 4 rfl rfl mv_Top_308 (by omega) (Nat.le_of_ble_eq_true rfl) (Nat.le_of_ble_eq_true rfl) ?_
  -- Top_member 4: call Long_bitCount
  refine m_Long_bitCount ?_
  dsimp only [ax_rs]
  refine s_ist3 5 rfl rfl rfl ?_
  refine s_iload_n 6 rfl rfl rfl ?_
  refine s_iconst (-1) 7 rfl rfl (by decide) ?_
  refine s_icmp_ne 12 10 rfl rfl (by decide) (fun c1 => ?_) (fun c1 => ?_)
  -- Top_member 10: branch 12 10
  · refine s_iload_n 13 rfl rfl rfl ?_
    refine s_if_lt 21 16 rfl rfl (by decide) (fun c2 => ?_) (fun c2 => ?_)
    -- Top_member 16: branch 21 16
    · refine s_bipush (-2) 23 rfl rfl (by decide) ?_
      -- Top_member 23: ireturn
      exact s_ireturn rfl .int rfl rfl (hq _ (Or.inr (Or.inr ⟨c1, fun b hb _ e => nI_pos (by have := cnt_le (lb w) b; omega) (e ▸ c2), rfl⟩)))
    · obtain ⟨i, hi, rfl⟩ := nI_of c2
      refine s_iload_n 17 rfl rfl rfl ?_
      refine s_iload_n 18 rfl rfl rfl ?_
      refine s_icmp_lt 24 21 rfl rfl (by decide) (fun c3 => ?_) (fun c3 => ?_)
      -- Top_member 21: branch 24 21
      · have hic := nn_lt c3
        refine s_iload_n 25 rfl rfl rfl ?_
        refine s_ist4 27 rfl rfl rfl ?_
        refine s_iconst 0 28 rfl rfl (by decide) ?_
        refine s_ist5 30 rfl rfl rfl ?_
        -- Top_member 30: end
        have loop : ∀ (d b : Nat), b + d = 64 → cnt (lb w) b ≤ i → ax_G g mt_Top_member (h + 1) 0 0 30 [.long w, .float 0, .int (nI i), .int (nI (cnt (lb w) 64)), .int (nI (i - cnt (lb w) b)), .int (nI b)] [] M Q := by
          intro d
          induction d with
          | zero =>
            intro b hb hc
            obtain rfl : b = 64 := by omega
            omega
          | succ d ih =>
            intro b hb hc
            have nx := ih (b + 1) (by omega)
            rw [cnt] at nx
            refine s_iload 32 rfl rfl rfl ?_
            refine s_bipush 64 34 rfl rfl (by decide) ?_
            refine s_icmp_ge 65 37 rfl rfl (by decide) (fun c4 => ?_) (fun c4 => ?_)
            -- Top_member 37: branch 65 37
            · exact absurd (nn_le (a := 64) c4) (by omega)
            · refine s_lload_n 38 rfl rfl rfl ?_
              refine s_iload 40 rfl rfl rfl ?_
              refine s_lushr 41 rfl rfl ?_
              refine s_lconst 1 42 rfl rfl (by decide) ?_
              refine s_land 43 rfl rfl ?_
              -- Top_member 43: end
              rw [l_tsu w (by omega)]
              refine s_lconst 0 44 rfl rfl (by decide) ?_
              refine s_lcmp 45 rfl rfl ?_
              -- Top_member 45: end
              rw [l_c0]
              refine s_if_eq 59 48 rfl rfl (by decide) (fun c5 => ?_) (fun c5 => ?_)
              -- Top_member 48: branch 59 48
              · rw [i01] at c5
                rw [if_neg (by simp [c5])] at nx
                refine s_inc5 _ 62 rfl rfl rfl rfl ?_
                refine s_goto 30 rfl (by decide) ?_
                -- Top_member 30: end
                rw [inc1]
                exact nx (by omega)
              · rw [i01] at c5
                have c5 : lb w b = true := by simpa using c5
                rw [if_pos c5] at nx
                refine s_iload 50 rfl rfl rfl ?_
                refine s_if_ne 56 53 rfl rfl (by decide) (fun c6 => ?_) (fun c6 => ?_)
                -- Top_member 53: branch 56 53
                · have hne : ¬ i - cnt (lb w) b = 0 := fun q => c6 (by rw [q]; rfl)
                  refine s_inc4 _ 59 rfl rfl rfl rfl ?_
                  refine s_inc5 _ 62 rfl rfl rfl rfl ?_
                  refine s_goto 30 rfl (by decide) ?_
                  -- Top_member 30: end
                  rw [inc1, dec1, show i - cnt (lb w) b = (i - (cnt (lb w) b + 1)) + 1 by omega, nI_pred]
                  exact nx (by omega)
                · have hne : i - cnt (lb w) b = 0 := nn_eq (b := 0) c6
                  refine s_iload 55 rfl rfl rfl ?_
                  -- Top_member 55: ireturn
                  exact s_ireturn rfl .int rfl rfl (hq _ (Or.inr (Or.inl ⟨b, by omega, c5, by rw [show cnt (lb w) b = i by omega], rfl⟩)))
        exact loop 64 0 (by omega) (by simp [cnt])
      · have hic := nn_nlt c3
        refine s_bipush (-2) 23 rfl rfl (by decide) ?_
        -- Top_member 23: ireturn
        exact s_ireturn rfl .int rfl rfl (hq _ (Or.inr (Or.inr ⟨c1, fun b hb hp e => by have := cnt_s hb hp; have := nn_eq e; omega, rfl⟩)))
  · refine s_iload_n 11 rfl rfl rfl ?_
    -- Top_member 11: ireturn
    exact s_ireturn rfl .int rfl rfl (hq _ (Or.inl ⟨c1, rfl⟩))
theorem c_why {x y : Int32} (h_this : oC M 0 11 (tp_f dw nw bl pa)) (h_facts : oC M 16 1 (fa_f gc (nI ru) pv)) (h_ruleSet : iA M 19 20 rs) (h_ruleHead : iA M 20 20 rh) (hn : ru ≤ 20) (h_alarms : oC M 9 0 (al_f al)) (h_wants : iA M 12 50 wa) (hal : al ≤ 50) (h1 : (x < 0 ∨ nI al ≤ x) → Q (some (.int (-2))) M) (h2 : ∀ a, a < al → x = nI a → ∀ r, isN (lb (wa a &&& (kw_ (ap_ rs rh ru) 16 pv ^^^ -1)).toInt64) 64 y r → Q (some (.int r)) M) : ax_G g mt_Top_why (h + 2) 0 0 0 [.ref 0, .int x, .int y] [] M Q := by
  refine s_aload_n 1 rfl rfl rfl ?_
  refine s_getfield 11 3 4 rfl rfl fl_Top_31 h_this rfl ?_
  refine s_iload_n 5 rfl rfl rfl ?_
  refine c_callV1 (h+1) 8 rfl rfl mv_Top_152 (by omega) (Nat.le_of_ble_eq_true rfl) (Nat.le_of_ble_eq_true rfl) h_alarms rfl rfl ?_
  -- Top_why 8: call Alarms_has
  refine m_Alarms_has h_alarms ?_
  dsimp only [ax_rs]
  rcases in_or (x := x) (n := al) (by omega) with ⟨a, ha, rfl⟩ | c
  · rw [bi_t (in_bi ha (by omega) rfl)]
    have h2 := h2 a ha rfl
    refine s_if_ne 14 11 rfl rfl (by decide) (fun c1 => ?_) (fun c1 => ?_)
    -- Top_why 11: branch 14 11
    · refine s_aload_n 15 rfl rfl rfl ?_
      refine s_getfield 11 3 18 rfl rfl fl_Top_31 h_this rfl ?_
      refine s_getfield 0 2 21 rfl rfl fl_Top_159 h_alarms rfl ?_
      refine s_iload_n 22 rfl rfl rfl ?_
      refine s_iaload (a) 23 rfl rfl h_wants rfl (by omega) (by decide) ?_
      refine s_aload_n 24 rfl rfl rfl ?_
      refine s_getfield 11 4 27 rfl rfl fl_Top_38 h_this rfl ?_
      refine s_iconst 0 28 rfl rfl (by decide) ?_
      refine c_callV1 (h+1) 31 rfl rfl mv_Top_165 (by omega) (Nat.le_of_ble_eq_true rfl) (Nat.le_of_ble_eq_true rfl) h_facts rfl rfl ?_
      -- Top_why 31: call Facts_knownWith
      refine m_Facts_knownWith h_facts h_ruleSet h_ruleHead hn ?_
      dsimp only [ax_rs]
      rw [or0]
      refine s_iconst (-1) 32 rfl rfl (by decide) ?_
      refine s_ixor 33 rfl rfl ?_
      refine s_iand 34 rfl rfl ?_
      refine s_i2l 35 rfl rfl ?_
      refine s_iload_n 36 rfl rfl rfl ?_
      refine c_callS2 (h+1) 39 rfl rfl mv_Top_191 (by omega) (Nat.le_of_ble_eq_true rfl) (Nat.le_of_ble_eq_true rfl) ?_
      -- Top_why 39: call Top_member
      refine m_Top_member (fun r hr => ?_)
      dsimp only [ax_rs]
      exact s_ireturn rfl .int rfl rfl (h2 r hr)
    · exact absurd c1 (by decide)
  · rw [bi_f (in_no c)]
    refine s_if_ne 14 11 rfl rfl (by decide) (fun c2 => ?_) (fun c2 => ?_)
    -- Top_why 11: branch 14 11
    · exact absurd rfl c2
    · refine s_bipush (-2) 13 rfl rfl (by decide) ?_
      -- Top_why 13: ireturn
      exact s_ireturn rfl .int rfl rfl (h1 c)
theorem d_why {x y : Int32} (h_this : oC M 143 12 (md_f n bl ln dr (nI al) (nI ru) pv si pa cm os gm tk pl bh va iw od)) (h_ruleSet : iA M 162 20 rs) (h_ruleHead : iA M 163 20 rh) (hn : ru ≤ 20) (h_wants : iA M 157 50 wa) (hal : al ≤ 50) (h1 : (x < 0 ∨ nI al ≤ x) → Q (some (.int (-2))) M) (h2 : ∀ a, a < al → x = nI a → ∀ r, isN (bt (wa a &&& (kw_ (ap_ rs (fun i => (1 : Int32) <<< (rh i &&& 31)) ru) 33 pv ^^^ -1))) 16 y r → Q (some (.int r)) M) : ax_G g mt_Mod_why (h + 2) 0 0 0 [.ref 143, .int x, .int y, .float 0, .float 0, .float 0] [] M Q := by
  refine s_aload_n 1 rfl rfl rfl ?_
  refine s_iload_n 2 rfl rfl rfl ?_
  refine c_callV1 (h+1) 5 rfl rfl mv_Mod_178 (by omega) (Nat.le_of_ble_eq_true rfl) (Nat.le_of_ble_eq_true rfl) h_this rfl rfl ?_
  -- Mod_why 5: call Mod_isAlarm
  refine m_Mod_isAlarm h_this ?_
  dsimp only [ax_rs]
  rcases in_or (x := x) (n := al) (by omega) with ⟨a, ha, rfl⟩ | c
  · rw [bi_t (in_le ha (by omega) rfl)]
    have h2 := h2 a ha rfl
    refine s_if_eq 13 8 rfl rfl (by decide) (fun c1 => ?_) (fun c1 => ?_)
    -- Mod_why 8: branch 13 8
    · exact absurd c1 (by decide)
    · refine s_iload_n 9 rfl rfl rfl ?_
      refine s_iconst (-1) 10 rfl rfl (by decide) ?_
      refine s_icmp_ge 16 13 rfl rfl (by decide) (fun c2 => ?_) (fun c2 => ?_)
      -- Mod_why 13: branch 16 13
      · refine s_aload_n 17 rfl rfl rfl ?_
        refine s_getfield 12 18 20 rfl rfl fl_Mod_49 h_this rfl ?_
        refine s_iload_n 21 rfl rfl rfl ?_
        refine s_iaload (a) 22 rfl rfl h_wants rfl (by omega) (by decide) ?_
        refine s_aload_n 23 rfl rfl rfl ?_
        refine s_aload_n 24 rfl rfl rfl ?_
        refine s_getfield 12 26 27 rfl rfl fl_Mod_182 h_this rfl ?_
        refine c_callV1 (h+1) 30 rfl rfl mv_Mod_185 (by omega) (Nat.le_of_ble_eq_true rfl) (Nat.le_of_ble_eq_true rfl) h_this rfl rfl ?_
        -- Mod_why 30: call Mod_knownBy
        refine m_Mod_knownBy h_this h_ruleSet h_ruleHead hn ?_
        dsimp only [ax_rs]
        refine s_iconst (-1) 31 rfl rfl (by decide) ?_
        refine s_ixor 32 rfl rfl ?_
        refine s_iand 33 rfl rfl ?_
        -- Mod_why 33: end
        generalize wa a &&& (kw_ (ap_ rs (fun i => (1 : Int32) <<< (rh i &&& 31)) ru) 33 pv ^^^ -1) = w at h2 ⊢
        refine s_ist3 34 rfl rfl rfl ?_
        refine s_iconst 0 35 rfl rfl (by decide) ?_
        refine s_ist4 37 rfl rfl rfl ?_
        refine s_iconst 0 38 rfl rfl (by decide) ?_
        refine s_ist5 40 rfl rfl rfl ?_
        -- Mod_why 40: end
        have loop : ∀ (d b : Nat), b + d = 16 → (∀ c, c < b → bt w c = true → y ≠ nI (cnt (bt w) c)) → ax_G g mt_Mod_why (h + 2) 0 0 40 [.ref 143, .int (nI a), .int y, .int w, .int (nI (cnt (bt w) b)), .int (nI b)] [] M Q := by
          intro d
          induction d with
          | zero =>
            intro b hb hc
            obtain rfl : b = 16 := by omega
            refine s_iload 42 rfl rfl rfl ?_
            refine s_bipush 16 44 rfl rfl (by decide) ?_
            refine s_icmp_ge 75 47 rfl rfl (by decide) (fun c3 => ?_) (fun c3 => ?_)
            -- Mod_why 47: branch 75 47
            · refine s_iload_n 76 rfl rfl rfl ?_
              refine s_iconst (-1) 77 rfl rfl (by decide) ?_
              refine s_icmp_ne 85 80 rfl rfl (by decide) (fun c4 => ?_) (fun c4 => ?_)
              -- Mod_why 80: branch 85 80
              · refine s_bipush (-2) 87 rfl rfl (by decide) ?_
                -- Mod_why 87: ireturn
                exact s_ireturn rfl .int rfl rfl (h2 _ (Or.inr (Or.inr ⟨c4, hc, rfl⟩)))
              · refine s_iload 82 rfl rfl rfl ?_
                refine s_goto 87 rfl (by decide) ?_
                -- Mod_why 87: ireturn
                exact s_ireturn rfl .int rfl rfl (h2 _ (Or.inl ⟨c4, rfl⟩))
            · exact absurd (by decide) c3
          | succ d ih =>
            intro b hb hc
            have nx := ih (b + 1) (by omega)
            rw [cnt] at nx
            have b16 := cnt_le (bt w) b
            refine s_iload 42 rfl rfl rfl ?_
            refine s_bipush 16 44 rfl rfl (by decide) ?_
            refine s_icmp_ge 75 47 rfl rfl (by decide) (fun c5 => ?_) (fun c5 => ?_)
            -- Mod_why 47: branch 75 47
            · exact absurd (nn_le (a := 16) c5) (by omega)
            · refine s_iload_n 48 rfl rfl rfl ?_
              refine s_iload 50 rfl rfl rfl ?_
              refine s_ishr 51 rfl rfl ?_
              refine s_iconst 1 52 rfl rfl (by decide) ?_
              refine s_iand 53 rfl rfl ?_
              -- Mod_why 53: end
              rw [b_tst w (by omega)]
              refine s_iconst 1 54 rfl rfl (by decide) ?_
              refine s_icmp_ne 69 57 rfl rfl (by decide) (fun c6 => ?_) (fun c6 => ?_)
              -- Mod_why 57: branch 69 57
              · rw [i011] at c6
                rw [if_neg c6] at nx
                refine s_inc5 _ 72 rfl rfl rfl rfl ?_
                refine s_goto 40 rfl (by decide) ?_
                -- Mod_why 40: end
                rw [inc1]
                refine nx (fun c hcb hp => ?_)
                rcases Nat.lt_or_ge c b with z | z
                · exact hc c z hp
                · obtain rfl : c = b := by omega
                  exact absurd hp c6
              · rw [i011] at c6
                rw [if_pos c6] at nx
                refine s_iload 59 rfl rfl rfl ?_
                refine s_iload_n 60 rfl rfl rfl ?_
                refine s_icmp_ne 66 63 rfl rfl (by decide) (fun c7 => ?_) (fun c7 => ?_)
                -- Mod_why 63: branch 66 63
                · refine s_inc4 _ 69 rfl rfl rfl rfl ?_
                  refine s_inc5 _ 72 rfl rfl rfl rfl ?_
                  refine s_goto 40 rfl (by decide) ?_
                  -- Mod_why 40: end
                  rw [inc1, inc1]
                  refine nx (fun c hcb hp => ?_)
                  rcases Nat.lt_or_ge c b with z | z
                  · exact hc c z hp
                  · obtain rfl : c = b := by omega
                    exact fun e => c7 e.symm
                · refine s_iload 65 rfl rfl rfl ?_
                  -- Mod_why 65: ireturn
                  exact s_ireturn rfl .int rfl rfl (h2 _ (Or.inr (Or.inl ⟨b, by omega, c6, c7.symm, rfl⟩)))
        exact loop 16 0 (by omega) (fun c hc => by omega)
      · refine s_bipush (-2) 15 rfl rfl (by decide) ?_
        -- Mod_why 15: ireturn
        exact s_ireturn rfl .int rfl rfl (h2 _ (Or.inr (Or.inr ⟨fun e => c2 (by rw [e]; decide), fun b hb hp e => c2 (e ▸ Int32.le_trans (by decide) (nI_pos' (by have := cnt_le (bt (wa a &&& (kw_ (ap_ rs (fun i => (1 : Int32) <<< (rh i &&& 31)) ru) 33 pv ^^^ -1))) b; omega))), rfl⟩)))
  · rw [bi_f (in_nle (by omega) c)]
    refine s_if_eq 13 8 rfl rfl (by decide) (fun c8 => ?_) (fun c8 => ?_)
    -- Mod_why 8: branch 13 8
    · refine s_bipush (-2) 15 rfl rfl (by decide) ?_
      -- Mod_why 15: ireturn
      exact s_ireturn rfl .int rfl rfl (h1 c)
    · exact absurd rfl c8
theorem both_why (x y : Int32) : BI g (Rel g) mt_Top_why mt_Mod_why [.int x, .int y] := by
  intro M hR
  have hR' := hR
  obtain ⟨n, bl, ln, dr, al, ru, si, pa, cm, os, dw, nw, pv, gm, tk, pl, bh, va, iw, od, h0, h143, hT, hL, ⟨li, ki, wa, pp, qq, st, l2, k2, w2, p2, q2, s3, ob, tr, ps, a1, a2, a3, a4, a5, a6, a7, a8, a9, a10, a11, a12, a13, a14, a15, a16, a17, a18, a19, a20⟩, ⟨gc, rs, rh, s2, h2, gf, gs, ts, f1, f2, f3, f4, f5, f6, f7, f8, f9, ⟨cp, hcp, rfl⟩, f11⟩, hS, hO, hU, hC, hX, hz⟩ := hR
  refine c_why (h := 9) h0 f1 f4 f5 f9 a1 a4 a17 (fun q => ?_) (fun a b3 b4 r hr => ?_)
  · exact ⟨_, rfl, ⟨_, h143⟩, d_why (h := 9) h143 f7 f8 f9 a11 a17 (fun _ => ⟨rfl, hR'⟩) (fun a b3 b4 => absurd (in_bi b3 (by omega) b4) (in_no q))⟩
  · refine ⟨_, rfl, ⟨_, h143⟩, d_why (h := 9) h143 f7 f8 f9 a11 a17 (fun q => absurd (in_bi b3 (by omega) b4) (in_no q)) (fun a' d3 d4 r' hr' => ?_)⟩
    obtain rfl : a = a' := nn_eq (b4.symm.trans d4)
    rw [kn_eq f11 (lo_nI hcp), (a19 a b3).1.2.2.1] at hr'
    have lw : lo_ (wa a &&& (kw_ (ap_ rs rh ru) 16 (nI cp) ^^^ -1)) := by
      obtain ⟨c, hc, e⟩ := (a19 a b3).2.2.2.2.2.1
      rw [e]
      exact lo_and (lo_nI hc)
    have e := isN_u (n := 16) (m := 64) (by omega) (by omega) (fun b hb => by rw [l_i2l _ (by omega), if_pos (by omega)]) (fun b hb hb2 => by
      rw [l_i2l _ hb2]
      split
      · exact lw b hb (by assumption)
      · exact lw 31 (by omega) (by omega)) hr' hr
    rw [e]
    exact ⟨rfl, hR'⟩
end WHY
