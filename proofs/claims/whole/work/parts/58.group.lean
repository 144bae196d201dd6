/-! groups, group -/
/-- what group answers: n groups with facts gf and members p below m -/
def an_ (n : Nat) (gf : Nat → Int32) (p : Nat → Nat → Bool) (m : Nat) (x y r : Int32) : Prop := ((x < 0 ∨ nI n ≤ x) ∧ r = -2) ∨ ∃ k, k < n ∧ x = nI k ∧ ((y = -2 ∧ r = gf k) ∨ (y ≠ -2 ∧ isN (p k) m y r))
theorem an_u {n m m2 : Nat} {gf fo : Nat → Int32} {p q : Nat → Nat → Bool} {x y r r2 : Int32} (hn : n ≤ 17) (hm : m ≤ m2) (hm2 : m2 < 65536) (hf : ∀ k, k < n → gf k = fo k) (h1 : ∀ k, k < n → ∀ b, b < m → q k b = p k b) (h2 : ∀ k, k < n → ∀ b, m ≤ b → b < m2 → p k b = false) (hr : an_ n gf p m2 x y r) (hs : an_ n fo q m x y r2) : r = r2 := by
  rcases hr with ⟨a1, a2⟩ | ⟨k, a1, a2, a3⟩
  · rcases hs with ⟨d1, d2⟩ | ⟨k, d1, d2, d3⟩
    · rw [a2, d2]
    · exact absurd (in_bi d1 (by omega) d2) (in_no a1)
  · rcases hs with ⟨d1, d2⟩ | ⟨k', d1, d2, d3⟩
    · exact absurd (in_bi a1 (by omega) a2) (in_no d1)
    · obtain rfl : k = k' := nn_eq (a2.symm.trans d2)
      rcases a3 with ⟨a3, a4⟩ | ⟨a3, a4⟩
      · rcases d3 with ⟨d3, d4⟩ | ⟨d3, d4⟩
        · rw [a4, d4, hf k a1]
        · exact absurd a3 d3
      · rcases d3 with ⟨d3, d4⟩ | ⟨d3, d4⟩
        · exact absurd d3 a3
        · exact (isN_u hm hm2 (h1 k a1) (h2 k a1) d4 a4).symm
theorem nI_gm2 {k : Nat} (hk : k < 2147483648) : (-2 : Int32) ≤ nI k := by
  rw [Int32.le_iff_toInt_le, nI_toInt hk]
  have : (-2 : Int32).toInt = -2 := by decide
  omega
def tr_ (s : Sta) (f a : Nat) : Bool := cz (sWa s a) (kw_ (ap_ (sRs s) (sRh s) (sRu s)) 16 (sPv s ||| ((1 : Int32) <<< (nI f &&& 31))))
section GR
variable {g : ax_Y} {M : ax_M} {Q : Option Value → ax_M → Prop} {h : Nat} {s : Sta} {dw nw : Nat} {gc pa : Int32} {sl : Nat → Option Nat} {n dr cm os gm tk pl bh : Int32} {va : Int64} {iw od : Int32} {gf go fo : Nat → Int32} {gs ts : Nat → Int64} {op : Nat → Bool} {tr : Nat → Nat → Bool}
theorem c_groups (hK : KC M s dw nw gc pa sl) (h_groupFact : iA M 17 17 gf) (h_groupSet : lA M 18 17 gs) (h_trials : lA M 21 16 ts) (hq : ∀ T n ts gf gs, gz_ (be_ s 3) (tr_ s) (sAl s) T n gf gs → Q (some (.int (nI n))) (gm_m M (sRu s) (sPv s) ts gf gs n)) : ax_G g mt_Top_groups (h + 5) 0 0 0 [.ref 0] [] M Q := by
  obtain ⟨b1, b2, b3, b4, b5⟩ := hK.bd
  refine s_aload_n 1 rfl rfl rfl ?_
  refine s_getfield 11 4 4 rfl rfl fl_Top_38 hK.top rfl ?_
  refine s_aload_n 5 rfl rfl rfl ?_
  refine s_getfield 11 3 8 rfl rfl fl_Top_31 hK.top rfl ?_
  refine s_aload_n 9 rfl rfl rfl ?_
  refine s_iconst 3 10 rfl rfl (by decide) ?_
  refine c_callV1 (h+4) 13 rfl rfl mv_Top_208 (by omega) (Nat.le_of_ble_eq_true rfl) (Nat.le_of_ble_eq_true rfl) hK.top rfl rfl ?_
  -- Top_groups 13: call Top_setNow
  refine m_Top_setNow (h := h) (w := 3) hK (by omega) ?_
  dsimp only [ax_rs]
  refine c_callV2 (h+4) 16 rfl rfl mv_Top_212 (by omega) (Nat.le_of_ble_eq_true rfl) (Nat.le_of_ble_eq_true rfl) hK.facts rfl rfl ?_
  -- Top_groups 16: call Facts_groupAll
  refine m_Facts_groupAll (h := h + 2) (op := be_ s 3) (tr := tr_ s) hK.facts h_groupFact h_groupSet hK.ruleSet hK.ruleHead b2 h_trials hK.alarms hK.wants b1 (fun a ha => lset_b _ _ (by omega) a ha) (fun f a _ _ => rfl) (fun T k ts gf gs hz => ?_)
  dsimp only [ax_rs]
  refine s_aload_n 17 rfl rfl rfl ?_
  refine s_getfield 11 4 20 rfl rfl fl_Top_38 hK.top rfl ?_
  refine s_getfield 1 2 23 rfl rfl fl_Top_216 rfl rfl ?_
  -- Top_groups 23: ireturn
  exact s_ireturn rfl .int rfl rfl (hq T k ts gf gs hz)
theorem c_group {x y : Int32} (hK : KC M s dw nw gc pa sl) (h_groupFact : iA M 17 17 gf) (h_groupSet : lA M 18 17 gs) (h_trials : lA M 21 16 ts) (hq : ∀ T n ts gf gs, gz_ (be_ s 3) (tr_ s) (sAl s) T n gf gs → ∀ r, an_ n gf (fun k => lb (gs k)) 64 x y r → Q (some (.int r)) (gm_m M (sRu s) (sPv s) ts gf gs n)) : ax_G g mt_Top_group (h + 5) 0 0 0 [.ref 0, .int x, .int y] [] M Q := by
  obtain ⟨b1, b2, b3, b4, b5⟩ := hK.bd
  refine s_aload_n 1 rfl rfl rfl ?_
  refine s_getfield 11 4 4 rfl rfl fl_Top_38 hK.top rfl ?_
  refine s_aload_n 5 rfl rfl rfl ?_
  refine s_getfield 11 3 8 rfl rfl fl_Top_31 hK.top rfl ?_
  refine s_aload_n 9 rfl rfl rfl ?_
  refine s_iconst 3 10 rfl rfl (by decide) ?_
  refine c_callV1 (h+4) 13 rfl rfl mv_Top_208 (by omega) (Nat.le_of_ble_eq_true rfl) (Nat.le_of_ble_eq_true rfl) hK.top rfl rfl ?_
  -- Top_group 13: call Top_setNow
  refine m_Top_setNow (h := h) (w := 3) hK (by omega) ?_
  dsimp only [ax_rs]
  refine c_callV2 (h+4) 16 rfl rfl mv_Top_212 (by omega) (Nat.le_of_ble_eq_true rfl) (Nat.le_of_ble_eq_true rfl) hK.facts rfl rfl ?_
  -- Top_group 16: call Facts_groupAll
  refine m_Facts_groupAll (h := h + 2) (op := be_ s 3) (tr := tr_ s) hK.facts h_groupFact h_groupSet hK.ruleSet hK.ruleHead b2 h_trials hK.alarms hK.wants b1 (fun a ha => lset_b _ _ (by omega) a ha) (fun f a _ _ => rfl) (fun T k ts gf gs hz => ?_)
  dsimp only [ax_rs]
  have hq := hq T k ts gf gs hz
  have k17 : k ≤ 17 := by
    obtain ⟨q1, -, -, q2⟩ := hz
    rcases q2 with ⟨-, q2⟩ | ⟨-, q2, -⟩ <;> omega
  refine s_iload_n 17 rfl rfl rfl ?_
  refine s_if_lt 31 20 rfl rfl (by decide) (fun c1 => ?_) (fun c1 => ?_)
  -- Top_group 20: branch 31 20
  · refine s_bipush (-2) 33 rfl rfl (by decide) ?_
    -- Top_group 33: ireturn
    exact s_ireturn rfl .int rfl rfl (hq _ (Or.inl ⟨Or.inl c1, rfl⟩))
  · obtain ⟨i, hi, rfl⟩ := nI_of c1
    refine s_iload_n 21 rfl rfl rfl ?_
    refine s_aload_n 22 rfl rfl rfl ?_
    refine s_getfield 11 4 25 rfl rfl fl_Top_38 hK.top rfl ?_
    refine s_getfield 1 2 28 rfl rfl fl_Top_216 rfl rfl ?_
    refine s_icmp_lt 34 31 rfl rfl (by decide) (fun c2 => ?_) (fun c2 => ?_)
    -- Top_group 31: branch 34 31
    · have hik := nn_lt c2
      refine s_iload_n 35 rfl rfl rfl ?_
      refine s_bipush (-2) 37 rfl rfl (by decide) ?_
      refine s_icmp_ne 52 40 rfl rfl (by decide) (fun c3 => ?_) (fun c3 => ?_)
      -- Top_group 40: branch 52 40
      · refine s_aload_n 53 rfl rfl rfl ?_
        refine s_getfield 11 4 56 rfl rfl fl_Top_38 hK.top rfl ?_
        refine s_getfield 1 1 59 rfl rfl fl_Top_222 rfl rfl ?_
        refine s_iload_n 60 rfl rfl rfl ?_
        refine s_laload (i) 61 rfl rfl rfl rfl (by omega) (by decide) ?_
        refine s_iload_n 62 rfl rfl rfl ?_
        refine c_callS2 (h+4) 65 rfl rfl mv_Top_191 (by omega) (Nat.le_of_ble_eq_true rfl) (Nat.le_of_ble_eq_true rfl) ?_
        -- Top_group 65: call Top_member
        refine m_Top_member (fun r hr => ?_)
        dsimp only [ax_rs]
        -- Top_group 65: ireturn
        exact s_ireturn rfl .int rfl rfl (hq r (Or.inr ⟨i, hik, rfl, Or.inr ⟨c3, hr⟩⟩))
      · refine s_aload_n 41 rfl rfl rfl ?_
        refine s_getfield 11 4 44 rfl rfl fl_Top_38 hK.top rfl ?_
        refine s_getfield 1 0 47 rfl rfl fl_Top_219 rfl rfl ?_
        refine s_iload_n 48 rfl rfl rfl ?_
        refine s_iaload (i) 49 rfl rfl rfl rfl (by omega) (by decide) ?_
        refine s_goto 65 rfl (by decide) ?_
        -- Top_group 65: ireturn
        exact s_ireturn rfl .int rfl rfl (hq _ (Or.inr ⟨i, hik, rfl, Or.inl ⟨c3, rfl⟩⟩))
    · refine s_bipush (-2) 33 rfl rfl (by decide) ?_
      -- Top_group 33: ireturn
      exact s_ireturn rfl .int rfl rfl (hq _ (Or.inl ⟨Or.inr (Int32.not_lt.mp c2), rfl⟩))
theorem d_groups (hK : KM M s n dr pa cm os gm tk pl bh va iw od) (h_groupOf : iA M 164 50 go) (h_factOf : iA M 165 18 fo) (hop : ∀ a, a < sAl s → be_ s 3 a = op a) (htr : ∀ f a, f < 16 → a < sAl s → cz (sWa s a) (kw_ (ap_ (sRs s) (fun i => (1 : Int32) <<< (sRh s i &&& 31)) (sRu s)) 33 (sPv s ||| ((1 : Int32) <<< (nI f &&& 31)))) = tr f a) (hwa : ∀ a, a < sAl s → cz (sWa s a) 65535 = true) (hq : ∀ T k go fo, gy_ op tr (sAl s) T k go fo → Q (some (.int (nI k))) (gn_m M s n dr pa cm os tk pl bh va iw od go fo k)) : ax_G g mt_Mod_groups (h + 4) 0 0 0 [.ref 143] [] M Q := by
  refine s_aload_n 1 rfl rfl rfl ?_
  refine c_callV0 (h+3) 4 rfl rfl mv_Mod_216 (by omega) (Nat.le_of_ble_eq_true rfl) (Nat.le_of_ble_eq_true rfl) hK.this rfl rfl ?_
  -- Mod_groups 4: call Mod_groupAll
  refine m_Mod_groupAll (h := h) hK h_groupOf h_factOf hop htr hwa (fun T k go fo hy => ?_)
  dsimp only [ax_rs]
  refine s_aload_n 5 rfl rfl rfl ?_
  refine s_getfield 12 29 8 rfl rfl fl_Mod_205 rfl rfl ?_
  -- Mod_groups 8: ireturn
  exact s_ireturn rfl .int rfl rfl (hq T k go fo hy)
theorem d_group {x y : Int32} (hK : KM M s n dr pa cm os gm tk pl bh va iw od) (h_groupOf : iA M 164 50 go) (h_factOf : iA M 165 18 fo) (hop : ∀ a, a < sAl s → be_ s 3 a = op a) (htr : ∀ f a, f < 16 → a < sAl s → cz (sWa s a) (kw_ (ap_ (sRs s) (fun i => (1 : Int32) <<< (sRh s i &&& 31)) (sRu s)) 33 (sPv s ||| ((1 : Int32) <<< (nI f &&& 31)))) = tr f a) (hwa : ∀ a, a < sAl s → cz (sWa s a) 65535 = true) (hq : ∀ T k go fo, gy_ op tr (sAl s) T k go fo → ∀ r, an_ k fo (fun k a => decide (go a = nI k)) (sAl s) x y r → Q (some (.int r)) (gn_m M s n dr pa cm os tk pl bh va iw od go fo k)) : ax_G g mt_Mod_group (h + 4) 0 0 0 [.ref 143, .int x, .int y, .float 0, .float 0] [] M Q := by
  obtain ⟨b1, b2, b3, b4, b5⟩ := hK.bd
  refine s_aload_n 1 rfl rfl rfl ?_
  refine c_callV0 (h+3) 4 rfl rfl mv_Mod_216 (by omega) (Nat.le_of_ble_eq_true rfl) (Nat.le_of_ble_eq_true rfl) hK.this rfl rfl ?_
  -- Mod_group 4: call Mod_groupAll
  refine m_Mod_groupAll (h := h) hK h_groupOf h_factOf hop htr hwa (fun T k go fo hy => ?_)
  dsimp only [ax_rs]
  have hq := hq T k go fo hy
  have k17 : k ≤ 17 := by
    obtain ⟨q1, -, -, q2⟩ := hy
    rcases q2 with ⟨-, q2⟩ | ⟨-, q2, -⟩ <;> omega
  refine s_iload_n 5 rfl rfl rfl ?_
  refine s_i2l 6 rfl rfl ?_
  refine s_lconst 0 7 rfl rfl (by decide) ?_
  refine s_aload_n 8 rfl rfl rfl ?_
  refine s_getfield 12 29 11 rfl rfl fl_Mod_205 rfl rfl ?_
  refine s_iconst 1 12 rfl rfl (by decide) ?_
  refine s_isub 13 rfl rfl ?_
  refine s_i2l 14 rfl rfl ?_
  refine c_callS3 (h+3) 17 rfl rfl mv_Mod_134 (by omega) (Nat.le_of_ble_eq_true rfl) (Nat.le_of_ble_eq_true rfl) ?_
  -- Mod_group 17: call Mod_in
  refine m_Mod_inI (lo := 0) (hi := nI k - 1) (by decide) rfl ?_
  dsimp only [ax_rs]
  rcases in_or (x := x) (n := k) (by omega) with ⟨i, hi, rfl⟩ | c
  · rw [bi_t (in_le hi (by omega) rfl)]
    have hq := fun r hr => hq r (Or.inr ⟨i, hi, rfl, hr⟩)
    refine s_if_eq 26 20 rfl rfl (by decide) (fun c1 => ?_) (fun c1 => ?_)
    -- Mod_group 20: branch 26 20
    · exact absurd c1 (by decide)
    · refine s_iload_n 21 rfl rfl rfl ?_
      refine s_bipush (-2) 23 rfl rfl (by decide) ?_
      refine s_icmp_ge 29 26 rfl rfl (by decide) (fun c2 => ?_) (fun c2 => ?_)
      -- Mod_group 26: branch 29 26
      · refine s_iload_n 30 rfl rfl rfl ?_
        refine s_bipush (-2) 32 rfl rfl (by decide) ?_
        refine s_icmp_ne 42 35 rfl rfl (by decide) (fun c3 => ?_) (fun c3 => ?_)
        -- Mod_group 35: branch 42 35
        · have hq := fun r hr => hq r (Or.inr ⟨c3, hr⟩)
          refine s_iconst 0 43 rfl rfl (by decide) ?_
          refine s_ist3 44 rfl rfl rfl ?_
          refine s_iconst 0 45 rfl rfl (by decide) ?_
          refine s_ist4 47 rfl rfl rfl ?_
          -- Mod_group 47: end
          have loop : ∀ (d b : Nat), b + d = sAl s → (∀ c, c < b → decide (go c = nI i) = true → y ≠ nI (cnt (fun a => decide (go a = nI i)) c)) → ax_G g mt_Mod_group (h + 4) 0 0 47 [.ref 143, .int (nI i), .int y, .int (nI (cnt (fun a => decide (go a = nI i)) b)), .int (nI b)] [] (gn_m M s n dr pa cm os tk pl bh va iw od go fo k) Q := by
            intro d
            induction d with
            | zero =>
              intro b hb hc
              obtain rfl : b = sAl s := by omega
              refine s_iload 49 rfl rfl rfl ?_
              refine s_aload_n 50 rfl rfl rfl ?_
              refine s_getfield 12 15 53 rfl rfl fl_Mod_169 rfl rfl ?_
              refine s_icmp_ge 84 56 rfl rfl (by decide) (fun c4 => ?_) (fun c4 => ?_)
              -- Mod_group 56: branch 84 56
              · refine s_iload_n 85 rfl rfl rfl ?_
                refine s_iconst (-1) 86 rfl rfl (by decide) ?_
                refine s_icmp_ne 93 89 rfl rfl (by decide) (fun c5 => ?_) (fun c5 => ?_)
                -- Mod_group 89: branch 93 89
                · refine s_bipush (-2) 95 rfl rfl (by decide) ?_
                  -- Mod_group 95: ireturn
                  exact s_ireturn rfl .int rfl rfl (hq _ (Or.inr (Or.inr ⟨c5, hc, rfl⟩)))
                · refine s_iload_n 90 rfl rfl rfl ?_
                  refine s_goto 95 rfl (by decide) ?_
                  -- Mod_group 95: ireturn
                  exact s_ireturn rfl .int rfl rfl (hq _ (Or.inl ⟨c5, rfl⟩))
              · exact absurd (nn_nle c4) (by omega)
            | succ d ih =>
              intro b hb hc
              have nx := ih (b + 1) (by omega)
              rw [cnt] at nx
              refine s_iload 49 rfl rfl rfl ?_
              refine s_aload_n 50 rfl rfl rfl ?_
              refine s_getfield 12 15 53 rfl rfl fl_Mod_169 rfl rfl ?_
              refine s_icmp_ge 84 56 rfl rfl (by decide) (fun c6 => ?_) (fun c6 => ?_)
              -- Mod_group 56: branch 84 56
              · exact absurd (nn_le c6) (by omega)
              · refine s_aload_n 57 rfl rfl rfl ?_
                refine s_getfield 12 27 60 rfl rfl fl_Mod_70 rfl rfl ?_
                refine s_iload 62 rfl rfl rfl ?_
                refine s_iaload (b) 63 rfl rfl rfl rfl (by omega) (by decide) ?_
                refine s_iload_n 64 rfl rfl rfl ?_
                refine s_icmp_ne 78 67 rfl rfl (by decide) (fun c7 => ?_) (fun c7 => ?_)
                -- Mod_group 67: branch 78 67
                · rw [if_neg (by simpa using c7)] at nx
                  refine s_inc4 _ 81 rfl rfl rfl rfl ?_
                  refine s_goto 47 rfl (by decide) ?_
                  -- Mod_group 47: end
                  rw [inc1]
                  refine nx (fun c hcb hd => ?_)
                  by_cases z : c = b
                  · subst z
                    exact absurd (of_decide_eq_true hd) c7
                  · exact hc c (by omega) hd
                · rw [if_pos (by simpa using c7)] at nx
                  refine s_iload_n 68 rfl rfl rfl ?_
                  refine s_iload_n 69 rfl rfl rfl ?_
                  refine s_icmp_ne 75 72 rfl rfl (by decide) (fun c8 => ?_) (fun c8 => ?_)
                  -- Mod_group 72: branch 75 72
                  · refine s_inc3 _ 78 rfl rfl rfl rfl ?_
                    refine s_inc4 _ 81 rfl rfl rfl rfl ?_
                    refine s_goto 47 rfl (by decide) ?_
                    -- Mod_group 47: end
                    rw [inc1, inc1]
                    refine nx (fun c hcb hd => ?_)
                    by_cases z : c = b
                    · subst z
                      exact fun q => c8 q.symm
                    · exact hc c (by omega) hd
                  · refine s_iload 74 rfl rfl rfl ?_
                    -- Mod_group 74: ireturn
                    exact s_ireturn rfl .int rfl rfl (hq _ (Or.inr (Or.inl ⟨b, by omega, by simpa using c7, c8.symm, rfl⟩)))
          exact loop (sAl s) 0 (by omega) (fun c hc => absurd hc (Nat.not_lt_zero c))
        · refine s_aload_n 36 rfl rfl rfl ?_
          refine s_getfield 12 28 39 rfl rfl fl_Mod_73 rfl rfl ?_
          refine s_iload_n 40 rfl rfl rfl ?_
          refine s_iaload (i) 41 rfl rfl rfl rfl (by omega) (by decide) ?_
          -- Mod_group 41: ireturn
          exact s_ireturn rfl .int rfl rfl (hq _ (Or.inl ⟨c3, rfl⟩))
      · refine s_bipush (-2) 28 rfl rfl (by decide) ?_
        -- Mod_group 28: ireturn
        have lt : y < -2 := Int32.not_le.mp c2
        exact s_ireturn rfl .int rfl rfl (hq _ (Or.inr ⟨fun q => c2 (by rw [q]; decide), Or.inr (Or.inr ⟨fun q => c2 (by rw [q]; decide), fun b hb _ q => c2 (by rw [q]; exact nI_gm2 (Nat.lt_of_le_of_lt (cnt_le _ b) (by omega))), rfl⟩)⟩))
  · rw [bi_f (in_nle (by omega) c)]
    refine s_if_eq 26 20 rfl rfl (by decide) (fun c9 => ?_) (fun c9 => ?_)
    -- Mod_group 20: branch 26 20
    · refine s_bipush (-2) 28 rfl rfl (by decide) ?_
      -- Mod_group 28: ireturn
      exact s_ireturn rfl .int rfl rfl (hq _ (Or.inl ⟨c, rfl⟩))
    · exact absurd rfl c9
/-- what both calls have in common -/
theorem gr_pre {s t : Sta} {dw nw dr n pa cm os : Nat} (hC : KC M s dw nw gc (nI pa) sl) (hM : KM M t (nI n) (nI dr) (nI pa) (nI cm) (nI os) gm tk pl bh va iw od) (hg : Ag s t) (hA : R_alarms M (sBl s) (sLn s) (sAl s)) (hF : R_facts M (sRu s) (sPv s)) : (∀ a, a < sAl t → be_ t 3 a = be_ s 3 a) ∧ (∀ f a, f < 16 → a < sAl t → cz (sWa t a) (kw_ (ap_ (sRs t) (fun i => (1 : Int32) <<< (sRh t i &&& 31)) (sRu t)) 33 (sPv t ||| ((1 : Int32) <<< (nI f &&& 31)))) = tr_ s f a) ∧ ∀ a, a < sAl t → cz (sWa t a) 65535 = true := by
  obtain ⟨b1, b2, b3, b4, b5⟩ := hC.bd
  obtain ⟨q1, q2, q3, q4, q5, q6, q7⟩ := hg.sc
  obtain ⟨gc', rs, rh, s2, h2, gf, gs, ts, f1, f2, f3, f4, f5, f6, f7, f8, f9, ⟨cp, hcp, ep⟩, f11⟩ := hF
  obtain ⟨li, ki, wa, pp, qq, st, l2, k2, w2, p2, qq2, s2', ob, trr, pst, a1, a2, a3, a4, a5, a6, a7, a8, a9, a10, a11, a12, a13, a14, a15, a16, a17, a18, a19, a20, a21⟩ := hA
  have e1 := iA_j hC.ruleSet f4
  have e2 := iA_j hC.ruleHead f5
  have e3 := iA_j hM.ruleSet f7
  have e4 := iA_j hM.ruleHead f8
  have e5 := iA_j hC.wants a4
  rw [q1]
  refine ⟨fun a ha => be_ag hg hC.told b4 3 ha, fun f a hf ha => ?_, fun a ha => ?_⟩
  · unfold tr_
    obtain ⟨-, -, d3, -⟩ := hg.al a ha
    rw [d3, e1, e2, e3, e4, q2, q6]
    rw [kn_eq f11 (lo_or (by rw [ep]; exact lo_nI hcp) (lo_one hf))]
  · obtain ⟨-, -, d3, -⟩ := hg.al a ha
    obtain ⟨-, -, -, -, -, ⟨c, hc, ec⟩, -⟩ := a19 a ha
    rw [d3, e5, ec]
    unfold cz
    have lo : ∀ i, i < 16 → bt ((65535 : Int32) ^^^ -1) i = false := by decide
    refine decide_eq_true (b_ext (fun i hi => ?_))
    have b0 : bt (0 : Int32) i = false := by simp [bt]
    rw [b_and, b0]
    by_cases z : i < 16
    · rw [lo i z, Bool.and_false]
    · rw [lo_nI hc i (by omega) hi, Bool.false_and]
theorem both_groups : BI g (Rel g) mt_Top_groups mt_Mod_groups [] := by
  intro M hR
  have hR' := hR
  obtain ⟨s, t, dw, nw, gc, sl, n, pa, dr, cm, os, gm, tk, pl, bh, va, iw, od, hC, hM, hg, hT, hL, hA, hF, hS, hO, hU, hH, hX, hz⟩ := hR.get
  obtain ⟨b1, b2, b3, b4, b5⟩ := hC.bd
  obtain ⟨q1, q2, q3, q4, q5, q6, q7⟩ := hg.sc
  obtain ⟨p1, p2, p3⟩ := gr_pre hC hM hg hA hF
  obtain ⟨gc', rs, rh, s2, h2, gf, gs, ts, f1, f2, f3, f4, f5, f6, f7, f8, f9, f10, f11⟩ := hF
  obtain ⟨go, h164⟩ := (hX.2.2.2.2.2.2.2.2.2.2.2.2.2.2.2.2.1 : sI M 164 50)
  obtain ⟨fo, h165⟩ := (hX.2.2.2.2.2.2.2.2.2.2.2.2.2.2.2.2.2.1 : sI M 165 18)
  refine c_groups (h := 6) hC f2 f3 f6 (fun T k ts gf gs hgz => ?_)
  have hM2 : KM (gm_m M (sRu s) (sPv s) ts gf gs k) t (nI n) (nI dr) (nI pa) (nI cm) (nI os) gm tk pl bh va iw od := hM.mv hM.this (fun k hk => ax_ne (by omega) (ax_ne (by omega) (ax_ne (by omega) (ax_ne (by omega) rfl))))
  refine ⟨_, rfl, ⟨_, hM.this⟩, d_groups (h := 7) (op := be_ s 3) (tr := tr_ s) hM2 h164 h165 p1 p2 p3 (fun T' k' go fo hgy => ?_)⟩
  rw [q1] at hgy
  obtain ⟨rfl, -⟩ := gg_ hgz hgy
  refine ⟨rfl, ?_⟩
  have key : ∀ i, ¬ (i = 16 ∨ i = 17 ∨ i = 18 ∨ i = 21 ∨ i = 143 ∨ i = 164 ∨ i = 165) → (gn_m (gm_m M (sRu s) (sPv s) ts gf gs k) t (nI n) (nI dr) (nI pa) (nI cm) (nI os) tk pl bh va iw od go fo k).2 i = M.2 i := fun i hi => ax_ne (by omega) (ax_ne (by omega) (ax_ne (by omega) (ax_ne (by omega) (ax_ne (by omega) (ax_ne (by omega) (ax_ne (by omega) rfl))))))
  refine Rel.mk2 hg hC.top rfl (hT.mv ?_) (hL.mv ?_) (hA.mv ?_) ⟨_, rs, rh, s2, h2, gf, gs, ts, rfl, rfl, rfl, f4, f5, rfl, f7, f8, f9, f10, f11⟩ (hS.mv ?_) (hO.mv ?_) (hU.mv ?_) (hH.mv ?_) (hX.set (fun i hi => ?_)) hz
  case refine_8 =>
    by_cases z : i = 164
    · subst z
      exact Or.inr ⟨_, rfl⟩
    · by_cases z : i = 165
      · subst z
        exact Or.inr ⟨_, rfl⟩
      · exact Or.inl (key i (by omega))
  all_goals exact fun k hk => key k (by omega)
theorem both_group (x y : Int32) : BI g (Rel g) mt_Top_group mt_Mod_group [.int x, .int y] := by
  intro M hR
  have hR' := hR
  obtain ⟨s, t, dw, nw, gc, sl, n, pa, dr, cm, os, gm, tk, pl, bh, va, iw, od, hC, hM, hg, hT, hL, hA, hF, hS, hO, hU, hH, hX, hz⟩ := hR.get
  obtain ⟨b1, b2, b3, b4, b5⟩ := hC.bd
  obtain ⟨q1, q2, q3, q4, q5, q6, q7⟩ := hg.sc
  obtain ⟨p1, p2, p3⟩ := gr_pre hC hM hg hA hF
  obtain ⟨gc', rs, rh, s2, h2, gf, gs, ts, f1, f2, f3, f4, f5, f6, f7, f8, f9, f10, f11⟩ := hF
  obtain ⟨go, h164⟩ := (hX.2.2.2.2.2.2.2.2.2.2.2.2.2.2.2.2.1 : sI M 164 50)
  obtain ⟨fo, h165⟩ := (hX.2.2.2.2.2.2.2.2.2.2.2.2.2.2.2.2.2.1 : sI M 165 18)
  refine c_group (h := 6) hC f2 f3 f6 (fun T k ts gf gs hgz r hr => ?_)
  have hM2 : KM (gm_m M (sRu s) (sPv s) ts gf gs k) t (nI n) (nI dr) (nI pa) (nI cm) (nI os) gm tk pl bh va iw od := hM.mv hM.this (fun k hk => ax_ne (by omega) (ax_ne (by omega) (ax_ne (by omega) (ax_ne (by omega) rfl))))
  refine ⟨_, rfl, ⟨_, hM.this⟩, d_group (h := 7) (op := be_ s 3) (tr := tr_ s) hM2 h164 h165 p1 p2 p3 (fun T' k' go fo hgy r2 hr2 => ?_)⟩
  rw [q1] at hgy hr2
  obtain ⟨rfl, e2, e3, e4⟩ := gg_ hgz hgy
  obtain rfl : r = r2 := an_u (m := sAl s) (m2 := 64) e2 (by omega) (by omega) e3 (fun k hk b hb => by show decide _ = lb _ _; rw [e4 k hk b (by omega), decide_eq_true hb, Bool.true_and]) (fun k hk b h1 h2 => by show lb _ _ = false; rw [e4 k hk b h2, decide_eq_false (by omega), Bool.false_and]) hr hr2
  refine ⟨rfl, ?_⟩
  have key : ∀ i, ¬ (i = 16 ∨ i = 17 ∨ i = 18 ∨ i = 21 ∨ i = 143 ∨ i = 164 ∨ i = 165) → (gn_m (gm_m M (sRu s) (sPv s) ts gf gs k) t (nI n) (nI dr) (nI pa) (nI cm) (nI os) tk pl bh va iw od go fo k).2 i = M.2 i := fun i hi => ax_ne (by omega) (ax_ne (by omega) (ax_ne (by omega) (ax_ne (by omega) (ax_ne (by omega) (ax_ne (by omega) (ax_ne (by omega) rfl))))))
  refine Rel.mk2 hg hC.top rfl (hT.mv ?_) (hL.mv ?_) (hA.mv ?_) ⟨_, rs, rh, s2, h2, gf, gs, ts, rfl, rfl, rfl, f4, f5, rfl, f7, f8, f9, f10, f11⟩ (hS.mv ?_) (hO.mv ?_) (hU.mv ?_) (hH.mv ?_) (hX.set (fun i hi => ?_)) hz
  case refine_8 =>
    by_cases z : i = 164
    · subst z
      exact Or.inr ⟨_, rfl⟩
    · by_cases z : i = 165
      · subst z
        exact Or.inr ⟨_, rfl⟩
      · exact Or.inl (key i (by omega))
  all_goals exact fun k hk => key k (by omega)
end GR
