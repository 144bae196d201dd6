/-! matching: the class -/
/-- but for c nothing changed -/
def fr_ (M N : ax_M) (c : Nat → Prop) : Prop := ∀ k, ¬ c k → N.2 k = M.2 k
theorem fr_.put {M N : ax_M} {c : Nat → Prop} (h : fr_ M N c) {a : Nat} {e : ax_E} (ha : c a) : fr_ M (ax_put N a e) c := fun k hk => ax_ne (fun q => hk (by rw [q]; exact ha)) (h k hk)
theorem fr_.r {M : ax_M} {c : Nat → Prop} : fr_ M M c := fun _ _ => rfl
theorem fr_.t {M N K : ax_M} {c : Nat → Prop} (h1 : fr_ M N c) (h2 : fr_ N K c) : fr_ M K c := fun k hk => (h2 k hk).trans (h1 k hk)
theorem fr_.w {M N : ax_M} {c d : Nat → Prop} (h1 : fr_ M N c) (h2 : ∀ k, c k → d k) : fr_ M N d := fun k hk => h1 k (fun q => hk (h2 k q))
abbrev ma_f (o n : Nat) : List Value := [.ref 6, .ref 7, .ref 8, .int (nI o), .int (nI n)]
abbrev li_f (a n : Nat) : List Value := [.ref (a + 1), .ref (a + 2), .ref (a + 3), .int (nI n)]
/-- the row holds a selection -/
def rs_ (e : Nat → Int32) (p : Nat → Bool) (n : Nat) : Prop := ∀ k, k < cnt p n → e k = nI (sel_ p n k)
theorem rs_n {e : Nat → Int32} {p : Nat → Bool} {n : Nat} (h : rs_ e p n) (hp : ¬ p n = true) : rs_ e p (n + 1) := by
  intro k hk
  rw [cnt, if_neg hp] at hk
  rw [sel_, if_neg (fun q => hp q.1)]
  exact h k hk
theorem rs_y {e : Nat → Int32} {p : Nat → Bool} {n : Nat} (h : rs_ e p n) (hp : p n = true) : rs_ (upd e (cnt p n) (nI n)) p (n + 1) := by
  intro k hk
  rw [cnt, if_pos hp] at hk
  rw [sel_]
  unfold upd
  by_cases z : k = cnt p n
  · rw [if_pos z, if_pos ⟨hp, z⟩]
  · rw [if_neg z, if_neg (fun q => z q.2)]
    exact h k (by omega)
section MAT
variable {g : ax_Y} {M : ax_M} {Q : Option Value → ax_M → Prop} {h : Nat}
theorem m_Matching_collect {a A n f : Nat} {ff e : Nat → Int32} {p : Nat → Bool} (h_lines : oC M a 2 (li_f a n)) (h_file : iA M (a + 1) 40 ff) (h_into : iA M A 40 e) (hA : A < a) (hn : n ≤ 40) (hp : ∀ i, i < n → (ff i = nI f ↔ p i = true)) (hq : ∀ e, rs_ e p n → Q (some (.int (nI (cnt p n)))) (iP M A 40 e)) : ax_G g mt_Matching_collect h 0 0 0 [.ref a, .int (nI f), .ref A, .float 0, .float 0] [] M Q := by
  refine s_iconst 0 1 rfl rfl (by decide) ?_
  refine s_ist3 2 rfl rfl rfl ?_
  refine s_iconst 0 3 rfl rfl (by decide) ?_
  refine s_ist4 5 rfl rfl rfl ?_
  -- Matching_collect 5: end
  have loop : ∀ (d i : Nat) (e : Nat → Int32), i + d = n → rs_ e p i → ax_G g mt_Matching_collect h 0 0 5 [.ref a, .int (nI f), .ref A, .int (nI (cnt p i)), .int (nI i)] [] (iP M A 40 e) Q := by
    intro d
    induction d with
    | zero =>
      intro i e hi he
      obtain rfl : i = n := by omega
      refine s_iload 7 rfl rfl rfl ?_
      refine s_aload_n 8 rfl rfl rfl ?_
      refine s_getfield 2 3 11 rfl rfl fl_Matching_39 (ax_ne (by omega) h_lines) rfl ?_
      refine s_icmp_ge 39 14 rfl rfl (by decide) (fun c1 => ?_) (fun c1 => ?_)
      -- Matching_collect 14: branch 39 14
      · refine s_iload_n 40 rfl rfl rfl ?_
        -- Matching_collect 40: ireturn
        exact s_ireturn rfl .int rfl rfl (hq e he)
      · exact absurd (nn_nle c1) (by omega)
    | succ d ih =>
      intro i e hi he
      have nx := ih (i + 1)
      rw [cnt] at nx
      have cl := cnt_le p i
      refine s_iload 7 rfl rfl rfl ?_
      refine s_aload_n 8 rfl rfl rfl ?_
      refine s_getfield 2 3 11 rfl rfl fl_Matching_39 (ax_ne (by omega) h_lines) rfl ?_
      refine s_icmp_ge 39 14 rfl rfl (by decide) (fun c2 => ?_) (fun c2 => ?_)
      -- Matching_collect 14: branch 39 14
      · exact absurd (nn_le c2) (by omega)
      · refine s_aload_n 15 rfl rfl rfl ?_
        refine s_getfield 2 0 18 rfl rfl fl_Matching_44 (ax_ne (by omega) h_lines) rfl ?_
        refine s_iload 20 rfl rfl rfl ?_
        refine s_iaload (i) 21 rfl rfl (ax_ne (by omega) h_file) rfl (by omega) (by decide) ?_
        refine s_iload_n 22 rfl rfl rfl ?_
        refine s_icmp_ne 33 25 rfl rfl (by decide) (fun c3 => ?_) (fun c3 => ?_)
        -- Matching_collect 25: branch 33 25
        · rw [hp i (by omega)] at c3
          rw [if_neg c3] at nx
          refine s_inc4 _ 36 rfl rfl rfl rfl ?_
          refine s_goto 5 rfl (by decide) ?_
          -- Matching_collect 5: end
          rw [inc1]
          exact nx e (by omega) (rs_n he c3)
        · rw [hp i (by omega)] at c3
          rw [if_pos c3] at nx
          refine s_aload_n 26 rfl rfl rfl ?_
          refine s_iload_n 27 rfl rfl rfl ?_
          refine s_iload 29 rfl rfl rfl ?_
          refine s_iastore (cnt p i) 30 rfl rfl ax_eq rfl (by omega) (by decide) ?_
          refine s_inc3 _ 33 rfl rfl rfl rfl ?_
          refine s_inc4 _ 36 rfl rfl rfl rfl ?_
          refine s_goto 5 rfl (by decide) ?_
          -- Matching_collect 5: end
          unfold iP
          rw [ax_pp, inc1, inc1]
          exact nx _ (by omega) (rs_y he c3)
  have h0 := loop n 0 e (by omega) (fun k hk => absurd hk (Nat.not_lt_zero k))
  unfold iP at h0
  rw [ax_id h_into] at h0
  exact h0
theorem m_Matching_alike {b l nb nl p q : Nat} {mo ml eo en : Nat → Int32} {o1 n1 op nq : Nat} (h_this : oC M 5 4 (ma_f o1 n1)) (h_before : oC M b 2 (li_f b nb)) (h_later : oC M l 2 (li_f l nl)) (h_bm : iA M (b + 2) 40 mo) (h_lm : iA M (l + 2) 40 ml) (h_older : iA M 6 40 eo) (h_newer : iA M 7 40 en) (hp : p < 40) (hq' : q < 40) (e1 : eo p = nI op) (e2 : en q = nI nq) (h1 : op < 40) (h2 : nq < 40) (hq : Q (some (.int (if decide (mo op = ml nq) then 1 else 0))) M) : ax_G g mt_Matching_alike h 0 0 0 [.ref 5, .ref b, .ref l, .int (nI p), .int (nI q)] [] M Q := by
  refine s_aload_n 1 rfl rfl rfl ?_
  refine s_getfield 2 1 4 rfl rfl fl_Matching_47 h_before rfl ?_
  refine s_aload_n 5 rfl rfl rfl ?_
  refine s_getfield 4 0 8 rfl rfl fl_Matching_9 h_this rfl ?_
  refine s_iload_n 9 rfl rfl rfl ?_
  refine s_iaload (p) 10 rfl rfl h_older rfl (by omega) (by decide) ?_
  -- Matching_alike 10: end
  rw [e1]
  refine s_iaload (op) 11 rfl rfl h_bm rfl (by omega) (by decide) ?_
  -- Matching_alike 11: end
  refine s_aload_n 12 rfl rfl rfl ?_
  refine s_getfield 2 1 15 rfl rfl fl_Matching_47 h_later rfl ?_
  refine s_aload_n 16 rfl rfl rfl ?_
  refine s_getfield 4 1 19 rfl rfl fl_Matching_15 h_this rfl ?_
  refine s_iload 21 rfl rfl rfl ?_
  refine s_iaload (q) 22 rfl rfl h_newer rfl (by omega) (by decide) ?_
  -- Matching_alike 22: end
  rw [e2]
  refine s_iaload (nq) 23 rfl rfl h_lm rfl (by omega) (by decide) ?_
  refine s_icmp_ne 30 26 rfl rfl (by decide) (fun c1 => ?_) (fun c1 => ?_)
  -- Matching_alike 26: branch 30 26
  · rw [if_neg (by simpa using c1)] at hq
    refine s_iconst 0 31 rfl rfl (by decide) ?_
    -- Matching_alike 31: ireturn
    exact s_ireturn rfl .boolean rfl rfl (hq)
  · rw [if_pos (by simpa using c1)] at hq
    refine s_iconst 1 27 rfl rfl (by decide) ?_
    refine s_goto 31 rfl (by decide) ?_
    -- Matching_alike 31: ireturn
    exact s_ireturn rfl .boolean rfl rfl (hq)
/-- the whole row of most is right from (p, q) on -/
def mm_ (al : Nat → Nat → Bool) (O N : Nat) (m : Nat → Int32) (ok : Nat → Nat → Prop) : Prop := ∀ p q, p ≤ O → q ≤ N → ok p q → m (41 * p + q) = nI (mo_ al O N p q)
theorem mo_40 {al : Nat → Nat → Bool} {O N p q : Nat} (hO : O ≤ 40) : mo_ al O N p q ≤ 40 := Nat.le_trans (mo_le _ p q (Nat.le_refl _)) (by omega)
theorem m_Matching_fillMost {b l nb nl O N : Nat} {mo ml eo en m0 : Nat → Int32} {ol ne : Nat → Nat} (h_this : oC M 5 4 (ma_f O N)) (h_before : oC M b 2 (li_f b nb)) (h_later : oC M l 2 (li_f l nl)) (h_bm : iA M (b + 2) 40 mo) (h_lm : iA M (l + 2) 40 ml) (h_older : iA M 6 40 eo) (h_newer : iA M 7 40 en) (h_most : iA M 8 1681 m0) (hb : 9 ≤ b) (hl : 9 ≤ l) (hO : O ≤ 40) (hN : N ≤ 40) (e1 : ∀ p, p < O → eo p = nI (ol p) ∧ ol p < 40) (e2 : ∀ q, q < N → en q = nI (ne q) ∧ ne q < 40) (hq : ∀ m, mm_ (fun p q => decide (mo (ol p) = ml (ne q))) O N m (fun _ _ => True) → Q none (iP M 8 1681 m)) : ax_G g mt_Matching_fillMost (h + 1) 0 0 0 [.ref 5, .ref b, .ref l, .float 0, .float 0, .float 0] [] M Q := by
  generalize hal : (fun p q => decide (mo (ol p) = ml (ne q))) = al at hq
  refine s_aload_n 1 rfl rfl rfl ?_
  refine s_getfield 4 3 4 rfl rfl fl_Matching_25 h_this rfl ?_
  refine s_ist3 5 rfl rfl rfl ?_
  -- Matching_fillMost 5: end
  have outer : ∀ (c : Nat) (m : Nat → Int32) (z4 z5 : Value), z4.category = 1 → z5.category = 1 → c ≤ O + 1 → mm_ al O N m (fun p _ => c ≤ p) → ax_G g mt_Matching_fillMost (h + 1) 0 0 5 [.ref 5, .ref b, .ref l, .int (nI c - 1), z4, z5] [] (iP M 8 1681 m) Q := by
    intro c
    induction c with
    | zero =>
      intro m z4 z5 _ _ _ hm
      refine s_iload_n 6 rfl rfl rfl ?_
      refine s_if_lt 134 9 rfl rfl (by decide) (fun c1 => ?_) (fun c1 => ?_)
      -- Matching_fillMost 9: branch 134 9
      · exact s_return rfl rfl (hq m (fun p q h1 h2 _ => hm p q h1 h2 (Nat.zero_le p)))
      · exact absurd (by decide) c1
    | succ p ih =>
      intro m z4 z5 _ v5 hc hm
      rw [nI_pred]
      refine s_iload_n 6 rfl rfl rfl ?_
      refine s_if_lt 134 9 rfl rfl (by decide) (fun c2 => ?_) (fun c2 => ?_)
      -- Matching_fillMost 9: branch 134 9
      · exact absurd c2 (nI_pos (by omega))
      · refine s_aload_n 10 rfl rfl rfl ?_
        refine s_getfield 4 4 13 rfl rfl fl_Matching_29 h_this rfl ?_
        refine s_ist4 15 rfl rfl rfl ?_
        -- Matching_fillMost 15: end
        have inner : ∀ (c : Nat) (m : Nat → Int32) (z5 : Value), z5.category = 1 → c ≤ N + 1 → mm_ al O N m (fun p' q => p < p' ∨ (p = p' ∧ c ≤ q)) → ax_G g mt_Matching_fillMost (h + 1) 0 0 15 [.ref 5, .ref b, .ref l, .int (nI p), .int (nI c - 1), z5] [] (iP M 8 1681 m) Q := by
          intro c
          induction c with
          | zero =>
            intro m z5 v5 _ hm
            refine s_iload 17 rfl rfl rfl ?_
            refine s_if_lt 128 20 rfl rfl (by decide) (fun c3 => ?_) (fun c3 => ?_)
            -- Matching_fillMost 20: branch 128 20
            · refine s_inc3 _ 131 rfl rfl rfl rfl ?_
              refine s_goto 5 rfl (by decide) ?_
              -- Matching_fillMost 5: end
              rw [dec1]
              exact ih m _ _ rfl v5 (by omega) (fun p' q h1 h2 h3 => hm p' q h1 h2 (by omega))
            · exact absurd (by decide) c3
          | succ q ih2 =>
            intro m z5 v5 hc2 hm
            rw [nI_pred]
            have last : ∀ (v : Nat), v = mo_ al O N p q → ax_G g mt_Matching_fillMost (h + 1) 0 0 122 [.ref 5, .ref b, .ref l, .int (nI p), .int (nI q), .int (nI (41 * p + q))] [] (iP M 8 1681 (upd m (41 * p + q) (nI v))) Q := by
              intro v hv
              refine s_inc4 _ 125 rfl rfl rfl rfl ?_
              refine s_goto 15 rfl (by decide) ?_
              -- Matching_fillMost 15: end
              rw [dec1]
              refine ih2 _ _ rfl (by omega) (fun p' q' h1 h2 h3 => ?_)
              unfold upd
              by_cases w : p' = p ∧ q' = q
              · obtain ⟨w1, w2⟩ := w
                subst w1; subst w2
                rw [if_pos rfl, hv]
              · rw [if_neg (by omega)]
                exact hm p' q' h1 h2 (by omega)
            refine s_iload 17 rfl rfl rfl ?_
            refine s_if_lt 128 20 rfl rfl (by decide) (fun c4 => ?_) (fun c4 => ?_)
            -- Matching_fillMost 20: branch 128 20
            · exact absurd c4 (nI_pos (by omega))
            · refine s_iload_n 21 rfl rfl rfl ?_
              refine s_bipush 41 23 rfl rfl (by decide) ?_
              refine s_imul 24 rfl rfl ?_
              -- Matching_fillMost 24: end
              rw [show nI p * 41 = nI (41 * p) by rw [show (41 : Int32) = nI 41 from rfl, pk_mul, Nat.mul_comm]]
              refine s_iload 26 rfl rfl rfl ?_
              refine s_iadd 27 rfl rfl ?_
              -- Matching_fillMost 27: end
              rw [nI_add]
              refine s_ist5 29 rfl rfl rfl ?_
              refine s_iload_n 30 rfl rfl rfl ?_
              refine s_aload_n 31 rfl rfl rfl ?_
              refine s_getfield 4 3 34 rfl rfl fl_Matching_25 h_this rfl ?_
              refine s_icmp_eq 46 37 rfl rfl (by decide) (fun c5 => ?_) (fun c5 => ?_)
              -- Matching_fillMost 37: branch 46 37
              · have c5 := nn_eq c5
                refine s_aload_n 47 rfl rfl rfl ?_
                refine s_getfield 4 2 50 rfl rfl fl_Matching_18 h_this rfl ?_
                refine s_iload 52 rfl rfl rfl ?_
                refine s_iconst 0 53 rfl rfl (by decide) ?_
                refine s_iastore (41 * p + q) 54 rfl rfl rfl rfl (by omega) (by decide) ?_
                refine s_goto 122 rfl (by decide) ?_
                -- Matching_fillMost 122: end
                unfold iP
                rw [ax_pp]
                exact last 0 (by rw [mo_0 (by omega)])
              · have c5 := nn_ne c5
                refine s_iload 39 rfl rfl rfl ?_
                refine s_aload_n 40 rfl rfl rfl ?_
                refine s_getfield 4 4 43 rfl rfl fl_Matching_29 h_this rfl ?_
                refine s_icmp_ne 57 46 rfl rfl (by decide) (fun c6 => ?_) (fun c6 => ?_)
                -- Matching_fillMost 46: branch 57 46
                · have c6 := nn_ne c6
                  obtain ⟨d1, d2⟩ := e1 p (by omega)
                  obtain ⟨d3, d4⟩ := e2 q (by omega)
                  refine s_aload_n 58 rfl rfl rfl ?_
                  refine s_aload_n 59 rfl rfl rfl ?_
                  refine s_aload_n 60 rfl rfl rfl ?_
                  refine s_iload_n 61 rfl rfl rfl ?_
                  refine s_iload 63 rfl rfl rfl ?_
                  refine c_callV4 h 66 rfl rfl mv_Matching_50 (by omega) (Nat.le_of_ble_eq_true rfl) (Nat.le_of_ble_eq_true rfl) h_this rfl rfl ?_
                  -- Matching_fillMost 66: call Matching_alike
                  refine m_Matching_alike (M := iP M 8 1681 m) h_this (ax_ne (by omega) h_before) (ax_ne (by omega) h_later) (ax_ne (by omega) h_bm) (ax_ne (by omega) h_lm) h_older h_newer (by omega) (by omega) d1 d3 d2 d4 ?_
                  dsimp only [ax_rs]
                  have ea : decide (mo (ol p) = ml (ne q)) = al p q := by rw [← hal]
                  rw [ea]
                  refine s_if_eq 93 69 rfl rfl (by decide) (fun c7 => ?_) (fun c7 => ?_)
                  -- Matching_fillMost 69: branch 93 69
                  · rw [i01] at c7
                    refine s_aload_n 94 rfl rfl rfl ?_
                    refine s_getfield 4 2 97 rfl rfl fl_Matching_18 h_this rfl ?_
                    refine s_iload 99 rfl rfl rfl ?_
                    refine s_aload_n 100 rfl rfl rfl ?_
                    refine s_getfield 4 2 103 rfl rfl fl_Matching_18 h_this rfl ?_
                    refine s_iload 105 rfl rfl rfl ?_
                    refine s_bipush 41 107 rfl rfl (by decide) ?_
                    refine s_iadd 108 rfl rfl ?_
                    -- Matching_fillMost 108: end
                    rw [show nI (41 * p + q) + 41 = nI (41 * (p + 1) + q) by rw [show 41 * (p + 1) + q = 41 * p + q + 41 by omega]; exact nI_add _ 41]
                    refine s_iaload (41 * (p + 1) + q) 109 rfl rfl rfl rfl (by omega) (by decide) ?_
                    -- Matching_fillMost 109: end
                    rw [hm (p + 1) q (by omega) (by omega) (Or.inl (by omega))]
                    refine s_aload_n 110 rfl rfl rfl ?_
                    refine s_getfield 4 2 113 rfl rfl fl_Matching_18 h_this rfl ?_
                    refine s_iload 115 rfl rfl rfl ?_
                    refine s_iconst 1 116 rfl rfl (by decide) ?_
                    refine s_iadd 117 rfl rfl ?_
                    -- Matching_fillMost 117: end
                    rw [nI_1]
                    refine s_iaload (41 * p + (q + 1)) 118 rfl rfl rfl rfl (by omega) (by decide) ?_
                    -- Matching_fillMost 118: end
                    rw [hm p (q + 1) (by omega) (by omega) (Or.inr ⟨rfl, by omega⟩)]
                    refine s_mmax 121 rfl rfl mm_Matching_54 (by omega) (Nat.le_of_ble_eq_true rfl) ?_
                    -- Matching_fillMost 121: end
                    have b1 := mo_40 (al := al) (N := N) (p := p + 1) (q := q) hO
                    have b2 := mo_40 (al := al) (N := N) (p := p) (q := q + 1) hO
                    have e5 : (if nI (mo_ al O N (p + 1) q) < nI (mo_ al O N p (q + 1)) then nI (mo_ al O N p (q + 1)) else nI (mo_ al O N (p + 1) q)) = nI (mo_ al O N p q) := by
                      rw [mo_na (p := p) (q := q) (by omega) (by simp [c7])]
                      by_cases w : mo_ al O N (p + 1) q < mo_ al O N p (q + 1)
                      · rw [if_pos ((nI_ltI (by omega) (by omega)).mpr w), Nat.max_eq_right (by omega)]
                      · rw [if_neg (fun v => w (nn_lt v)), Nat.max_eq_left (by omega)]
                    rw [e5]
                    refine s_iastore (41 * p + q) 122 rfl rfl rfl rfl (by omega) (by decide) ?_
                    -- Matching_fillMost 122: end
                    unfold iP
                    rw [ax_pp]
                    exact last _ rfl
                  · rw [i01] at c7
                    have c7 : al p q = true := by simpa using c7
                    refine s_aload_n 70 rfl rfl rfl ?_
                    refine s_getfield 4 2 73 rfl rfl fl_Matching_18 h_this rfl ?_
                    refine s_iload 75 rfl rfl rfl ?_
                    refine s_iconst 1 76 rfl rfl (by decide) ?_
                    refine s_aload_n 77 rfl rfl rfl ?_
                    refine s_getfield 4 2 80 rfl rfl fl_Matching_18 h_this rfl ?_
                    refine s_iload 82 rfl rfl rfl ?_
                    refine s_bipush 41 84 rfl rfl (by decide) ?_
                    refine s_iadd 85 rfl rfl ?_
                    -- Matching_fillMost 85: end
                    rw [show nI (41 * p + q) + 41 = nI (41 * (p + 1) + q) by rw [show 41 * (p + 1) + q = 41 * p + q + 41 by omega]; exact nI_add _ 41]
                    refine s_iconst 1 86 rfl rfl (by decide) ?_
                    refine s_iadd 87 rfl rfl ?_
                    -- Matching_fillMost 87: end
                    rw [nI_1]
                    refine s_iaload (41 * (p + 1) + (q + 1)) 88 rfl rfl rfl rfl (by omega) (by decide) ?_
                    -- Matching_fillMost 88: end
                    rw [hm (p + 1) (q + 1) (by omega) (by omega) (Or.inl (by omega))]
                    refine s_iadd 89 rfl rfl ?_
                    -- Matching_fillMost 89: end
                    rw [show (1 : Int32) + nI (mo_ al O N (p + 1) (q + 1)) = nI (1 + mo_ al O N (p + 1) (q + 1)) from nI_add 1 _]
                    refine s_iastore (41 * p + q) 90 rfl rfl rfl rfl (by omega) (by decide) ?_
                    refine s_goto 122 rfl (by decide) ?_
                    -- Matching_fillMost 122: end
                    unfold iP
                    rw [ax_pp]
                    exact last _ (mo_al (by omega) c7).symm
                · have c6 := nn_eq c6
                  refine s_aload_n 47 rfl rfl rfl ?_
                  refine s_getfield 4 2 50 rfl rfl fl_Matching_18 h_this rfl ?_
                  refine s_iload 52 rfl rfl rfl ?_
                  refine s_iconst 0 53 rfl rfl (by decide) ?_
                  refine s_iastore (41 * p + q) 54 rfl rfl rfl rfl (by omega) (by decide) ?_
                  refine s_goto 122 rfl (by decide) ?_
                  -- Matching_fillMost 122: end
                  unfold iP
                  rw [ax_pp]
                  exact last 0 (by rw [mo_0 (by omega)])
        have h9 := inner (N + 1) m _ v5 (Nat.le_refl _) (fun p' q h1 h2 h3 => hm p' q h1 h2 (by omega))
        rw [nI_pred] at h9
        exact h9
  have h0 := outer (O + 1) m0 (.float 0) (.float 0) rfl rfl (Nat.le_refl _) (fun p q h1 h2 h3 => by omega)
  unfold iP at h0
  rw [ax_id h_most, nI_pred] at h0
  exact h0
def oI (x : Option Nat) : Int32 := match x with
  | none => -1
  | some k => nI k
/-- a row of pairs -/
def rp_ (e : Nat → Int32) (f : Nat → Option Nat) (n : Nat) : Prop := ∀ j, j < n → e j = oI (f j)
theorem rp_up {e : Nat → Int32} {f : Nat → Option Nat} {n i v : Nat} (h : rp_ e f n) : rp_ (upd e i (nI v)) (uo_ f i (some v)) n := by
  intro j hj
  unfold upd uo_
  by_cases z : j = i
  · rw [if_pos z, if_pos z]; rfl
  · rw [if_neg z, if_neg z]; exact h j hj
theorem m_Matching_pair {b l nb nl O N : Nat} {mo ml eo en m be : Nat → Int32} {ol ne : Nat → Nat} {bf wt : Nat → Option Nat} {d0 : Nat} (h_this : oC M 5 4 (ma_f O N)) (h_before : oC M b 2 (li_f b nb)) (h_later : oC M l 2 (li_f l nl)) (h_bm : iA M (b + 2) 40 mo) (h_lm : iA M (l + 2) 40 ml) (h_lb : iA M (l + 3) 40 be) (h_older : iA M 6 40 eo) (h_newer : iA M 7 40 en) (h_most : iA M 8 1681 m) (hb : 9 ≤ b) (hl : 9 ≤ l) (hbl : b + 3 < l ∨ l + 3 < b) (hO : O ≤ 40) (hN : N ≤ 40) (hnl : nl ≤ 40) (e1 : ∀ p, p < O → eo p = nI (ol p) ∧ ol p < 40) (e2 : ∀ q, q < N → en q = nI (ne q) ∧ ne q < 40) (hm : mm_ (fun p q => decide (mo (ol p) = ml (ne q))) O N m (fun _ _ => True)) (hbe : rp_ be bf nl) (hd : O + N ≤ d0) (hq : ∀ be, rp_ be (pw_ (fun p q => decide (mo (ol p) = ml (ne q))) O N ol ne d0 0 0 bf wt).1 nl → Q none (iP M (l + 3) 40 be)) : ax_G g mt_Matching_pair (h + 1) 0 0 0 [.ref 5, .ref b, .ref l, .float 0, .float 0, .float 0] [] M Q := by
  generalize hal : (fun p q => decide (mo (ol p) = ml (ne q))) = al at hq hm
  refine s_iconst 0 1 rfl rfl (by decide) ?_
  refine s_ist3 2 rfl rfl rfl ?_
  refine s_iconst 0 3 rfl rfl (by decide) ?_
  refine s_ist4 5 rfl rfl rfl ?_
  -- Matching_pair 5: end
  have loop : ∀ (d p q : Nat) (be : Nat → Int32) (bf wt : Nat → Option Nat) (z5 : Value), z5.category = 1 → p ≤ O → q ≤ N → (O - p) + (N - q) ≤ d → rp_ be bf nl → (∀ be, rp_ be (pw_ al O N ol ne d p q bf wt).1 nl → Q none (iP M (l + 3) 40 be)) → ax_G g mt_Matching_pair (h + 1) 0 0 5 [.ref 5, .ref b, .ref l, .int (nI p), .int (nI q), z5] [] (iP M (l + 3) 40 be) Q := by
    intro d
    have t1 : ∀ be, oC (iP M (l + 3) 40 be) 5 4 (ma_f O N) := fun be => ax_ne (by omega) h_this
    have t2 : ∀ be, iA (iP M (l + 3) 40 be) 6 40 eo := fun be => ax_ne (by omega) h_older
    have t3 : ∀ be, iA (iP M (l + 3) 40 be) 7 40 en := fun be => ax_ne (by omega) h_newer
    have t4 : ∀ be, iA (iP M (l + 3) 40 be) 8 1681 m := fun be => ax_ne (by omega) h_most
    have t5 : ∀ be, oC (iP M (l + 3) 40 be) l 2 (li_f l nl) := fun be => ax_ne (by omega) h_later
    have t6 : ∀ be, oC (iP M (l + 3) 40 be) b 2 (li_f b nb) := fun be => ax_ne (by omega) h_before
    have t7 : ∀ be, iA (iP M (l + 3) 40 be) (l + 2) 40 ml := fun be => ax_ne (by omega) h_lm
    have t8 : ∀ be, iA (iP M (l + 3) 40 be) (b + 2) 40 mo := fun be => ax_ne (by omega) h_bm
    induction d with
    | zero =>
      intro p q be bf wt z5 _ hp hq' hd hbe hq
      refine s_iload_n 6 rfl rfl rfl ?_
      refine s_aload_n 7 rfl rfl rfl ?_
      refine s_getfield 4 3 10 rfl rfl fl_Matching_25 (t1 be) rfl ?_
      refine s_icmp_ge 104 13 rfl rfl (by decide) (fun c1 => ?_) (fun c1 => ?_)
      -- Matching_pair 13: branch 104 13
      · exact s_return rfl rfl (hq be hbe)
      · exact absurd (nn_nle c1) (by omega)
    | succ d ih =>
      intro p q be bf wt z5 v5 hp hq' hd hbe hq
      rw [pw_] at hq
      refine s_iload_n 6 rfl rfl rfl ?_
      refine s_aload_n 7 rfl rfl rfl ?_
      refine s_getfield 4 3 10 rfl rfl fl_Matching_25 (t1 be) rfl ?_
      refine s_icmp_ge 104 13 rfl rfl (by decide) (fun c2 => ?_) (fun c2 => ?_)
      -- Matching_pair 13: branch 104 13
      · rw [if_neg (by have := nn_le c2; omega)] at hq
        exact s_return rfl rfl (hq be hbe)
      · have c2 := nn_nle c2
        refine s_iload 15 rfl rfl rfl ?_
        refine s_aload_n 16 rfl rfl rfl ?_
        refine s_getfield 4 4 19 rfl rfl fl_Matching_29 (t1 be) rfl ?_
        refine s_icmp_ge 104 22 rfl rfl (by decide) (fun c3 => ?_) (fun c3 => ?_)
        -- Matching_pair 22: branch 104 22
        · rw [if_neg (by have := nn_le c3; omega)] at hq
          exact s_return rfl rfl (hq be hbe)
        · have c3 := nn_nle c3
          rw [if_pos ⟨c2, c3⟩] at hq
          obtain ⟨d1, d2⟩ := e1 p (by omega)
          obtain ⟨d3, d4⟩ := e2 q (by omega)
          refine s_iload_n 23 rfl rfl rfl ?_
          refine s_bipush 41 25 rfl rfl (by decide) ?_
          refine s_imul 26 rfl rfl ?_
          -- Matching_pair 26: end
          rw [show nI p * 41 = nI (41 * p) by rw [show (41 : Int32) = nI 41 from rfl, pk_mul, Nat.mul_comm]]
          refine s_iload 28 rfl rfl rfl ?_
          refine s_iadd 29 rfl rfl ?_
          -- Matching_pair 29: end
          rw [nI_add]
          refine s_ist5 31 rfl rfl rfl ?_
          refine s_aload_n 32 rfl rfl rfl ?_
          refine s_aload_n 33 rfl rfl rfl ?_
          refine s_aload_n 34 rfl rfl rfl ?_
          refine s_iload_n 35 rfl rfl rfl ?_
          refine s_iload 37 rfl rfl rfl ?_
          refine c_callV4 h 40 rfl rfl mv_Matching_50 (by omega) (Nat.le_of_ble_eq_true rfl) (Nat.le_of_ble_eq_true rfl) (t1 be) rfl rfl ?_
          -- Matching_pair 40: call Matching_alike
          refine m_Matching_alike (t1 be) (t6 be) (t5 be) (t8 be) (t7 be) (t2 be) (t3 be) (by omega) (by omega) d1 d3 d2 d4 ?_
          dsimp only [ax_rs]
          have ea : decide (mo (ol p) = ml (ne q)) = al p q := by rw [← hal]
          rw [ea]
          refine s_if_eq 70 43 rfl rfl (by decide) (fun c4 => ?_) (fun c4 => ?_)
          -- Matching_pair 43: branch 70 43
          · rw [i01] at c4
            rw [if_neg (by simp [c4])] at hq
            have f1 := hm (p + 1) q (by omega) (by omega) trivial
            have f2 := hm p (q + 1) (by omega) (by omega) trivial
            have g1 := mo_40 (al := al) (N := N) (p := p + 1) (q := q) hO
            have g2 := mo_40 (al := al) (N := N) (p := p) (q := q + 1) hO
            refine s_aload_n 71 rfl rfl rfl ?_
            refine s_getfield 4 2 74 rfl rfl fl_Matching_18 (t1 be) rfl ?_
            refine s_iload 76 rfl rfl rfl ?_
            refine s_bipush 41 78 rfl rfl (by decide) ?_
            refine s_iadd 79 rfl rfl ?_
            -- Matching_pair 79: end
            rw [show nI (41 * p + q) + 41 = nI (41 * (p + 1) + q) by rw [show 41 * (p + 1) + q = 41 * p + q + 41 by omega]; exact nI_add _ 41]
            refine s_iaload (41 * (p + 1) + q) 80 rfl rfl (t4 be) rfl (by omega) (by decide) ?_
            -- Matching_pair 80: end
            rw [f1]
            refine s_aload_n 81 rfl rfl rfl ?_
            refine s_getfield 4 2 84 rfl rfl fl_Matching_18 (t1 be) rfl ?_
            refine s_iload 86 rfl rfl rfl ?_
            refine s_iconst 1 87 rfl rfl (by decide) ?_
            refine s_iadd 88 rfl rfl ?_
            -- Matching_pair 88: end
            rw [nI_1]
            refine s_iaload (41 * p + (q + 1)) 89 rfl rfl (t4 be) rfl (by omega) (by decide) ?_
            -- Matching_pair 89: end
            rw [f2]
            refine s_icmp_lt 98 92 rfl rfl (by decide) (fun c5 => ?_) (fun c5 => ?_)
            -- Matching_pair 92: branch 98 92
            · rw [if_neg (by have := nn_lt c5; omega)] at hq
              refine s_inc4 _ 101 rfl rfl rfl rfl ?_
              refine s_goto 5 rfl (by decide) ?_
              -- Matching_pair 5: end
              rw [inc1]
              exact ih p (q + 1) be bf wt _ rfl (by omega) (by omega) (by omega) hbe hq
            · rw [if_pos (by have := nn_nlt c5; omega)] at hq
              refine s_inc3 _ 95 rfl rfl rfl rfl ?_
              refine s_goto 101 rfl (by decide) ?_
              refine s_goto 5 rfl (by decide) ?_
              -- Matching_pair 5: end
              rw [inc1]
              exact ih (p + 1) q be bf wt _ rfl (by omega) (by omega) (by omega) hbe hq
          · rw [i01] at c4
            rw [if_pos (by simpa using c4)] at hq
            refine s_aload_n 44 rfl rfl rfl ?_
            refine s_getfield 2 2 47 rfl rfl fl_Matching_60 (t5 be) rfl ?_
            refine s_aload_n 48 rfl rfl rfl ?_
            refine s_getfield 4 1 51 rfl rfl fl_Matching_15 (t1 be) rfl ?_
            refine s_iload 53 rfl rfl rfl ?_
            refine s_iaload (q) 54 rfl rfl (t3 be) rfl (by omega) (by decide) ?_
            -- Matching_pair 54: end
            rw [d3]
            refine s_aload_n 55 rfl rfl rfl ?_
            refine s_getfield 4 0 58 rfl rfl fl_Matching_9 (t1 be) rfl ?_
            refine s_iload_n 59 rfl rfl rfl ?_
            refine s_iaload (p) 60 rfl rfl (t2 be) rfl (by omega) (by decide) ?_
            -- Matching_pair 60: end
            rw [d1]
            refine s_iastore (ne q) 61 rfl rfl ax_eq rfl (by omega) (by decide) ?_
            refine s_inc3 _ 64 rfl rfl rfl rfl ?_
            refine s_inc4 _ 67 rfl rfl rfl rfl ?_
            refine s_goto 101 rfl (by decide) ?_
            refine s_goto 5 rfl (by decide) ?_
            -- Matching_pair 5: end
            unfold iP
            rw [ax_pp, inc1, inc1]
            exact ih (p + 1) (q + 1) _ _ _ _ rfl (by omega) (by omega) (by omega) (rp_up hbe) hq
  have h0 := loop d0 0 0 be bf wt (.float 0) rfl (by omega) (by omega) (by omega) hbe hq
  unfold iP at h0
  rw [ax_id h_lb] at h0
  exact h0
end MAT
