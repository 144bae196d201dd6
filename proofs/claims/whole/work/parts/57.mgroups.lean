/-! groups: the reference -/
theorem nn_m2 {a : Nat} (ha : a < 2147483648) : ¬ nI a = -2 := by
  intro q
  have h := nI_toInt (n := a) ha
  rw [q] at h
  have : (-2 : Int32).toInt = -2 := by decide
  omega
theorem Lr_m {op : Nat → Bool} {tr : Nat → Nat → Bool} {al r : Nat} {a : Nat} : ∀ d, Lr_ op tr al (r + d) a = true → Lr_ op tr al r a = true := by
  intro d
  induction d with
  | zero => exact id
  | succ d ih =>
    intro q
    rw [show r + (d + 1) = (r + d) + 1 by omega, Lr_] at q
    exact ih (Bool.and_eq_true_iff.mp q).1
/-- the alarms' groups behind r rounds of the reference -/
def Gr_ (op : Nat → Bool) (tr : Nat → Nat → Bool) (al r : Nat) (go fo : Nat → Int32) : Prop := (∀ a, a < al → (go a = -1 ↔ Lr_ op tr al r a = true)) ∧ (∀ a, a < al → ∀ k, r ≤ k → k < 100 → go a ≠ nI k) ∧ ∀ k, k < r → bk_ op tr al k ≠ -1 ∧ fo k = bk_ op tr al k ∧ ∀ a, a < al → (go a = nI k ↔ (Lr_ op tr al k a && tr (bk_ op tr al k).toNatClampNeg a) = true)
def gy_ (op : Nat → Bool) (tr : Nat → Nat → Bool) (al T gm : Nat) (go fo : Nat → Int32) : Prop := T ≤ 16 ∧ bk_ op tr al T = -1 ∧ (∀ k, k < T → bk_ op tr al k ≠ -1 ∧ fo k = bk_ op tr al k ∧ ∀ a, a < al → (go a = nI k ↔ (Lr_ op tr al k a && tr (bk_ op tr al k).toNatClampNeg a) = true)) ∧ (((∀ a, a < al → Lr_ op tr al T a = false) ∧ gm = T) ∨ ((∃ a, a < al ∧ Lr_ op tr al T a = true) ∧ gm = T + 1 ∧ fo T = -1 ∧ ∀ a, a < al → (go a = nI T ↔ Lr_ op tr al T a = true)))
theorem gg_ {op : Nat → Bool} {tr : Nat → Nat → Bool} {al T n T' n' : Nat} {gf fo go : Nat → Int32} {gs : Nat → Int64} (h1 : gz_ op tr al T n gf gs) (h2 : gy_ op tr al T' n' go fo) : n = n' ∧ n ≤ 17 ∧ (∀ k, k < n → gf k = fo k) ∧ ∀ k, k < n → ∀ a, a < 64 → lb (gs k) a = (decide (a < al) && decide (go a = nI k)) := by
  obtain ⟨a1, a2, a3, a4⟩ := h1
  obtain ⟨b1, b2, b3, b4⟩ := h2
  have e : T = T' := by
    rcases Nat.lt_trichotomy T T' with z | z | z
    · exact absurd a2 (b3 T z).1
    · exact z
    · exact absurd b2 (a3 T' z).1
  subst e
  have old : ∀ k, k < T → gf k = fo k ∧ ∀ a, a < 64 → lb (gs k) a = (decide (a < al) && decide (go a = nI k)) := by
    intro k hk
    obtain ⟨-, p2, p3⟩ := a3 k hk
    obtain ⟨-, q2, q3⟩ := b3 k hk
    refine ⟨p2.trans q2.symm, fun a ha => ?_⟩
    rw [p3 a ha]
    by_cases z : a < al
    · rw [decide_eq_true z, Bool.true_and, Bool.true_and]
      exact (Bool.eq_iff_iff.mpr ((q3 a z).symm.trans (by simp)))
    · rw [decide_eq_false z]; rfl
  rcases a4 with ⟨p1, p2⟩ | ⟨⟨a, p0, p1⟩, p2, p3, p4⟩
  · rcases b4 with ⟨q1, q2⟩ | ⟨⟨c, q0, q1⟩, q2, q3, q4⟩
    · subst p2; subst q2
      exact ⟨rfl, by omega, fun k hk => (old k hk).1, fun k hk => (old k hk).2⟩
    · rw [p1 c q0] at q1; cases q1
  · rcases b4 with ⟨q1, q2⟩ | ⟨⟨c, q0, q1⟩, q2, q3, q4⟩
    · rw [q1 a p0] at p1; cases p1
    · subst p2; subst q2
      refine ⟨rfl, by omega, fun k hk => ?_, fun k hk => ?_⟩
      · by_cases z : k = T
        · subst z; exact p3.trans q3.symm
        · exact (old k (by omega)).1
      · by_cases z : k = T
        · subst z
          intro b hb
          rw [p4 b hb]
          by_cases z : b < al
          · rw [decide_eq_true z, Bool.true_and, Bool.true_and]
            exact (Bool.eq_iff_iff.mpr ((q4 b z).symm.trans (by simp)))
          · rw [decide_eq_false z]; rfl
        · exact (old k (by omega)).2
/-- those without a group that p lets in, below i, into group k -/
def ga_ (go : Nat → Int32) (p : Nat → Bool) (k i : Nat) : Nat → Int32 := fun a => if a < i ∧ go a = -1 ∧ p a = true then nI k else go a
theorem Gr_s {op : Nat → Bool} {tr : Nat → Nat → Bool} {al r f : Nat} {go fo : Nat → Int32} (h : Gr_ op tr al r go fo) (hr : r < 17) (hf : f < 16) (e : bk_ op tr al r = nI f) : Gr_ op tr al (r + 1) (ga_ go (tr f) r al) (upd fo r (nI f)) := by
  obtain ⟨h1, h2, h3⟩ := h
  refine ⟨fun a ha => ?_, fun a ha k hk hk2 => ?_, fun k hk => ?_⟩
  · rw [Lr_s op tr al r hf e, Bool.and_eq_true_iff, ← h1 a ha]
    unfold ga_
    by_cases z : go a = -1
    · by_cases q : tr f a = true
      · rw [if_pos ⟨ha, z, q⟩, q]
        exact ⟨fun w => absurd w (nn_m1 (by omega)), fun w => absurd w.2 (by decide)⟩
      · rw [if_neg (fun w => q w.2.2)]
        exact ⟨fun w => ⟨w, by simpa using q⟩, fun w => w.1⟩
    · rw [if_neg (fun w => z w.2.1)]
      exact ⟨fun w => absurd w z, fun w => absurd w.1 z⟩
  · unfold ga_
    split
    · intro w
      have := nn_eq w
      omega
    · exact h2 a ha k (by omega) hk2
  · by_cases z : k = r
    · subst z
      refine ⟨fun w => nn_m1 (by omega) (e.symm.trans w), ?_, fun a ha => ?_⟩
      · unfold upd
        rw [if_pos rfl, e]
      · rw [e, nI_clamp (by omega), Bool.and_eq_true_iff, ← h1 a ha]
        unfold ga_
        by_cases z : go a = -1 ∧ tr f a = true
        · rw [if_pos ⟨ha, z⟩]
          exact ⟨fun _ => z, fun _ => rfl⟩
        · rw [if_neg (fun w => z w.2)]
          exact ⟨fun w => absurd w (h2 a ha k (Nat.le_refl k) (by omega)), fun w => absurd w z⟩
    · obtain ⟨p1, p2, p3⟩ := h3 k (by omega)
      refine ⟨p1, ?_, fun a ha => ?_⟩
      · unfold upd
        rw [if_neg z]
        exact p2
      · rw [← p3 a ha]
        unfold ga_
        by_cases w : go a = -1 ∧ tr f a = true
        · rw [if_pos ⟨ha, w⟩]
          refine ⟨fun v => ?_, fun v => ?_⟩
          · have := nn_eq v
            omega
          · rw [w.1] at v
            exact absurd v.symm (nn_m1 (by omega))
        · rw [if_neg (fun v => w v.2)]
abbrev gn_m (M : ax_M) (s : Sta) (n dr pa cm os tk pl bh : Int32) (va : Int64) (iw od : Int32) (go fo : Nat → Int32) (k : Nat) : ax_M := md_m (iP (iP M 164 50 go) 165 18 fo) n (nI (sBl s)) (nI (sLn s)) dr (nI (sAl s)) (nI (sRu s)) (sPv s) (nI (sSi s)) pa cm os (nI k) tk pl bh va iw od
theorem ax_q1 {M : ax_M} {a b c : Nat} {e1 e2 e3 e4 : ax_E} (hab : a ≠ b) (hac : c ≠ a) : ax_put (ax_put (ax_put (ax_put M a e1) b e2) c e3) a e4 = ax_put (ax_put (ax_put M a e4) b e2) c e3 := by
  rw [ax_px _ _ hac, ax_p3 hab]
section MGRP
variable {g : ax_Y} {M : ax_M} {Q : Option Value → ax_M → Prop} {h : Nat} {s : Sta} {n dr pa cm os gm tk pl bh : Int32} {va : Int64} {iw od : Int32} {go fo : Nat → Int32}
theorem gn_K {k : Nat} (hK : KM M s n dr pa cm os gm tk pl bh va iw od) : KM (gn_m M s n dr pa cm os tk pl bh va iw od go fo k) s n dr pa cm os (nI k) tk pl bh va iw od := hK.mv rfl (fun k hk => ax_ne (by omega) (ax_ne (by omega) (ax_ne (by omega) rfl)))
theorem m_Mod_gather {x kn : Int32} {k : Nat} {p : Nat → Bool} (hK : KM M s n dr pa cm os gm tk pl bh va iw od) (hk : k ≤ 17) (hp : ∀ a, a < sAl s → cz (sWa s a) kn = p a) (hq : Q none (gn_m M s n dr pa cm os tk pl bh va iw od (ga_ go p k (sAl s)) (upd fo k x) (k + 1))) : ax_G g mt_Mod_gather (h + 1) 0 0 0 [.ref 143, .int x, .int kn, .float 0] [] (gn_m M s n dr pa cm os tk pl bh va iw od go fo k) Q := by
  obtain ⟨b1, b2, b3, b4, b5⟩ := hK.bd
  refine s_iconst 0 1 rfl rfl (by decide) ?_
  refine s_ist3 2 rfl rfl rfl ?_
  -- Mod_gather 2: end
  have loop : ∀ (d i : Nat), i + d = sAl s → ax_G g mt_Mod_gather (h + 1) 0 0 2 [.ref 143, .int x, .int kn, .int (nI i)] [] (gn_m M s n dr pa cm os tk pl bh va iw od (ga_ go p k i) fo k) Q := by
    intro d
    induction d with
    | zero =>
      intro i hi
      obtain rfl : i = sAl s := by omega
      refine s_iload_n 3 rfl rfl rfl ?_
      refine s_aload_n 4 rfl rfl rfl ?_
      refine s_getfield 12 15 7 rfl rfl fl_Mod_169 rfl rfl ?_
      refine s_icmp_ge 45 10 rfl rfl (by decide) (fun c1 => ?_) (fun c1 => ?_)
      -- Mod_gather 10: branch 45 10
      · refine s_aload_n 46 rfl rfl rfl ?_
        refine s_getfield 12 28 49 rfl rfl fl_Mod_73 rfl rfl ?_
        refine s_aload_n 50 rfl rfl rfl ?_
        refine s_getfield 12 29 53 rfl rfl fl_Mod_205 rfl rfl ?_
        refine s_iload_n 54 rfl rfl rfl ?_
        refine s_iastore (k) 55 rfl rfl rfl rfl (by omega) (by decide) ?_
        refine s_aload_n 56 rfl rfl rfl ?_
        refine s_dup 57 rfl rfl rfl ?_
        refine s_getfield 12 29 60 rfl rfl fl_Mod_205 rfl rfl ?_
        refine s_iconst 1 61 rfl rfl (by decide) ?_
        refine s_iadd 62 rfl rfl ?_
        refine s_putfield 12 29 (.int) 65 rfl rfl fp_Mod_205 rfl (Nat.le_of_ble_eq_true rfl) ⟨rfl, rfl⟩ (fun h => absurd h (by decide)) ?_
        -- Mod_gather 65: end
        rw [nI_1]
        unfold gn_m md_m oP iP
        rw [ax_p4]
        -- Mod_gather 65: return_
        exact s_return rfl rfl (hq)
      · exact absurd (nn_nle c1) (by omega)
    | succ d ih =>
      intro i hi
      have nx := ih (i + 1) (by omega)
      have e0 : ga_ go p k i i = go i := by
        unfold ga_
        rw [if_neg (by omega)]
      have same : ¬ (go i = -1 ∧ p i = true) → ga_ go p k (i + 1) = ga_ go p k i := by
        intro z
        funext a
        unfold ga_
        by_cases q : a = i
        · subst q
          rw [if_neg (fun w => z w.2), if_neg (fun w => z w.2)]
        · by_cases w : a < i ∧ go a = -1 ∧ p a = true
          · rw [if_pos w, if_pos ⟨by omega, w.2⟩]
          · rw [if_neg w, if_neg (fun v => w ⟨by omega, v.2⟩)]
      have other : (go i = -1 ∧ p i = true) → ga_ go p k (i + 1) = upd (ga_ go p k i) i (nI k) := by
        intro z
        funext a
        unfold upd ga_
        by_cases q : a = i
        · subst q
          rw [if_pos ⟨by omega, z⟩, if_pos rfl]
        · rw [if_neg q]
          by_cases w : a < i ∧ go a = -1 ∧ p a = true
          · rw [if_pos w, if_pos ⟨by omega, w.2⟩]
          · rw [if_neg w, if_neg (fun v => w ⟨by omega, v.2⟩)]
      refine s_iload_n 3 rfl rfl rfl ?_
      refine s_aload_n 4 rfl rfl rfl ?_
      refine s_getfield 12 15 7 rfl rfl fl_Mod_169 rfl rfl ?_
      refine s_icmp_ge 45 10 rfl rfl (by decide) (fun c2 => ?_) (fun c2 => ?_)
      -- Mod_gather 10: branch 45 10
      · exact absurd (nn_le c2) (by omega)
      · refine s_aload_n 11 rfl rfl rfl ?_
        refine s_getfield 12 27 14 rfl rfl fl_Mod_70 rfl rfl ?_
        refine s_iload_n 15 rfl rfl rfl ?_
        refine s_iaload (i) 16 rfl rfl rfl rfl (by omega) (by decide) ?_
        -- Mod_gather 16: end
        rw [e0]
        refine s_iconst (-1) 17 rfl rfl (by decide) ?_
        refine s_icmp_ne 39 20 rfl rfl (by decide) (fun c3 => ?_) (fun c3 => ?_)
        -- Mod_gather 20: branch 39 20
        · rw [same (fun z => c3 z.1)] at nx
          refine s_inc3 _ 42 rfl rfl rfl rfl ?_
          refine s_goto 2 rfl (by decide) ?_
          -- Mod_gather 2: end
          rw [inc1]
          exact nx
        · refine s_aload_n 21 rfl rfl rfl ?_
          refine s_iload_n 22 rfl rfl rfl ?_
          refine s_iload_n 23 rfl rfl rfl ?_
          refine c_callV2 h 26 rfl rfl mv_Mod_188 (by omega) (Nat.le_of_ble_eq_true rfl) (Nat.le_of_ble_eq_true rfl) rfl rfl rfl ?_
          -- Mod_gather 26: call Mod_isClosed
          refine m_Mod_isClosed (M := gn_m M s n dr pa cm os tk pl bh va iw od (ga_ go p k i) fo k) rfl hK.wants (by omega) ?_
          dsimp only [ax_rs]
          rw [hp i (by omega)]
          refine s_if_eq 39 29 rfl rfl (by decide) (fun c4 => ?_) (fun c4 => ?_)
          -- Mod_gather 29: branch 39 29
          · rw [bi_0] at c4
            rw [same (fun z => c4 z.2)] at nx
            refine s_inc3 _ 42 rfl rfl rfl rfl ?_
            refine s_goto 2 rfl (by decide) ?_
            -- Mod_gather 2: end
            rw [inc1]
            exact nx
          · rw [bi_0, Classical.not_not] at c4
            rw [other ⟨c3, c4⟩] at nx
            refine s_aload_n 30 rfl rfl rfl ?_
            refine s_getfield 12 27 33 rfl rfl fl_Mod_70 rfl rfl ?_
            refine s_iload_n 34 rfl rfl rfl ?_
            refine s_aload_n 35 rfl rfl rfl ?_
            refine s_getfield 12 29 38 rfl rfl fl_Mod_205 rfl rfl ?_
            refine s_iastore (i) 39 rfl rfl rfl rfl (by omega) (by decide) ?_
            refine s_inc3 _ 42 rfl rfl rfl rfl ?_
            refine s_goto 2 rfl (by decide) ?_
            -- Mod_gather 2: end
            unfold gn_m md_m oP iP at nx ⊢
            rw [ax_q1 (by decide) (by decide), inc1]
            exact nx
  have h0 := loop (sAl s) 0 (by omega)
  rw [show ga_ go p k 0 = go from by funext a; unfold ga_; rw [if_neg (by omega)]] at h0
  exact h0
set_option maxHeartbeats 4000000 in
theorem m_Mod_groupAll {op : Nat → Bool} {tr : Nat → Nat → Bool} (hK : KM M s n dr pa cm os gm tk pl bh va iw od) (h_groupOf : iA M 164 50 go) (h_factOf : iA M 165 18 fo) (hop : ∀ a, a < sAl s → be_ s 3 a = op a) (htr : ∀ f a, f < 16 → a < sAl s → cz (sWa s a) (kw_ (ap_ (sRs s) (fun i => (1 : Int32) <<< (sRh s i &&& 31)) (sRu s)) 33 (sPv s ||| ((1 : Int32) <<< (nI f &&& 31)))) = tr f a) (hwa : ∀ a, a < sAl s → cz (sWa s a) 65535 = true) (hq : ∀ T k go fo, gy_ op tr (sAl s) T k go fo → Q none (gn_m M s n dr pa cm os tk pl bh va iw od go fo k)) : ax_G g mt_Mod_groupAll (h + 3) 0 0 0 [.ref 143, .float 0, .float 0, .float 0, .float 0, .float 0, .float 0, .float 0] [] M Q := by
  obtain ⟨b1, b2, b3, b4, b5⟩ := hK.bd
  refine s_aload_n 1 rfl rfl rfl ?_
  refine s_iconst 0 2 rfl rfl (by decide) ?_
  refine s_putfield 12 29 (.int) 5 rfl rfl fp_Mod_205 hK.this (Nat.le_of_ble_eq_true rfl) ⟨rfl, rfl⟩ (fun h => absurd h (by decide)) ?_
  refine s_iconst 0 6 rfl rfl (by decide) ?_
  refine s_ist1 7 rfl rfl rfl ?_
  -- Mod_groupAll 7: end
  have fin : ∀ (r : Nat) (go fo : Nat → Int32) (z2 z3 z4 z5 z6 z7 : Value), z2.category = 1 → z3.category = 1 → z4.category = 1 → z5.category = 1 → z6.category = 1 → z7.category = 1 → r ≤ 16 → bk_ op tr (sAl s) r = -1 → Gr_ op tr (sAl s) r go fo → ax_G g mt_Mod_groupAll (h + 3) 0 0 182 [.ref 143, .int 0, z2, z3, z4, z5, z6, z7] [] (gn_m M s n dr pa cm os tk pl bh va iw od go fo r) Q := by
    intro r go fo z2 z3 z4 z5 z6 z7 _ _ w4 w5 w6 w7 hr hb hG
    obtain ⟨G1, G2, G3⟩ := hG
    refine s_iconst 0 183 rfl rfl (by decide) ?_
    refine s_ist2 184 rfl rfl rfl ?_
    refine s_iconst 0 185 rfl rfl (by decide) ?_
    refine s_ist3 186 rfl rfl rfl ?_
    -- Mod_groupAll 186: end
    have loop : ∀ (d i : Nat) (x : Bool), i + d = sAl s → (x = true ↔ ∃ a, a < i ∧ Lr_ op tr (sAl s) r a = true) → ax_G g mt_Mod_groupAll (h + 3) 0 0 186 [.ref 143, .int 0, .int (if x then 1 else 0), .int (nI i), z4, z5, z6, z7] [] (gn_m M s n dr pa cm os tk pl bh va iw od go fo r) Q := by
      intro d
      induction d with
      | zero =>
        intro i x hi hx
        obtain rfl : i = sAl s := by omega
        refine s_iload_n 187 rfl rfl rfl ?_
        refine s_aload_n 188 rfl rfl rfl ?_
        refine s_getfield 12 15 191 rfl rfl fl_Mod_169 rfl rfl ?_
        refine s_icmp_ge 220 194 rfl rfl (by decide) (fun c1 => ?_) (fun c1 => ?_)
        -- Mod_groupAll 194: branch 220 194
        · refine s_iload_n 221 rfl rfl rfl ?_
          refine s_if_eq 231 224 rfl rfl (by decide) (fun c2 => ?_) (fun c2 => ?_)
          -- Mod_groupAll 224: branch 231 224
          · rw [i01] at c2
            refine s_return rfl rfl (hq r r go fo ⟨hr, hb, G3, Or.inl ⟨fun a ha => ?_, rfl⟩⟩)
            cases q : Lr_ op tr (sAl s) r a with
            | false => rfl
            | true => rw [hx.mpr ⟨a, ha, q⟩] at c2; cases c2
          · rw [i01] at c2
            have c2 : x = true := by simpa using c2
            have ex := hx.mp c2
            refine s_aload_n 225 rfl rfl rfl ?_
            refine s_iconst (-1) 226 rfl rfl (by decide) ?_
            refine s_ldc 65535 228 rfl rfl kl_Mod_215 ?_
            refine c_callV2 (h+2) 231 rfl rfl mv_Mod_211 (by omega) (Nat.le_of_ble_eq_true rfl) (Nat.le_of_ble_eq_true rfl) rfl rfl rfl ?_
            -- Mod_groupAll 231: call Mod_gather
            refine m_Mod_gather (h := h + 1) (p := fun _ => true) hK (by omega) hwa ?_
            dsimp only [ax_rs]
            refine s_return rfl rfl (hq r (r + 1) _ _ ⟨hr, hb, fun k hk => ?_, Or.inr ⟨ex, rfl, ?_, fun a ha => ?_⟩⟩)
            · obtain ⟨p1, p2, p3⟩ := G3 k hk
              refine ⟨p1, ?_, fun a ha => ?_⟩
              · unfold upd
                rw [if_neg (by omega)]
                exact p2
              · rw [← p3 a ha]
                unfold ga_
                by_cases w : go a = -1
                · rw [if_pos ⟨ha, w, rfl⟩]
                  refine ⟨fun v => ?_, fun v => ?_⟩
                  · have := nn_eq v
                    omega
                  · rw [w] at v
                    exact absurd v.symm (nn_m1 (by omega))
                · rw [if_neg (fun v => w v.2.1)]
            · unfold upd
              rw [if_pos rfl]
            · rw [← G1 a ha]
              unfold ga_
              by_cases w : go a = -1
              · rw [if_pos ⟨ha, w, rfl⟩]
                exact ⟨fun _ => w, fun _ => rfl⟩
              · rw [if_neg (fun v => w v.2.1)]
                exact ⟨fun v => absurd v (G2 a ha r (Nat.le_refl r) (by omega)), fun v => absurd v w⟩
        · exact absurd (nn_nle c1) (by omega)
      | succ d ih =>
        intro i x hi hx
        have nxT : Lr_ op tr (sAl s) r i = true ∨ x = true → ax_G g mt_Mod_groupAll (h + 3) 0 0 186 [.ref 143, .int 0, .int 1, .int (nI (i + 1)), z4, z5, z6, z7] [] (gn_m M s n dr pa cm os tk pl bh va iw od go fo r) Q := fun q => ih (i + 1) true (by omega) ⟨fun _ => q.elim (fun q => ⟨i, by omega, q⟩) (fun q => by
          obtain ⟨a, p1, p2⟩ := hx.mp q
          exact ⟨a, by omega, p2⟩), fun _ => rfl⟩
        have nxF : Lr_ op tr (sAl s) r i = false → x = false → ax_G g mt_Mod_groupAll (h + 3) 0 0 186 [.ref 143, .int 0, .int 0, .int (nI (i + 1)), z4, z5, z6, z7] [] (gn_m M s n dr pa cm os tk pl bh va iw od go fo r) Q := fun q1 q2 => ih (i + 1) false (by omega) ⟨fun q => (by cases q), fun ⟨a, p1, p2⟩ => by
          by_cases z : a = i
          · subst z; rw [q1] at p2; cases p2
          · rw [hx.mpr ⟨a, by omega, p2⟩] at q2; cases q2⟩
        refine s_iload_n 187 rfl rfl rfl ?_
        refine s_aload_n 188 rfl rfl rfl ?_
        refine s_getfield 12 15 191 rfl rfl fl_Mod_169 rfl rfl ?_
        refine s_icmp_ge 220 194 rfl rfl (by decide) (fun c3 => ?_) (fun c3 => ?_)
        -- Mod_groupAll 194: branch 220 194
        · exact absurd (nn_le c3) (by omega)
        · refine s_iload_n 195 rfl rfl rfl ?_
          refine s_if_ne 208 198 rfl rfl (by decide) (fun c4 => ?_) (fun c4 => ?_)
          -- Mod_groupAll 198: branch 208 198
          · rw [i01] at c4
            refine s_iconst 1 209 rfl rfl (by decide) ?_
            refine s_goto 213 rfl (by decide) ?_
            refine s_ist2 214 rfl rfl rfl ?_
            refine s_inc3 _ 217 rfl rfl rfl rfl ?_
            refine s_goto 186 rfl (by decide) ?_
            -- Mod_groupAll 186: end
            rw [inc1]
            exact nxT (Or.inr (by simpa using c4))
          · rw [i01] at c4
            refine s_aload_n 199 rfl rfl rfl ?_
            refine s_getfield 12 27 202 rfl rfl fl_Mod_70 rfl rfl ?_
            refine s_iload_n 203 rfl rfl rfl ?_
            refine s_iaload (i) 204 rfl rfl rfl rfl (by omega) (by decide) ?_
            refine s_iconst (-1) 205 rfl rfl (by decide) ?_
            refine s_icmp_ne 212 208 rfl rfl (by decide) (fun c5 => ?_) (fun c5 => ?_)
            -- Mod_groupAll 208: branch 212 208
            · rw [G1 i (by omega)] at c5
              refine s_iconst 0 213 rfl rfl (by decide) ?_
              refine s_ist2 214 rfl rfl rfl ?_
              refine s_inc3 _ 217 rfl rfl rfl rfl ?_
              refine s_goto 186 rfl (by decide) ?_
              -- Mod_groupAll 186: end
              rw [inc1]
              exact nxF (by simpa using c5) c4
            · rw [G1 i (by omega)] at c5
              refine s_iconst 1 209 rfl rfl (by decide) ?_
              refine s_goto 213 rfl (by decide) ?_
              refine s_ist2 214 rfl rfl rfl ?_
              refine s_inc3 _ 217 rfl rfl rfl rfl ?_
              refine s_goto 186 rfl (by decide) ?_
              -- Mod_groupAll 186: end
              rw [inc1]
              exact nxT (Or.inl c5)
    exact loop (sAl s) 0 false (by omega) ⟨fun q => (by cases q), fun ⟨a, p1, p2⟩ => absurd p1 (Nat.not_lt_zero a)⟩
  have best : ∀ (r : Nat) (go fo : Nat → Int32) (z2 z3 z4 z5 z6 z7 : Value), z2.category = 1 → z3.category = 1 → z4.category = 1 → z5.category = 1 → z6.category = 1 → z7.category = 1 → (∀ a, a < sAl s → (go a = -1 ↔ Lr_ op tr (sAl s) r a = true)) → (∀ z3 z4 z5 z6 z7 : Value, z3.category = 1 → z4.category = 1 → z5.category = 1 → z6.category = 1 → z7.category = 1 → ax_G g mt_Mod_groupAll (h + 3) 0 0 147 [.ref 143, .int 1, .int (bk_ op tr (sAl s) r), z3, z4, z5, z6, z7] [] (gn_m M s n dr pa cm os tk pl bh va iw od go fo r) Q) → ax_G g mt_Mod_groupAll (h + 3) 0 0 43 [.ref 143, .int 1, z2, z3, z4, z5, z6, z7] [] (gn_m M s n dr pa cm os tk pl bh va iw od go fo r) Q := by
    intro r go fo z2 z3 z4 z5 z6 z7 _ _ _ w5 w6 w7 hg ct
    unfold bk_ at ct
    generalize hc : (fun f => cnt (fun a => Lr_ op tr (sAl s) r a && tr f a) (sAl s)) = c at ct
    have c50 : ∀ f, c f ≤ 50 := fun f => by
      rw [← hc]
      exact Nat.le_trans (cnt_le _ _) b1
    refine s_iload_n 44 rfl rfl rfl ?_
    refine s_if_eq 182 47 rfl rfl (by decide) (fun c1 => ?_) (fun c1 => ?_)
    -- Mod_groupAll 47: branch 182 47
    · exact absurd c1 (by decide)
    · refine s_iconst (-1) 48 rfl rfl (by decide) ?_
      refine s_ist2 49 rfl rfl rfl ?_
      refine s_iconst 0 50 rfl rfl (by decide) ?_
      refine s_ist3 51 rfl rfl rfl ?_
      refine s_iconst 0 52 rfl rfl (by decide) ?_
      refine s_ist4 54 rfl rfl rfl ?_
      -- Mod_groupAll 54: end
      have loopf : ∀ (d f : Nat) (z5 z6 z7 : Value), z5.category = 1 → z6.category = 1 → z7.category = 1 → f + d = 16 → ax_G g mt_Mod_groupAll (h + 3) 0 0 54 [.ref 143, .int 1, .int (bs_ c f).1, .int (nI (bs_ c f).2), .int (nI f), z5, z6, z7] [] (gn_m M s n dr pa cm os tk pl bh va iw od go fo r) Q := by
        intro d
        induction d with
        | zero =>
          intro f z5 z6 z7 v5 v6 v7 hf
          obtain rfl : f = 16 := by omega
          refine s_iload 56 rfl rfl rfl ?_
          refine s_bipush 16 58 rfl rfl (by decide) ?_
          refine s_icmp_ge 147 61 rfl rfl (by decide) (fun c2 => ?_) (fun c2 => ?_)
          -- Mod_groupAll 61: branch 147 61
          · exact ct _ _ _ _ _ rfl rfl v5 v6 v7
          · exact absurd (by decide) c2
        | succ d ih =>
          intro f z5 z6 z7 v5 v6 v7 hf
          have nx := fun z5 z6 z7 v5 v6 v7 => ih (f + 1) z5 z6 z7 v5 v6 v7 (by omega)
          rw [bs_] at nx
          have l2 : (bs_ c f).2 ≤ 50 := by
            rcases bs_or c f with ⟨-, q, -⟩ | ⟨f', q1, -, q3, -⟩
            · omega
            · rw [q3]
              exact c50 f'
          refine s_iload 56 rfl rfl rfl ?_
          refine s_bipush 16 58 rfl rfl (by decide) ?_
          refine s_icmp_ge 147 61 rfl rfl (by decide) (fun c3 => ?_) (fun c3 => ?_)
          -- Mod_groupAll 61: branch 147 61
          · exact absurd (nn_le (a := 16) c3) (by omega)
          · refine s_aload_n 62 rfl rfl rfl ?_
            refine s_aload_n 63 rfl rfl rfl ?_
            refine s_getfield 12 26 66 rfl rfl fl_Mod_182 rfl rfl ?_
            refine s_iconst 1 67 rfl rfl (by decide) ?_
            refine s_iload 69 rfl rfl rfl ?_
            refine s_ishl 70 rfl rfl ?_
            refine s_ior 71 rfl rfl ?_
            refine c_callV1 (h+2) 74 rfl rfl mv_Mod_185 (by omega) (Nat.le_of_ble_eq_true rfl) (Nat.le_of_ble_eq_true rfl) rfl rfl rfl ?_
            -- Mod_groupAll 74: call Mod_knownBy
            refine m_Mod_knownBy (M := gn_m M s n dr pa cm os tk pl bh va iw od go fo r) rfl hK.ruleSet hK.ruleHead b2 ?_
            dsimp only [ax_rs]
            refine s_ist5 76 rfl rfl rfl ?_
            refine s_iconst 0 77 rfl rfl (by decide) ?_
            refine s_ist6 79 rfl rfl rfl ?_
            refine s_iconst 0 80 rfl rfl (by decide) ?_
            refine s_ist7 82 rfl rfl rfl ?_
            -- Mod_groupAll 82: end
            have loopa : ∀ (d a : Nat), a + d = sAl s → ax_G g mt_Mod_groupAll (h + 3) 0 0 82 [.ref 143, .int 1, .int (bs_ c f).1, .int (nI (bs_ c f).2), .int (nI f), .int (kw_ (ap_ (sRs s) (fun i => (1 : Int32) <<< (sRh s i &&& 31)) (sRu s)) 33 (sPv s ||| ((1 : Int32) <<< (nI f &&& 31)))), .int (nI (cnt (fun a => Lr_ op tr (sAl s) r a && tr f a) a)), .int (nI a)] [] (gn_m M s n dr pa cm os tk pl bh va iw od go fo r) Q := by
              intro d
              induction d with
              | zero =>
                intro a ha
                obtain rfl : a = sAl s := by omega
                have ec : cnt (fun a => Lr_ op tr (sAl s) r a && tr f a) (sAl s) = c f := by rw [← hc]
                rw [ec]
                have := c50 f
                refine s_iload 84 rfl rfl rfl ?_
                refine s_aload_n 85 rfl rfl rfl ?_
                refine s_getfield 12 15 88 rfl rfl fl_Mod_169 rfl rfl ?_
                refine s_icmp_ge 129 91 rfl rfl (by decide) (fun c4 => ?_) (fun c4 => ?_)
                -- Mod_groupAll 91: branch 129 91
                · refine s_iload 131 rfl rfl rfl ?_
                  refine s_iload_n 132 rfl rfl rfl ?_
                  refine s_icmp_le 141 135 rfl rfl (by decide) (fun c5 => ?_) (fun c5 => ?_)
                  -- Mod_groupAll 135: branch 141 135
                  · rw [if_neg (Nat.not_lt.mpr (nn_le c5))] at nx
                    refine s_inc4 _ 144 rfl rfl rfl rfl ?_
                    refine s_goto 54 rfl (by decide) ?_
                    -- Mod_groupAll 54: end
                    rw [inc1]
                    exact nx _ _ _ rfl rfl rfl
                  · rw [if_pos (nn_nle c5)] at nx
                    refine s_iload 137 rfl rfl rfl ?_
                    refine s_ist2 138 rfl rfl rfl ?_
                    refine s_iload 140 rfl rfl rfl ?_
                    refine s_ist3 141 rfl rfl rfl ?_
                    refine s_inc4 _ 144 rfl rfl rfl rfl ?_
                    refine s_goto 54 rfl (by decide) ?_
                    -- Mod_groupAll 54: end
                    rw [inc1]
                    exact nx _ _ _ rfl rfl rfl
                · exact absurd (nn_nle c4) (by omega)
              | succ d ih2 =>
                intro a ha
                have nx2 := ih2 (a + 1) (by omega)
                rw [cnt] at nx2
                have last : ∀ b : Bool, b = (Lr_ op tr (sAl s) r a && tr f a) → ax_G g mt_Mod_groupAll (h + 3) 0 0 120 [.ref 143, .int 1, .int (bs_ c f).1, .int (nI (bs_ c f).2), .int (nI f), .int (kw_ (ap_ (sRs s) (fun i => (1 : Int32) <<< (sRh s i &&& 31)) (sRu s)) 33 (sPv s ||| ((1 : Int32) <<< (nI f &&& 31)))), .int (nI (cnt (fun a => Lr_ op tr (sAl s) r a && tr f a) a)), .int (nI a)] [.int (if b then 1 else 0), .int (nI (cnt (fun a => Lr_ op tr (sAl s) r a && tr f a) a))] (gn_m M s n dr pa cm os tk pl bh va iw od go fo r) Q := by
                  intro b hb
                  rw [← hb] at nx2
                  have e : nI (cnt (fun a => Lr_ op tr (sAl s) r a && tr f a) a) + (if b then 1 else 0) = nI (cnt (fun a => Lr_ op tr (sAl s) r a && tr f a) a + (if b then 1 else 0)) := by
                    cases b
                    · exact nI_add _ 0
                    · exact nI_1 _
                  refine s_iadd 121 rfl rfl ?_
                  -- Mod_groupAll 121: end
                  rw [e]
                  refine s_ist6 123 rfl rfl rfl ?_
                  refine s_inc7 _ 126 rfl rfl rfl rfl ?_
                  refine s_goto 82 rfl (by decide) ?_
                  -- Mod_groupAll 82: end
                  rw [inc1]
                  exact nx2
                refine s_iload 84 rfl rfl rfl ?_
                refine s_aload_n 85 rfl rfl rfl ?_
                refine s_getfield 12 15 88 rfl rfl fl_Mod_169 rfl rfl ?_
                refine s_icmp_ge 129 91 rfl rfl (by decide) (fun c6 => ?_) (fun c6 => ?_)
                -- Mod_groupAll 91: branch 129 91
                · exact absurd (nn_le c6) (by omega)
                · refine s_iload 93 rfl rfl rfl ?_
                  refine s_aload_n 94 rfl rfl rfl ?_
                  refine s_getfield 12 27 97 rfl rfl fl_Mod_70 rfl rfl ?_
                  refine s_iload 99 rfl rfl rfl ?_
                  refine s_iaload (a) 100 rfl rfl rfl rfl (by omega) (by decide) ?_
                  refine s_iconst (-1) 101 rfl rfl (by decide) ?_
                  refine s_icmp_ne 119 104 rfl rfl (by decide) (fun c7 => ?_) (fun c7 => ?_)
                  -- Mod_groupAll 104: branch 119 104
                  · rw [hg a (by omega)] at c7
                    refine s_iconst 0 120 rfl rfl (by decide) ?_
                    -- Mod_groupAll 120: end
                    exact last false (by simp [c7])
                  · rw [hg a (by omega)] at c7
                    refine s_aload_n 105 rfl rfl rfl ?_
                    refine s_iload 107 rfl rfl rfl ?_
                    refine s_iload 109 rfl rfl rfl ?_
                    refine c_callV2 (h+2) 112 rfl rfl mv_Mod_188 (by omega) (Nat.le_of_ble_eq_true rfl) (Nat.le_of_ble_eq_true rfl) rfl rfl rfl ?_
                    -- Mod_groupAll 112: call Mod_isClosed
                    refine m_Mod_isClosed (M := gn_m M s n dr pa cm os tk pl bh va iw od go fo r) rfl hK.wants (by omega) ?_
                    dsimp only [ax_rs]
                    rw [htr f a (by omega) (by omega)]
                    refine s_if_eq 119 115 rfl rfl (by decide) (fun c8 => ?_) (fun c8 => ?_)
                    -- Mod_groupAll 115: branch 119 115
                    · rw [bi_0] at c8
                      refine s_iconst 0 120 rfl rfl (by decide) ?_
                      -- Mod_groupAll 120: end
                      exact last false (by simp [c8])
                    · rw [bi_0, Classical.not_not] at c8
                      refine s_iconst 1 116 rfl rfl (by decide) ?_
                      refine s_goto 120 rfl (by decide) ?_
                      -- Mod_groupAll 120: end
                      exact last true (by simp [c7, c8])
            exact loopa (sAl s) 0 (by omega)
      exact loopf 16 0 _ _ _ w5 w6 w7 (by omega)
  have loop2 : ∀ (d r : Nat) (go fo : Nat → Int32) (z2 z3 z4 z5 z6 z7 : Value), z2.category = 1 → z3.category = 1 → z4.category = 1 → z5.category = 1 → z6.category = 1 → z7.category = 1 → Pr_ op tr (sAl s) r ≤ d → d + r ≤ 16 → Gr_ op tr (sAl s) r go fo → ax_G g mt_Mod_groupAll (h + 3) 0 0 43 [.ref 143, .int 1, z2, z3, z4, z5, z6, z7] [] (gn_m M s n dr pa cm os tk pl bh va iw od go fo r) Q := by
    intro d
    induction d with
    | zero =>
      intro r go fo z2 z3 z4 z5 z6 z7 v2 v3 v4 v5 v6 v7 hP hr hG
      refine best r go fo z2 z3 z4 z5 z6 z7 v2 v3 v4 v5 v6 v7 hG.1 (fun z3 z4 z5 z6 z7 v3 v4 v5 v6 v7 => ?_)
      have e := Pr_0 (Nat.le_zero.mp hP)
      rw [e]
      refine s_iload_n 148 rfl rfl rfl ?_
      refine s_iconst (-1) 149 rfl rfl (by decide) ?_
      refine s_icmp_eq 156 152 rfl rfl (by decide) (fun c1 => ?_) (fun c1 => ?_)
      -- Mod_groupAll 152: branch 156 152
      · refine s_iconst 0 157 rfl rfl (by decide) ?_
        refine s_ist1 158 rfl rfl rfl ?_
        refine s_iload_n 159 rfl rfl rfl ?_
        refine s_if_eq 179 162 rfl rfl (by decide) (fun c2 => ?_) (fun c2 => ?_)
        -- Mod_groupAll 162: branch 179 162
        · refine s_goto 43 rfl (by decide) ?_
          refine s_iload_n 44 rfl rfl rfl ?_
          refine s_if_eq 182 47 rfl rfl (by decide) (fun c3 => ?_) (fun c3 => ?_)
          -- Mod_groupAll 47: branch 182 47
          · exact fin r go fo _ _ _ _ _ _ rfl v3 v4 v5 v6 v7 (by omega) e hG
          · exact absurd rfl c3
        · exact absurd rfl c2
      · exact absurd rfl c1
    | succ d ih =>
      intro r go fo z2 z3 z4 z5 z6 z7 v2 v3 v4 v5 v6 v7 hP hr hG
      refine best r go fo z2 z3 z4 z5 z6 z7 v2 v3 v4 v5 v6 v7 hG.1 (fun z3 z4 z5 z6 z7 v3 v4 v5 v6 v7 => ?_)
      refine s_iload_n 148 rfl rfl rfl ?_
      refine s_iconst (-1) 149 rfl rfl (by decide) ?_
      refine s_icmp_eq 156 152 rfl rfl (by decide) (fun c4 => ?_) (fun c4 => ?_)
      -- Mod_groupAll 152: branch 156 152
      · rw [c4]
        refine s_iconst 0 157 rfl rfl (by decide) ?_
        refine s_ist1 158 rfl rfl rfl ?_
        refine s_iload_n 159 rfl rfl rfl ?_
        refine s_if_eq 179 162 rfl rfl (by decide) (fun c5 => ?_) (fun c5 => ?_)
        -- Mod_groupAll 162: branch 179 162
        · refine s_goto 43 rfl (by decide) ?_
          refine s_iload_n 44 rfl rfl rfl ?_
          refine s_if_eq 182 47 rfl rfl (by decide) (fun c6 => ?_) (fun c6 => ?_)
          -- Mod_groupAll 47: branch 182 47
          · exact fin r go fo _ _ _ _ _ _ rfl v3 v4 v5 v6 v7 (by omega) c4 hG
          · exact absurd rfl c6
        · exact absurd rfl c5
      · obtain ⟨f, hf, ef, hlt⟩ := Pr_s c4
        rw [ef]
        refine s_iconst 1 153 rfl rfl (by decide) ?_
        refine s_goto 157 rfl (by decide) ?_
        refine s_ist1 158 rfl rfl rfl ?_
        refine s_iload_n 159 rfl rfl rfl ?_
        refine s_if_eq 179 162 rfl rfl (by decide) (fun c7 => ?_) (fun c7 => ?_)
        -- Mod_groupAll 162: branch 179 162
        · exact absurd c7 (by decide)
        · skip
          refine s_aload_n 163 rfl rfl rfl ?_
          refine s_iload_n 164 rfl rfl rfl ?_
          refine s_aload_n 165 rfl rfl rfl ?_
          refine s_aload_n 166 rfl rfl rfl ?_
          refine s_getfield 12 26 169 rfl rfl fl_Mod_182 rfl rfl ?_
          refine s_iconst 1 170 rfl rfl (by decide) ?_
          refine s_iload_n 171 rfl rfl rfl ?_
          refine s_ishl 172 rfl rfl ?_
          refine s_ior 173 rfl rfl ?_
          refine c_callV1 (h+2) 176 rfl rfl mv_Mod_185 (by omega) (Nat.le_of_ble_eq_true rfl) (Nat.le_of_ble_eq_true rfl) rfl rfl rfl ?_
          -- Mod_groupAll 176: call Mod_knownBy
          refine m_Mod_knownBy (M := gn_m M s n dr pa cm os tk pl bh va iw od go fo r) rfl hK.ruleSet hK.ruleHead b2 ?_
          dsimp only [ax_rs]
          refine c_callV2 (h+2) 179 rfl rfl mv_Mod_211 (by omega) (Nat.le_of_ble_eq_true rfl) (Nat.le_of_ble_eq_true rfl) rfl rfl rfl ?_
          -- Mod_groupAll 179: call Mod_gather
          refine m_Mod_gather (h := h + 1) (p := tr f) hK (by omega) (fun a ha => htr f a hf ha) ?_
          dsimp only [ax_rs]
          refine s_goto 43 rfl (by decide) ?_
          -- Mod_groupAll 43: end
          exact ih (r + 1) _ _ _ _ _ _ _ _ rfl v3 v4 v5 v6 v7 (by omega) (by omega) (Gr_s hG (by omega) hf ef)
  have loop1 : ∀ (d i : Nat) (go : Nat → Int32), i + d = sAl s → (∀ a, a < i → go a = if op a then -1 else -2) → ax_G g mt_Mod_groupAll (h + 3) 0 0 7 [.ref 143, .int (nI i), .float 0, .float 0, .float 0, .float 0, .float 0, .float 0] [] (gn_m M s n dr pa cm os tk pl bh va iw od go fo 0) Q := by
    intro d
    induction d with
    | zero =>
      intro i go hi hgo
      obtain rfl : i = sAl s := by omega
      refine s_iload_n 8 rfl rfl rfl ?_
      refine s_aload_n 9 rfl rfl rfl ?_
      refine s_getfield 12 15 12 rfl rfl fl_Mod_169 rfl rfl ?_
      refine s_icmp_ge 41 15 rfl rfl (by decide) (fun c1 => ?_) (fun c1 => ?_)
      -- Mod_groupAll 15: branch 41 15
      · refine s_iconst 1 42 rfl rfl (by decide) ?_
        refine s_ist1 43 rfl rfl rfl ?_
        -- Mod_groupAll 43: end
        refine loop2 16 0 go fo _ _ _ _ _ _ rfl rfl rfl rfl rfl rfl (Pr_16 op tr (sAl s) 0) (by omega) ⟨fun a ha => ?_, fun a ha k _ hk => ?_, fun k hk => absurd hk (Nat.not_lt_zero k)⟩
        · rw [hgo a ha, Lr_]
          cases op a
          · exact ⟨fun q => absurd q (by decide), fun q => by cases q⟩
          · exact ⟨fun _ => rfl, fun _ => rfl⟩
        · rw [hgo a ha]
          cases op a
          · exact fun q => nn_m2 (by omega) q.symm
          · exact fun q => nn_m1 (by omega) q.symm
      · exact absurd (nn_nle c1) (by omega)
    | succ d ih =>
      intro i go hi hgo
      refine s_iload_n 8 rfl rfl rfl ?_
      refine s_aload_n 9 rfl rfl rfl ?_
      refine s_getfield 12 15 12 rfl rfl fl_Mod_169 rfl rfl ?_
      refine s_icmp_ge 41 15 rfl rfl (by decide) (fun c2 => ?_) (fun c2 => ?_)
      -- Mod_groupAll 15: branch 41 15
      · exact absurd (nn_le c2) (by omega)
      · refine s_aload_n 16 rfl rfl rfl ?_
        refine s_getfield 12 27 19 rfl rfl fl_Mod_70 rfl rfl ?_
        refine s_iload_n 20 rfl rfl rfl ?_
        refine s_aload_n 21 rfl rfl rfl ?_
        refine s_iload_n 22 rfl rfl rfl ?_
        refine c_callV1 (h+2) 25 rfl rfl mv_Mod_208 (by omega) (Nat.le_of_ble_eq_true rfl) (Nat.le_of_ble_eq_true rfl) rfl rfl rfl ?_
        -- Mod_groupAll 25: call Mod_isOpen
        refine m_Mod_isOpen (h := h) (gn_K hK) (by omega) ?_
        dsimp only [ax_rs]
        rw [hop i (by omega)]
        have nx : ∀ v : Int32, v = (if op i then -1 else -2) → ax_G g mt_Mod_groupAll (h + 3) 0 0 7 [.ref 143, .int (nI (i + 1)), .float 0, .float 0, .float 0, .float 0, .float 0, .float 0] [] (gn_m M s n dr pa cm os tk pl bh va iw od (upd go i v) fo 0) Q := fun v hv => ih (i + 1) _ (by omega) (fun a ha => by
          unfold upd
          by_cases z : a = i
          · subst z
            rw [if_pos rfl, hv]
          · rw [if_neg z]
            exact hgo a (by omega))
        refine s_if_eq 32 28 rfl rfl (by decide) (fun c3 => ?_) (fun c3 => ?_)
        -- Mod_groupAll 28: branch 32 28
        · rw [bi_0] at c3
          refine s_bipush (-2) 34 rfl rfl (by decide) ?_
          refine s_iastore (i) 35 rfl rfl rfl rfl (by omega) (by decide) ?_
          refine s_inc1 _ 38 rfl rfl rfl rfl ?_
          refine s_goto 7 rfl (by decide) ?_
          -- Mod_groupAll 7: end
          unfold gn_m md_m oP iP at nx ⊢
          rw [ax_q1 (by decide) (by decide), inc1]
          exact nx (-2) (by rw [if_neg c3])
        · rw [bi_0, Classical.not_not] at c3
          refine s_iconst (-1) 29 rfl rfl (by decide) ?_
          refine s_goto 34 rfl (by decide) ?_
          refine s_iastore (i) 35 rfl rfl rfl rfl (by omega) (by decide) ?_
          refine s_inc1 _ 38 rfl rfl rfl rfl ?_
          refine s_goto 7 rfl (by decide) ?_
          -- Mod_groupAll 7: end
          unfold gn_m md_m oP iP at nx ⊢
          rw [ax_q1 (by decide) (by decide), inc1]
          exact nx (-1) (by rw [if_pos c3])
  have h0 := loop1 (sAl s) 0 go (by omega) (fun a ha => absurd ha (Nat.not_lt_zero a))
  unfold gn_m md_m oP iP at h0
  rw [ax_id h_groupOf, ax_id h_factOf] at h0
  exact h0
end MGRP
