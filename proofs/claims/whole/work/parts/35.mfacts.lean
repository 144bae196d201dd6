/-! the reference: knownBy; rule, prove, known -/
section MFACTS
variable {g : ax_Y} {M : ax_M} {Q : Option Value → ax_M → Prop} {h ru : Nat} {n bl ln dr al pv si pa cm os gm tk pl bh : Int32} {va : Int64} {iw od : Int32} {rs hd : Nat → Int32}
/-- rounds grow -/
def up_ (x y : Int32) : Prop := ∀ i, i < 32 → bt x i = true → bt y i = true
theorem up_r (x : Int32) : up_ x x := fun _ _ h => h
theorem up_t {x y z : Int32} (h1 : up_ x y) (h2 : up_ y z) : up_ x z := fun i hi h => h2 i hi (h1 i hi h)
theorem up_o (x y : Int32) : up_ x (x ||| y) := fun i hi h => by rw [b_or, h]; rfl
theorem ap_up (rs rh : Nat → Int32) : ∀ (n : Nat) (x : Int32), up_ x (ap_ rs rh n x) := by
  intro n
  induction n with
  | zero => intro x; exact up_r x
  | succ n ih =>
    intro x
    rw [ap_]
    split
    · exact up_t (ih x) (up_o _ _)
    · exact ih x
/-- how many of the first n bits are set -/
theorem cnt_le (p : Nat → Bool) : ∀ n, cnt p n ≤ n := by
  intro n
  induction n with
  | zero => exact Nat.le_refl 0
  | succ n ih => rw [cnt]; split <;> omega
theorem cnt_mono {p q : Nat → Bool} {n : Nat} (h : ∀ i, i < n → p i = true → q i = true) : cnt p n ≤ cnt q n := by
  induction n with
  | zero => exact Nat.le_refl 0
  | succ n ih =>
    have ih := ih (fun i hi => h i (by omega))
    rw [cnt, cnt]
    have := h n (by omega)
    by_cases hp : p n = true
    · rw [if_pos hp, if_pos (this hp)]; omega
    · rw [if_neg hp]; omega
theorem cnt_lt {p q : Nat → Bool} {n : Nat} (h : ∀ i, i < n → p i = true → q i = true) {k : Nat} (hk : k < n) (h1 : p k = false) (h2 : q k = true) : cnt p n < cnt q n := by
  induction n with
  | zero => omega
  | succ n ih =>
    rw [cnt, cnt]
    by_cases e : k = n
    · subst e
      have := cnt_mono (p := p) (q := q) (n := k) (fun i hi => h i (by omega))
      rw [if_neg (by rw [h1]; decide), if_pos h2]
      omega
    · have := ih (fun i hi => h i (by omega)) (by omega)
      by_cases hp : p n = true
      · rw [if_pos hp, if_pos (h n (by omega) hp)]; omega
      · rw [if_neg hp]; omega
theorem up_lt {x y : Int32} (h : up_ x y) (hne : x ≠ y) : cnt (bt x) 32 < cnt (bt y) 32 := by
  by_cases q : ∃ k, k < 32 ∧ bt x k = false ∧ bt y k = true
  · obtain ⟨k, h1, h2, h3⟩ := q
    exact cnt_lt h h1 h2 h3
  · refine absurd (b_ext (fun i hi => ?_)) hne
    cases e : bt x i with
    | true => exact (h i hi e).symm
    | false =>
      cases e2 : bt y i with
      | false => rfl
      | true => exact absurd ⟨i, hi, e, e2⟩ q
/-- rounds without a bound: a measure below 33 is left -/
theorem kw_more {f : Int32 → Int32} (hf : ∀ x, up_ x (f x)) : ∀ (d e : Nat) (x : Int32), 32 ≤ cnt (bt x) 32 + d → 32 ≤ cnt (bt x) 32 + e → kw_ f d x = kw_ f e x := by
  intro d
  induction d with
  | zero =>
    intro e x h1 h2
    have hx : f x = x := by
      by_cases z : f x = x
      · exact z
      · have := up_lt (hf x) (fun q => z q.symm)
        have := cnt_le (bt (f x)) 32
        omega
    cases e with
    | zero => rfl
    | succ e => rw [kw_, kw_, if_pos hx]
  | succ d ih =>
    intro e x h1 h2
    by_cases z : f x = x
    · cases e with
      | zero => rw [kw_, kw_, if_pos z]
      | succ e => rw [kw_, kw_, if_pos z, if_pos z]
    · have h3 := up_lt (hf x) (fun q => z q.symm)
      cases e with
      | zero =>
        have := cnt_le (bt (f x)) 32
        omega
      | succ e =>
        rw [kw_, kw_, if_neg z, if_neg z]
        exact ih e (f x) (by omega) (by omega)
/-- bits below 16 alone: 16 rounds are enough -/
def lo_ (x : Int32) : Prop := ∀ i, 16 ≤ i → i < 32 → bt x i = false
theorem kw_fix {f : Int32 → Int32} (hf : ∀ x, up_ x (f x)) (hl : ∀ x, lo_ x → lo_ (f x)) : ∀ (d e : Nat) (x : Int32), lo_ x → 16 ≤ cnt (bt x) 16 + d → 16 ≤ cnt (bt x) 16 + e → kw_ f d x = kw_ f e x := by
  have up16 : ∀ x, lo_ x → ¬ f x = x → cnt (bt x) 16 < cnt (bt (f x)) 16 := by
    intro x h z
    by_cases q : ∃ k, k < 16 ∧ bt x k = false ∧ bt (f x) k = true
    · obtain ⟨k, h1, h2, h3⟩ := q
      exact cnt_lt (fun i hi => hf x i (by omega)) h1 h2 h3
    · refine absurd (b_ext (fun i hi => ?_)) z
      rcases Nat.lt_or_ge i 16 with q1 | q1
      · cases e : bt x i with
        | true => exact hf x i hi e
        | false =>
          cases e2 : bt (f x) i with
          | false => rfl
          | true => exact absurd ⟨i, q1, e, e2⟩ q
      · rw [h i q1 hi, hl x h i q1 hi]
  intro d
  induction d with
  | zero =>
    intro e x hx h1 h2
    have hx : f x = x := by
      by_cases z : f x = x
      · exact z
      · have := up16 x hx z
        have := cnt_le (bt (f x)) 16
        omega
    cases e with
    | zero => rfl
    | succ e => rw [kw_, kw_, if_pos hx]
  | succ d ih =>
    intro e x hx h1 h2
    by_cases z : f x = x
    · cases e with
      | zero => rw [kw_, kw_, if_pos z]
      | succ e => rw [kw_, kw_, if_pos z, if_pos z]
    · have h3 := up16 x hx z
      cases e with
      | zero =>
        have := cnt_le (bt (f x)) 16
        omega
      | succ e =>
        rw [kw_, kw_, if_neg z, if_neg z]
        exact ih e (f x) (hl x hx) (by omega) (by omega)
theorem ap_lo {rs rh : Nat → Int32} : ∀ (n : Nat) (_ : ∀ i, i < n → lo_ (rh i)) (x : Int32), lo_ x → lo_ (ap_ rs rh n x) := by
  intro n
  induction n with
  | zero => intro _ x h; exact h
  | succ n ih =>
    intro hr x h
    rw [ap_]
    have := ih (fun i hi => hr i (by omega)) x h
    split
    · intro i h1 h2
      rw [b_or, this i h1 h2, hr n (by omega) i h1 h2]
      rfl
    · exact this
theorem ap_cg {rs rh s2 h2 : Nat → Int32} : ∀ (n : Nat) (_ : ∀ i, i < n → rs i = s2 i ∧ rh i = h2 i) (x : Int32), ap_ rs rh n x = ap_ s2 h2 n x := by
  intro n
  induction n with
  | zero => intro _ x; rfl
  | succ n ih =>
    intro h x
    rw [ap_, ap_, ih (fun i hi => h i (by omega)) x, (h n (by omega)).1, (h n (by omega)).2]
theorem m_Mod_knownBy {x : Int32} (h_this : oC M 143 12 (md_f n bl ln dr al (nI ru) pv si pa cm os gm tk pl bh va iw od)) (h_ruleSet : iA M 162 20 rs) (h_ruleHead : iA M 163 20 hd) (hn : ru ≤ 20) (hq : Q (some (.int (kw_ (ap_ rs (fun i => (1 : Int32) <<< (hd i &&& 31)) ru) 33 x))) M) : ax_G g mt_Mod_knownBy h 0 0 0 [.ref 143, .int x, .float 0, .float 0, .float 0, .float 0] [] M Q := by
  refine s_iload_n 1 rfl rfl rfl ?_
  refine s_ist2 2 rfl rfl rfl ?_
  refine s_iconst 1 3 rfl rfl (by decide) ?_
  refine s_ist3 4 rfl rfl rfl ?_
  -- Mod_knownBy 4: end
  have loop : ∀ (d : Nat) (y : Int32) (z1 z2 : Value), z1.category = 1 → z2.category = 1 → 32 < cnt (bt y) 32 + d → Q (some (.int (kw_ (ap_ rs (fun i => (1 : Int32) <<< (hd i &&& 31)) ru) d y))) M → ax_G g mt_Mod_knownBy h 0 0 4 [.ref 143, .int x, .int y, .int 1, z1, z2] [] M Q := by
    intro d
    induction d with
    | zero =>
      intro y z1 z2 _ _ hd _
      have := cnt_le (bt y) 32
      omega
    | succ d ih =>
      intro y z1 z2 hz1 hz2 hd0 hq
      refine s_iload_n 5 rfl rfl rfl ?_
      refine s_if_eq 70 8 rfl rfl (by decide) (fun c1 => ?_) (fun c1 => ?_)
      -- Mod_knownBy 8: branch 70 8
      · exact absurd c1 (by decide)
      · refine s_iload_n 9 rfl rfl rfl ?_
        refine s_ist4 11 rfl rfl rfl ?_
        refine s_iconst 0 12 rfl rfl (by decide) ?_
        refine s_ist5 14 rfl rfl rfl ?_
        have inner : ∀ (d2 i : Nat), i + d2 = ru → ax_G g mt_Mod_knownBy h 0 0 14 [.ref 143, .int x, .int (ap_ rs (fun i => (1 : Int32) <<< (hd i &&& 31)) i y), .int 1, .int y, .int (nI i)] [] M Q := by
          intro d2
          induction d2 with
          | zero =>
            intro i hi
            obtain rfl : i = ru := by omega
            refine s_iload 16 rfl rfl rfl ?_
            refine s_aload_n 17 rfl rfl rfl ?_
            refine s_getfield 12 23 20 rfl rfl fl_Mod_198 h_this rfl ?_
            refine s_icmp_ge 55 23 rfl rfl (by decide) (fun c2 => ?_) (fun c2 => ?_)
            -- Mod_knownBy 23: branch 55 23
            · rw [kw_] at hq
              refine s_iload_n 56 rfl rfl rfl ?_
              refine s_iload 58 rfl rfl rfl ?_
              refine s_icmp_eq 65 61 rfl rfl (by decide) (fun c3 => ?_) (fun c3 => ?_)
              -- Mod_knownBy 61: branch 65 61
              · rw [if_pos c3] at hq
                refine s_iconst 0 66 rfl rfl (by decide) ?_
                refine s_ist3 67 rfl rfl rfl ?_
                refine s_goto 4 rfl (by decide) ?_
                -- Mod_knownBy 4: end
                refine s_iload_n 5 rfl rfl rfl ?_
                refine s_if_eq 70 8 rfl rfl (by decide) (fun c4 => ?_) (fun c4 => ?_)
                -- Mod_knownBy 8: branch 70 8
                · refine s_iload_n 71 rfl rfl rfl ?_
                  -- Mod_knownBy 71: ireturn
                  rw [c3]
                  exact s_ireturn rfl .int rfl rfl (hq)
                · exact absurd rfl c4
              · rw [if_neg c3] at hq
                refine s_iconst 1 62 rfl rfl (by decide) ?_
                refine s_goto 66 rfl (by decide) ?_
                refine s_ist3 67 rfl rfl rfl ?_
                refine s_goto 4 rfl (by decide) ?_
                -- Mod_knownBy 4: end
                refine ih _ _ _ rfl rfl ?_ hq
                have := up_lt (ap_up rs (fun i => (1 : Int32) <<< (hd i &&& 31)) i y) (fun q => c3 q.symm)
                omega
            · exact absurd (nn_nle c2) (by omega)
          | succ d2 ih2 =>
            intro i hi
            have nx := ih2 (i + 1) (by omega)
            rw [ap_] at nx
            refine s_iload 16 rfl rfl rfl ?_
            refine s_aload_n 17 rfl rfl rfl ?_
            refine s_getfield 12 23 20 rfl rfl fl_Mod_198 h_this rfl ?_
            refine s_icmp_ge 55 23 rfl rfl (by decide) (fun c5 => ?_) (fun c5 => ?_)
            -- Mod_knownBy 23: branch 55 23
            · exact absurd (nn_le c5) (by omega)
            · refine s_aload_n 24 rfl rfl rfl ?_
              refine s_getfield 12 24 27 rfl rfl fl_Mod_64 h_this rfl ?_
              refine s_iload 29 rfl rfl rfl ?_
              refine s_iaload (i) 30 rfl rfl h_ruleSet rfl (by omega) (by decide) ?_
              refine s_iload_n 31 rfl rfl rfl ?_
              refine s_iconst (-1) 32 rfl rfl (by decide) ?_
              refine s_ixor 33 rfl rfl ?_
              refine s_iand 34 rfl rfl ?_
              refine s_if_ne 49 37 rfl rfl (by decide) (fun c6 => ?_) (fun c6 => ?_)
              -- Mod_knownBy 37: branch 49 37
              · rw [if_neg (cz_f c6)] at nx
                refine s_inc5 _ 52 rfl rfl rfl rfl ?_
                refine s_goto 14 rfl (by decide) ?_
                -- Mod_knownBy 14: end
                rw [inc1]
                exact nx
              · rw [if_pos (cz_t c6)] at nx
                refine s_iload_n 38 rfl rfl rfl ?_
                refine s_iconst 1 39 rfl rfl (by decide) ?_
                refine s_aload_n 40 rfl rfl rfl ?_
                refine s_getfield 12 25 43 rfl rfl fl_Mod_67 h_this rfl ?_
                refine s_iload 45 rfl rfl rfl ?_
                refine s_iaload (i) 46 rfl rfl h_ruleHead rfl (by omega) (by decide) ?_
                refine s_ishl 47 rfl rfl ?_
                refine s_ior 48 rfl rfl ?_
                refine s_ist2 49 rfl rfl rfl ?_
                refine s_inc5 _ 52 rfl rfl rfl rfl ?_
                refine s_goto 14 rfl (by decide) ?_
                -- Mod_knownBy 14: end
                rw [inc1]
                exact nx
        exact inner ru 0 (by omega)
  exact loop 33 x _ _ rfl rfl (by omega) hq
end MFACTS
