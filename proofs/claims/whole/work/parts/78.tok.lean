/-! tokens -/
/-- behind a run of bytes from lo to hi -/
def ru_ (T : Nat → Int32) (lo hi : Int32) : Nat → Nat → Nat
  | 0, p => p
  | d + 1, p => if lo ≤ T p ∧ T p ≤ hi then ru_ T lo hi d (p + 1) else p
def qb_ (x : Int32) : Bool := decide (32 ≤ x ∧ x ≤ 126 ∧ x ≠ 39)
def qr_ (T : Nat → Int32) : Nat → Nat → Nat
  | 0, p => p
  | d + 1, p => if qb_ (T p) = true then qr_ T d (p + 1) else p
/-- the token behind place p: its sort, where it begins, and what is behind it -/
def tk_ (T : Nat → Int32) (p : Nat) : Nat × Nat × Nat :=
  if 97 ≤ T (ru_ T 32 32 200 p) ∧ T (ru_ T 32 32 200 p) ≤ 122 then (1, ru_ T 32 32 200 p, ru_ T 97 122 200 (ru_ T 32 32 200 p))
  else if 48 ≤ T (ru_ T 32 32 200 p) ∧ T (ru_ T 32 32 200 p) ≤ 57 then (if 6 < ru_ T 48 57 200 (ru_ T 32 32 200 p) - ru_ T 32 32 200 p then 5 else 2, ru_ T 32 32 200 p, ru_ T 48 57 200 (ru_ T 32 32 200 p))
  else if T (ru_ T 32 32 200 p) = -1 then (0, ru_ T 32 32 200 p, ru_ T 32 32 200 p + 1)
  else if T (ru_ T 32 32 200 p) = 59 then (4, ru_ T 32 32 200 p, ru_ T 32 32 200 p + 1)
  else if T (ru_ T 32 32 200 p) = 39 then (if T (qr_ T 20 (ru_ T 32 32 200 p + 1)) = 39 then 3 else 5, ru_ T 32 32 200 p, qr_ T 20 (ru_ T 32 32 200 p + 1) + 1)
  else (5, ru_ T 32 32 200 p, ru_ T 32 32 200 p + 1)
/-- token k of a text -/
def ti_ (T : Nat → Int32) : Nat → Nat × Nat × Nat
  | 0 => tk_ T 0
  | k + 1 => tk_ T (ti_ T k).2.2
section TOK
variable {f : Nat → Int32} {n : Nat}
theorem tb_ge {p : Nat} {lo : Int32} (hl : 0 ≤ lo) (h : lo ≤ tb_ f n p) : p < n := by
  by_cases z : p < n
  · exact z
  · rw [tb_m1 z] at h
    exact absurd (Int32.le_trans hl h) (by decide)
theorem ru_b {lo hi : Int32} (hl : 0 ≤ lo) : ∀ d p, p ≤ n → p ≤ ru_ (tb_ f n) lo hi d p ∧ ru_ (tb_ f n) lo hi d p ≤ n := by
  intro d
  induction d with
  | zero => intro p hp; exact ⟨Nat.le_refl _, hp⟩
  | succ d ih =>
    intro p hp
    rw [ru_]
    by_cases z : lo ≤ tb_ f n p ∧ tb_ f n p ≤ hi
    · rw [if_pos z]
      have := tb_ge hl z.1
      have := ih (p + 1) (by omega)
      omega
    · rw [if_neg z]
      exact ⟨Nat.le_refl _, hp⟩
theorem ru_in {lo hi : Int32} : ∀ d p j, p ≤ j → j < ru_ (tb_ f n) lo hi d p → lo ≤ tb_ f n j ∧ tb_ f n j ≤ hi := by
  intro d
  induction d with
  | zero => intro p j h1 h2; rw [ru_] at h2; omega
  | succ d ih =>
    intro p j h1 h2
    rw [ru_] at h2
    by_cases z : lo ≤ tb_ f n p ∧ tb_ f n p ≤ hi
    · rw [if_pos z] at h2
      by_cases w : j = p
      · subst w; exact z
      · exact ih (p + 1) j (by omega) h2
    · rw [if_neg z] at h2
      omega
theorem ru_out {lo hi : Int32} (hl : 0 ≤ lo) : ∀ d p, p ≤ n → n < p + d → ¬ (lo ≤ tb_ f n (ru_ (tb_ f n) lo hi d p) ∧ tb_ f n (ru_ (tb_ f n) lo hi d p) ≤ hi) := by
  intro d
  induction d with
  | zero => intro p h1 h2; omega
  | succ d ih =>
    intro p h1 h2
    rw [ru_]
    by_cases z : lo ≤ tb_ f n p ∧ tb_ f n p ≤ hi
    · rw [if_pos z]
      have := tb_ge hl z.1
      exact ih (p + 1) (by omega) (by omega)
    · rw [if_neg z]
      exact z
theorem ru_go {lo hi : Int32} {d p : Nat} (z : lo ≤ tb_ f n p ∧ tb_ f n p ≤ hi) : p + 1 ≤ ru_ (tb_ f n) lo hi (d + 1) p ∨ n < p + 1 := by
  rw [ru_, if_pos z]
  by_cases w : p + 1 ≤ n
  · by_cases q : lo < 0
    · have : ∀ d p, p ≤ ru_ (tb_ f n) lo hi d p := by
        intro d
        induction d with
        | zero => intro p; exact Nat.le_refl _
        | succ d ih =>
          intro p
          rw [ru_]
          split
          · have := ih (p + 1); omega
          · exact Nat.le_refl _
      exact Or.inl (this d (p + 1))
    · exact Or.inl (ru_b (Int32.not_lt.mp q) d (p + 1) w).1
  · exact Or.inr (by omega)
theorem qr_b : ∀ d p, p ≤ n → p ≤ qr_ (tb_ f n) d p ∧ qr_ (tb_ f n) d p ≤ n ∧ qr_ (tb_ f n) d p ≤ p + d := by
  intro d
  induction d with
  | zero => intro p hp; exact ⟨Nat.le_refl _, hp, Nat.le_refl _⟩
  | succ d ih =>
    intro p hp
    rw [qr_]
    by_cases z : qb_ (tb_ f n p) = true
    · rw [if_pos z]
      have := tb_ge (by decide) (of_decide_eq_true z).1
      have := ih (p + 1) (by omega)
      omega
    · rw [if_neg z]
      exact ⟨Nat.le_refl _, hp, by omega⟩
/-- where a token lies -/
theorem tk_b {p : Nat} (hf : ∀ j, j < n → ∃ c, c < 256 ∧ f j = nI c) (hp : p ≤ n) (hn : n ≤ 160) : p ≤ (tk_ (tb_ f n) p).2.1 ∧ (tk_ (tb_ f n) p).2.1 ≤ n ∧ (tk_ (tb_ f n) p).1 ≤ 5 ∧ ((tk_ (tb_ f n) p).1 ≠ 0 → (tk_ (tb_ f n) p).1 ≠ 5 → (tk_ (tb_ f n) p).2.1 < (tk_ (tb_ f n) p).2.2 ∧ (tk_ (tb_ f n) p).2.2 ≤ n) ∧ ((tk_ (tb_ f n) p).1 = 0 → (tk_ (tb_ f n) p).2.1 = n) := by
  have a := ru_b (f := f) (n := n) (lo := 32) (hi := 32) (by decide) 200 p hp
  unfold tk_
  generalize ru_ (tb_ f n) 32 32 200 p = q at a
  by_cases c1 : 97 ≤ tb_ f n q ∧ tb_ f n q ≤ 122
  · rw [if_pos c1]
    have qn := tb_ge (by decide) c1.1
    have b := ru_b (f := f) (n := n) (lo := 97) (hi := 122) (by decide) 200 q a.2
    have b2 : q + 1 ≤ ru_ (tb_ f n) 97 122 200 q ∨ n < q + 1 := ru_go (d := 199) c1
    exact ⟨a.1, a.2, (show (1 : Nat) ≤ 5 by decide), fun _ _ => ⟨by show q < ru_ (tb_ f n) 97 122 200 q; omega, b.2⟩, fun w => absurd (show (1 : Nat) = 0 from w) (by decide)⟩
  · rw [if_neg c1]
    by_cases c2 : 48 ≤ tb_ f n q ∧ tb_ f n q ≤ 57
    · rw [if_pos c2]
      have qn := tb_ge (by decide) c2.1
      have b := ru_b (f := f) (n := n) (lo := 48) (hi := 57) (by decide) 200 q a.2
      have b2 : q + 1 ≤ ru_ (tb_ f n) 48 57 200 q ∨ n < q + 1 := ru_go (d := 199) c2
      refine ⟨a.1, a.2, ?_, fun _ _ => ⟨by show q < ru_ (tb_ f n) 48 57 200 q; omega, b.2⟩, fun w => ?_⟩
      · show (if 6 < _ then 5 else 2) ≤ 5
        split <;> decide
      · exfalso
        have w : (if 6 < ru_ (tb_ f n) 48 57 200 q - q then 5 else 2) = 0 := w
        split at w <;> cases w
    · rw [if_neg c2]
      by_cases c3 : tb_ f n q = -1
      · rw [if_pos c3]
        refine ⟨a.1, a.2, (show (0 : Nat) ≤ 5 by decide), fun w => absurd rfl w, fun _ => ?_⟩
        show q = n
        by_cases z : q < n
        · obtain ⟨c, hc, e⟩ := hf q z
          rw [tb_in z, e] at c3
          exact absurd c3 (nn_m1 (by omega))
        · omega
      · rw [if_neg c3]
        have qn : q < n := by
          by_cases z : q < n
          · exact z
          · exact absurd (tb_m1 z) c3
        by_cases c4 : tb_ f n q = 59
        · rw [if_pos c4]
          exact ⟨a.1, a.2, (show (4 : Nat) ≤ 5 by decide), fun _ _ => ⟨by show q < q + 1; omega, by show q + 1 ≤ n; omega⟩, fun w => absurd (show (4 : Nat) = 0 from w) (by decide)⟩
        · rw [if_neg c4]
          by_cases c5 : tb_ f n q = 39
          · rw [if_pos c5]
            have b := qr_b (f := f) (n := n) 20 (q + 1) (by omega)
            refine ⟨a.1, a.2, ?_, fun _ w => ⟨by show q < qr_ (tb_ f n) 20 (q + 1) + 1; omega, ?_⟩, fun w => ?_⟩
            · show (if _ then 3 else 5) ≤ 5
              split <;> decide
            · show qr_ (tb_ f n) 20 (q + 1) + 1 ≤ n
              by_cases z : tb_ f n (qr_ (tb_ f n) 20 (q + 1)) = 39
              · have := tb_ge (f := f) (n := n) (lo := 39) (by decide) (by rw [z]; decide)
                omega
              · exact absurd (by show (if _ then 3 else 5) = 5; rw [if_neg z]) w
            · exfalso
              have w : (if tb_ f n (qr_ (tb_ f n) 20 (q + 1)) = 39 then 3 else 5) = 0 := w
              split at w <;> cases w
          · rw [if_neg c5]
            exact ⟨a.1, a.2, (show (5 : Nat) ≤ 5 by decide), fun _ w => absurd rfl w, fun w => absurd (show (5 : Nat) = 0 from w) (by decide)⟩
theorem ti_b (hf : ∀ j, j < n → ∃ c, c < 256 ∧ f j = nI c) (hn : n ≤ 160) : ∀ k, (∀ j, j < k → (ti_ (tb_ f n) j).1 ≠ 0 ∧ (ti_ (tb_ f n) j).1 ≠ 5) → k ≤ (ti_ (tb_ f n) k).2.1 ∧ (ti_ (tb_ f n) k).2.1 ≤ n ∧ (ti_ (tb_ f n) k).1 ≤ 5 ∧ ((ti_ (tb_ f n) k).1 ≠ 0 → (ti_ (tb_ f n) k).1 ≠ 5 → (ti_ (tb_ f n) k).2.1 < (ti_ (tb_ f n) k).2.2 ∧ (ti_ (tb_ f n) k).2.2 ≤ n) ∧ ((ti_ (tb_ f n) k).1 = 0 → (ti_ (tb_ f n) k).2.1 = n) := by
  intro k
  induction k with
  | zero =>
    intro _
    have := tk_b (f := f) (n := n) hf (Nat.zero_le n) hn
    rw [ti_]
    exact this
  | succ k ih =>
    intro h
    obtain ⟨a1, a2, a3, a4, a5⟩ := ih (fun j hj => h j (by omega))
    obtain ⟨b1, b2⟩ := h k (by omega)
    obtain ⟨c1, c2⟩ := a4 b1 b2
    obtain ⟨d1, d2, d3, d4, d5⟩ := tk_b (f := f) (n := n) hf c2 hn
    rw [ti_]
    exact ⟨by omega, d2, d3, d4, d5⟩
end TOK
section CTOK
variable {g : ax_Y} {M : ax_M} {Q : Option Value → ax_M → Prop} {h n : Nat} {f1 f2 : Nat → Int32} {z1 z2 : Int32}
abbrev tk_f (z1 z2 : Int32) : List Value := [.ref 25, .ref 27, .ref 28, .ref 29, .int z1, .int z2]
theorem m_Tokens_endOfRun {p : Nat} {lo hi : Int32} (h_this : oC M 24 10 (tk_f z1 z2)) (h_text : oC M 25 7 [.ref 26, .int (nI n)]) (h_bytes : bA M 26 160 f1) (hb : by_ n f1 f2) (hn : n ≤ 160) (hp : p ≤ n) (hl : 0 ≤ lo) (hq : Q (some (.int (nI (ru_ (tb_ f2 n) lo hi 200 p)))) M) : ax_G g mt_Tokens_endOfRun (h + 1) 0 0 0 [.ref 24, .int (nI p), .int lo, .int hi, .float 0] [] M Q := by
  have at_ : ∀ p, p ≤ n → rw_at f1 n (nI p) = tb_ f2 n p := fun p hp => tb_at hb (by omega) (by omega)
  refine s_iload_n 1 rfl rfl rfl ?_
  refine s_ist4 3 rfl rfl rfl ?_
  -- Tokens_endOfRun 3: end
  have loop : ∀ (d q : Nat), q ≤ n → n < q + d → ru_ (tb_ f2 n) lo hi d q = ru_ (tb_ f2 n) lo hi 200 p → ax_G g mt_Tokens_endOfRun (h + 1) 0 0 3 [.ref 24, .int (nI p), .int lo, .int hi, .int (nI q)] [] M Q := by
    intro d
    induction d with
    | zero => intro q h1 h2; omega
    | succ d ih =>
      intro q h1 h2 e
      rw [ru_] at e
      have out : ¬ (lo ≤ tb_ f2 n q ∧ tb_ f2 n q ≤ hi) → ax_G g mt_Tokens_endOfRun (h + 1) 0 0 47 [.ref 24, .int (nI p), .int lo, .int hi, .int (nI q)] [] M Q := by
        intro z
        rw [if_neg z] at e
        rw [← e] at hq
        refine s_iload 49 rfl rfl rfl ?_
        -- Tokens_endOfRun 49: ireturn
        exact s_ireturn rfl .int rfl rfl (hq)
      refine s_iload 5 rfl rfl rfl ?_
      refine s_aload_n 6 rfl rfl rfl ?_
      refine s_getfield 10 0 9 rfl rfl fl_Tokens_14 h_this rfl ?_
      refine c_callV0 h 12 rfl rfl mv_Tokens_33 (by omega) (Nat.le_of_ble_eq_true rfl) (Nat.le_of_ble_eq_true rfl) h_text rfl rfl ?_
      -- Tokens_endOfRun 12: call Row_size
      refine m_Row_size h_text ?_
      dsimp only [ax_rs]
      refine s_icmp_ge 47 15 rfl rfl (by decide) (fun c1 => ?_) (fun c1 => ?_)
      -- Tokens_endOfRun 15: branch 47 15
      · refine out (fun z => ?_)
        have := tb_ge hl z.1
        exact absurd (nn_le c1) (by omega)
      · have c1 := nn_nle c1
        refine s_aload_n 16 rfl rfl rfl ?_
        refine s_getfield 10 0 19 rfl rfl fl_Tokens_14 h_this rfl ?_
        refine s_iload 21 rfl rfl rfl ?_
        refine c_callV1 h 24 rfl rfl mv_Tokens_59 (by omega) (Nat.le_of_ble_eq_true rfl) (Nat.le_of_ble_eq_true rfl) h_text rfl rfl ?_
        -- Tokens_endOfRun 24: call Row_at
        refine m_Row_at h_text h_bytes hn (by decide) ?_
        dsimp only [ax_rs]
        rw [at_ q h1]
        refine s_iload_n 25 rfl rfl rfl ?_
        refine s_icmp_lt 47 28 rfl rfl (by decide) (fun c2 => ?_) (fun c2 => ?_)
        -- Tokens_endOfRun 28: branch 47 28
        · exact out (fun z => absurd c2 (Int32.not_lt.mpr z.1))
        · refine s_aload_n 29 rfl rfl rfl ?_
          refine s_getfield 10 0 32 rfl rfl fl_Tokens_14 h_this rfl ?_
          refine s_iload 34 rfl rfl rfl ?_
          refine c_callV1 h 37 rfl rfl mv_Tokens_59 (by omega) (Nat.le_of_ble_eq_true rfl) (Nat.le_of_ble_eq_true rfl) h_text rfl rfl ?_
          -- Tokens_endOfRun 37: call Row_at
          refine m_Row_at h_text h_bytes hn (by decide) ?_
          dsimp only [ax_rs]
          rw [at_ q h1]
          refine s_iload_n 38 rfl rfl rfl ?_
          refine s_icmp_gt 47 41 rfl rfl (by decide) (fun c3 => ?_) (fun c3 => ?_)
          -- Tokens_endOfRun 41: branch 47 41
          · exact out (fun z => absurd c3 (Int32.not_lt.mpr z.2))
          · rw [if_pos ⟨Int32.not_lt.mp c2, Int32.not_lt.mp c3⟩] at e
            refine s_inc4 _ 44 rfl rfl rfl rfl ?_
            refine s_goto 3 rfl (by decide) ?_
            -- Tokens_endOfRun 3: end
            rw [inc1]
            exact ih (q + 1) (by omega) (by omega) e
  exact loop 200 p hp (by omega) rfl
theorem m_Tokens_isQuotable {x : Int32} (hq : Q (some (.int (if qb_ x then 1 else 0))) M) : ax_G g mt_Tokens_isQuotable h 0 0 0 [.int x] [] M Q := by
  unfold qb_ at hq
  refine s_iload_n 1 rfl rfl rfl ?_
  refine s_bipush 32 3 rfl rfl (by decide) ?_
  refine s_icmp_lt 22 6 rfl rfl (by decide) (fun c1 => ?_) (fun c1 => ?_)
  -- Tokens_isQuotable 6: branch 22 6
  · rw [if_neg (by simp only [decide_eq_true_eq]; exact fun q => absurd c1 (Int32.not_lt.mpr q.1))] at hq
    refine s_iconst 0 23 rfl rfl (by decide) ?_
    -- Tokens_isQuotable 23: ireturn
    exact s_ireturn rfl .boolean rfl rfl (hq)
  · refine s_iload_n 7 rfl rfl rfl ?_
    refine s_bipush 126 9 rfl rfl (by decide) ?_
    refine s_icmp_gt 22 12 rfl rfl (by decide) (fun c2 => ?_) (fun c2 => ?_)
    -- Tokens_isQuotable 12: branch 22 12
    · rw [if_neg (by simp only [decide_eq_true_eq]; exact fun q => absurd c2 (Int32.not_lt.mpr q.2.1))] at hq
      refine s_iconst 0 23 rfl rfl (by decide) ?_
      -- Tokens_isQuotable 23: ireturn
      exact s_ireturn rfl .boolean rfl rfl (hq)
    · refine s_iload_n 13 rfl rfl rfl ?_
      refine s_bipush 39 15 rfl rfl (by decide) ?_
      refine s_icmp_eq 22 18 rfl rfl (by decide) (fun c3 => ?_) (fun c3 => ?_)
      -- Tokens_isQuotable 18: branch 22 18
      · rw [if_neg (by simp only [decide_eq_true_eq]; exact fun q => q.2.2 c3)] at hq
        refine s_iconst 0 23 rfl rfl (by decide) ?_
        -- Tokens_isQuotable 23: ireturn
        exact s_ireturn rfl .boolean rfl rfl (hq)
      · rw [if_pos (by simp only [decide_eq_true_eq]; exact ⟨Int32.not_lt.mp c1, Int32.not_lt.mp c2, c3⟩)] at hq
        refine s_iconst 1 19 rfl rfl (by decide) ?_
        refine s_goto 23 rfl (by decide) ?_
        -- Tokens_isQuotable 23: ireturn
        exact s_ireturn rfl .boolean rfl rfl (hq)
theorem m_Tokens_endOfQuoted {p : Nat} (h_this : oC M 24 10 (tk_f z1 z2)) (h_text : oC M 25 7 [.ref 26, .int (nI n)]) (h_bytes : bA M 26 160 f1) (hb : by_ n f1 f2) (hn : n ≤ 160) (hp : p < n) (hq : Q (some (.int (if tb_ f2 n (qr_ (tb_ f2 n) 20 (p + 1)) = 39 then nI (qr_ (tb_ f2 n) 20 (p + 1) + 1) else -1))) M) : ax_G g mt_Tokens_endOfQuoted (h + 1) 0 0 0 [.ref 24, .int (nI p), .float 0] [] M Q := by
  have at_ : ∀ p, p ≤ n → rw_at f1 n (nI p) = tb_ f2 n p := fun p hp => tb_at hb (by omega) (by omega)
  have b := qr_b (f := f2) (n := n) 20 (p + 1) (by omega)
  have fin : ax_G g mt_Tokens_endOfQuoted (h + 1) 0 0 32 [.ref 24, .int (nI p), .int (nI (qr_ (tb_ f2 n) 20 (p + 1)))] [] M Q := by
    refine s_aload_n 33 rfl rfl rfl ?_
    refine s_getfield 10 0 36 rfl rfl fl_Tokens_14 h_this rfl ?_
    refine s_iload_n 37 rfl rfl rfl ?_
    refine c_callV1 h 40 rfl rfl mv_Tokens_59 (by omega) (Nat.le_of_ble_eq_true rfl) (Nat.le_of_ble_eq_true rfl) h_text rfl rfl ?_
    -- Tokens_endOfQuoted 40: call Row_at
    refine m_Row_at h_text h_bytes hn (by decide) ?_
    dsimp only [ax_rs]
    rw [at_ _ b.2.1]
    refine s_bipush 39 42 rfl rfl (by decide) ?_
    refine s_icmp_ne 51 45 rfl rfl (by decide) (fun c1 => ?_) (fun c1 => ?_)
    -- Tokens_endOfQuoted 45: branch 51 45
    · rw [if_neg c1] at hq
      refine s_iconst (-1) 52 rfl rfl (by decide) ?_
      -- Tokens_endOfQuoted 52: ireturn
      exact s_ireturn rfl .int rfl rfl (hq)
    · rw [if_pos c1] at hq
      refine s_iload_n 46 rfl rfl rfl ?_
      refine s_iconst 1 47 rfl rfl (by decide) ?_
      refine s_iadd 48 rfl rfl ?_
      -- Tokens_endOfQuoted 48: end
      rw [nI_1]
      refine s_goto 52 rfl (by decide) ?_
      -- Tokens_endOfQuoted 52: ireturn
      exact s_ireturn rfl .int rfl rfl (hq)
  have loop : ∀ (d i : Nat), i + d = 20 → p + 1 + i ≤ n → qr_ (tb_ f2 n) d (p + 1 + i) = qr_ (tb_ f2 n) 20 (p + 1) → ax_G g mt_Tokens_endOfQuoted (h + 1) 0 0 4 [.ref 24, .int (nI p), .int (nI (p + 1 + i))] [] M Q := by
    intro d
    induction d with
    | zero =>
      intro i hi h1 e
      rw [qr_] at e
      refine s_iload_n 5 rfl rfl rfl ?_
      refine s_iload_n 6 rfl rfl rfl ?_
      refine s_bipush 20 8 rfl rfl (by decide) ?_
      refine s_iadd 9 rfl rfl ?_
      -- Tokens_endOfQuoted 9: end
      rw [show nI p + 20 = nI (p + 20) from nI_add p 20]
      refine s_icmp_gt 32 12 rfl rfl (by decide) (fun c2 => ?_) (fun c2 => ?_)
      -- Tokens_endOfQuoted 12: branch 32 12
      · rw [e]
        exact fin
      · exact absurd (show nI (p + 20) < nI (p + 1 + i) from (nI_ltI (by omega) (by omega)).mpr (by omega)) c2
    | succ d ih =>
      intro i hi h1 e
      rw [qr_] at e
      refine s_iload_n 5 rfl rfl rfl ?_
      refine s_iload_n 6 rfl rfl rfl ?_
      refine s_bipush 20 8 rfl rfl (by decide) ?_
      refine s_iadd 9 rfl rfl ?_
      -- Tokens_endOfQuoted 9: end
      rw [show nI p + 20 = nI (p + 20) from nI_add p 20]
      refine s_icmp_gt 32 12 rfl rfl (by decide) (fun c3 => ?_) (fun c3 => ?_)
      -- Tokens_endOfQuoted 12: branch 32 12
      · exact absurd (nn_lt c3) (by omega)
      · refine s_aload_n 13 rfl rfl rfl ?_
        refine s_getfield 10 0 16 rfl rfl fl_Tokens_14 h_this rfl ?_
        refine s_iload_n 17 rfl rfl rfl ?_
        refine c_callV1 h 20 rfl rfl mv_Tokens_59 (by omega) (Nat.le_of_ble_eq_true rfl) (Nat.le_of_ble_eq_true rfl) h_text rfl rfl ?_
        -- Tokens_endOfQuoted 20: call Row_at
        refine m_Row_at h_text h_bytes hn (by decide) ?_
        dsimp only [ax_rs]
        rw [at_ _ h1]
        refine c_callS1 h 23 rfl rfl mv_Tokens_72 (by omega) (Nat.le_of_ble_eq_true rfl) (Nat.le_of_ble_eq_true rfl) ?_
        -- Tokens_endOfQuoted 23: call Tokens_isQuotable
        refine m_Tokens_isQuotable ?_
        dsimp only [ax_rs]
        refine s_if_eq 32 26 rfl rfl (by decide) (fun c4 => ?_) (fun c4 => ?_)
        -- Tokens_endOfQuoted 26: branch 32 26
        · rw [i01] at c4
          rw [if_neg (by rw [c4]; decide)] at e
          rw [e]
          exact fin
        · rw [i01] at c4
          have c4 : qb_ (tb_ f2 n (p + 1 + i)) = true := by simpa using c4
          have := tb_ge (by decide) (of_decide_eq_true c4).1
          rw [if_pos c4] at e
          refine s_inc2 _ 29 rfl rfl rfl rfl ?_
          refine s_goto 4 rfl (by decide) ?_
          -- Tokens_endOfQuoted 4: end
          rw [inc1, show p + 1 + i + 1 = p + 1 + (i + 1) by omega]
          exact ih (i + 1) (by omega) (by omega) e
  refine s_iload_n 1 rfl rfl rfl ?_
  refine s_iconst 1 2 rfl rfl (by decide) ?_
  refine s_iadd 3 rfl rfl ?_
  -- Tokens_endOfQuoted 3: end
  rw [nI_1]
  refine s_ist2 4 rfl rfl rfl ?_
  -- Tokens_endOfQuoted 4: end
  exact loop 20 0 (by omega) (by omega) rfl
/-- the sort that a byte tells -/
def s0_ (x : Int32) : Nat := if 97 ≤ x ∧ x ≤ 122 then 1 else if 48 ≤ x ∧ x ≤ 57 then 2 else if x = -1 then 0 else if x = 59 then 4 else if x = 39 then 3 else 5
theorem m_Tokens_sortAt {p : Nat} (h_this : oC M 24 10 (tk_f z1 z2)) (h_text : oC M 25 7 [.ref 26, .int (nI n)]) (h_bytes : bA M 26 160 f1) (hb : by_ n f1 f2) (hn : n ≤ 160) (hp : p ≤ n) (hq : Q (some (.int (nI (s0_ (tb_ f2 n p))))) M) : ax_G g mt_Tokens_sortAt (h + 1) 0 0 0 [.ref 24, .int (nI p), .float 0] [] M Q := by
  have at_ : ∀ p, p ≤ n → rw_at f1 n (nI p) = tb_ f2 n p := fun p hp => tb_at hb (by omega) (by omega)
  unfold s0_ at hq
  refine s_aload_n 1 rfl rfl rfl ?_
  refine s_getfield 10 0 4 rfl rfl fl_Tokens_14 h_this rfl ?_
  refine s_iload_n 5 rfl rfl rfl ?_
  refine c_callV1 h 8 rfl rfl mv_Tokens_59 (by omega) (Nat.le_of_ble_eq_true rfl) (Nat.le_of_ble_eq_true rfl) h_text rfl rfl ?_
  -- Tokens_sortAt 8: call Row_at
  refine m_Row_at h_text h_bytes hn (by decide) ?_
  dsimp only [ax_rs]
  rw [at_ p hp]
  generalize tb_ f2 n p = x at hq ⊢
  refine s_ist2 9 rfl rfl rfl ?_
  refine s_iload_n 10 rfl rfl rfl ?_
  refine c_callS1 h 13 rfl rfl mv_Tokens_62 (by omega) (Nat.le_of_ble_eq_true rfl) (Nat.le_of_ble_eq_true rfl) ?_
  -- Tokens_sortAt 13: call Tokens_isLetter
  refine m_Tokens_isLetter ?_
  dsimp only [ax_rs]
  by_cases e1 : 97 ≤ x ∧ x ≤ 122
  · rw [show lt_ x = true from decide_eq_true e1]
    rw [if_pos e1] at hq
    refine s_if_eq 18 16 rfl rfl (by decide) (fun c1 => ?_) (fun c1 => ?_)
    -- Tokens_sortAt 16: branch 18 16
    · exact absurd c1 (by decide)
    · refine s_iconst 1 17 rfl rfl (by decide) ?_
      -- Tokens_sortAt 17: ireturn
      exact s_ireturn rfl .int rfl rfl (hq)
  · rw [show lt_ x = false from decide_eq_false e1]
    rw [if_neg e1] at hq
    refine s_if_eq 18 16 rfl rfl (by decide) (fun c2 => ?_) (fun c2 => ?_)
    -- Tokens_sortAt 16: branch 18 16
    · refine s_iload_n 19 rfl rfl rfl ?_
      refine c_callS1 h 22 rfl rfl mv_Tokens_66 (by omega) (Nat.le_of_ble_eq_true rfl) (Nat.le_of_ble_eq_true rfl) ?_
      -- Tokens_sortAt 22: call Tokens_isDigit
      refine m_Tokens_isDigit ?_
      dsimp only [ax_rs]
      by_cases e2 : 48 ≤ x ∧ x ≤ 57
      · rw [bi_t e2]
        rw [if_pos e2] at hq
        refine s_if_eq 27 25 rfl rfl (by decide) (fun c3 => ?_) (fun c3 => ?_)
        -- Tokens_sortAt 25: branch 27 25
        · exact absurd c3 (by decide)
        · refine s_iconst 2 26 rfl rfl (by decide) ?_
          -- Tokens_sortAt 26: ireturn
          exact s_ireturn rfl .int rfl rfl (hq)
      · rw [bi_f e2]
        rw [if_neg e2] at hq
        refine s_if_eq 27 25 rfl rfl (by decide) (fun c4 => ?_) (fun c4 => ?_)
        -- Tokens_sortAt 25: branch 27 25
        · refine s_iload_n 28 rfl rfl rfl ?_
          -- Tokens_sortAt 28: end
          by_cases e3 : x = -1
          · subst e3
            refine s_lookup 36 64 rfl (by decide) (by decide) (by decide) ?_
            -- to 64
            refine s_iconst 0 65 rfl rfl (by decide) ?_
            -- Tokens_sortAt 65: ireturn
            exact s_ireturn rfl .int rfl rfl (hq)
          · rw [if_neg e3] at hq
            by_cases e4 : x = 59
            · subst e4
              refine s_lookup 38 66 rfl (by decide) (by decide) (by decide) ?_
              -- to 66
              refine s_iconst 4 67 rfl rfl (by decide) ?_
              -- Tokens_sortAt 67: ireturn
              exact s_ireturn rfl .int rfl rfl (hq)
            · rw [if_neg e4] at hq
              by_cases e5 : x = 39
              · subst e5
                refine s_lookup 40 68 rfl (by decide) (by decide) (by decide) ?_
                -- to 68
                refine s_iconst 3 69 rfl rfl (by decide) ?_
                -- Tokens_sortAt 69: ireturn
                exact s_ireturn rfl .int rfl rfl (hq)
              · rw [if_neg e5] at hq
                have n1 : x.toInt ≠ -1 := fun q => e3 (Int32.toInt_inj.mp q)
                have n2 : x.toInt ≠ 39 := fun q => e5 (Int32.toInt_inj.mp q)
                have n3 : x.toInt ≠ 59 := fun q => e4 (Int32.toInt_inj.mp q)
                refine s_lookup 42 70 rfl (by decide) (by simp [Op.lookupswitch.offset, n1, n2, n3, Ne.symm n1, Ne.symm n2, Ne.symm n3]) (by decide) ?_
                refine s_iconst 5 71 rfl rfl (by decide) ?_
                -- Tokens_sortAt 71: ireturn
                exact s_ireturn rfl .int rfl rfl (hq)
        · exact absurd rfl c4
    · exact absurd rfl c2
end CTOK
