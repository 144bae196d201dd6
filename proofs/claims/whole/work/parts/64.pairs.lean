/-! lines matched: which are paired -/
/-- the k-th below n with p -/
def sel_ (p : Nat → Bool) : Nat → Nat → Nat
  | 0, _ => 0
  | n + 1, k => if p n = true ∧ k = cnt p n then n else sel_ p n k
theorem sel_in {p : Nat → Bool} : ∀ {n k : Nat}, k < cnt p n → sel_ p n k < n ∧ p (sel_ p n k) = true ∧ cnt p (sel_ p n k) = k := by
  intro n
  induction n with
  | zero => intro k hk; exact absurd hk (Nat.not_lt_zero k)
  | succ n ih =>
    intro k hk
    rw [sel_]
    by_cases z : p n = true ∧ k = cnt p n
    · rw [if_pos z]
      exact ⟨by omega, z.1, z.2.symm⟩
    · rw [if_neg z]
      rw [cnt] at hk
      have hk2 : k < cnt p n := by
        by_cases w : p n = true
        · rw [if_pos w] at hk
          have : k ≠ cnt p n := fun q => z ⟨w, q⟩
          omega
        · rw [if_neg w] at hk
          omega
      obtain ⟨h1, h2, h3⟩ := ih hk2
      exact ⟨by omega, h2, h3⟩
theorem sel_j {p : Nat → Bool} {n k k2 : Nat} (h1 : k < cnt p n) (h2 : k2 < cnt p n) (e : sel_ p n k = sel_ p n k2) : k = k2 := by
  rw [← (sel_in h1).2.2, ← (sel_in h2).2.2, e]
/-- how many pairs the rows from p and from q on can have -/
def mo_ (al : Nat → Nat → Bool) (O N : Nat) (p q : Nat) : Nat :=
  if h : p < O ∧ q < N then max (max (mo_ al O N (p + 1) q) (mo_ al O N p (q + 1))) (if al p q = true then 1 + mo_ al O N (p + 1) (q + 1) else 0) else 0
termination_by (O - p) + (N - q)
decreasing_by all_goals omega
section MO
variable {al : Nat → Nat → Bool} {O N : Nat}
theorem mo_0 {p q : Nat} (h : ¬ (p < O ∧ q < N)) : mo_ al O N p q = 0 := by
  rw [mo_, dif_neg h]
theorem mo_e {p q : Nat} (h : p < O ∧ q < N) : mo_ al O N p q = max (max (mo_ al O N (p + 1) q) (mo_ al O N p (q + 1))) (if al p q = true then 1 + mo_ al O N (p + 1) (q + 1) else 0) := by
  rw [mo_, dif_pos h]
theorem mo_p (p q : Nat) : mo_ al O N (p + 1) q ≤ mo_ al O N p q := by
  by_cases h : p < O ∧ q < N
  · rw [mo_e h]
    exact Nat.le_trans (Nat.le_max_left _ _) (Nat.le_max_left _ _)
  · rw [mo_0 (p := p + 1) (by omega)]
    exact Nat.zero_le _
theorem mo_q (p q : Nat) : mo_ al O N p (q + 1) ≤ mo_ al O N p q := by
  by_cases h : p < O ∧ q < N
  · rw [mo_e h]
    exact Nat.le_trans (Nat.le_max_right _ _) (Nat.le_max_left _ _)
  · rw [mo_0 (q := q + 1) (by omega)]
    exact Nat.zero_le _
theorem mo_lip : ∀ d p q, (O - p) + (N - q) ≤ d → mo_ al O N p q ≤ 1 + mo_ al O N p (q + 1) ∧ mo_ al O N p q ≤ 1 + mo_ al O N (p + 1) q := by
  intro d
  induction d with
  | zero =>
    intro p q h
    rw [mo_0 (p := p) (q := q) (by omega)]
    exact ⟨Nat.zero_le _, Nat.zero_le _⟩
  | succ d ih =>
    intro p q h
    by_cases z : p < O ∧ q < N
    · have a1 := ih (p + 1) q (by omega)
      have a2 := ih p (q + 1) (by omega)
      have m1 := mo_p (al := al) (O := O) (N := N) p (q + 1)
      have m2 := mo_q (al := al) (O := O) (N := N) (p + 1) q
      rw [mo_e z]
      split <;> omega
    · rw [mo_0 z]
      exact ⟨Nat.zero_le _, Nat.zero_le _⟩
theorem mo_al {p q : Nat} (h : p < O ∧ q < N) (ha : al p q = true) : mo_ al O N p q = 1 + mo_ al O N (p + 1) (q + 1) := by
  have a1 := mo_lip (al := al) (O := O) (N := N) _ (p + 1) q (Nat.le_refl _)
  have a2 := mo_lip (al := al) (O := O) (N := N) _ p (q + 1) (Nat.le_refl _)
  rw [mo_e h, if_pos ha]
  omega
theorem mo_na {p q : Nat} (h : p < O ∧ q < N) (ha : ¬ al p q = true) : mo_ al O N p q = max (mo_ al O N (p + 1) q) (mo_ al O N p (q + 1)) := by
  rw [mo_e h, if_neg ha]
  omega
theorem mo_le : ∀ d p q, (O - p) + (N - q) ≤ d → mo_ al O N p q ≤ O - p := by
  intro d
  induction d with
  | zero =>
    intro p q h
    rw [mo_0 (p := p) (q := q) (by omega)]
    exact Nat.zero_le _
  | succ d ih =>
    intro p q h
    by_cases z : p < O ∧ q < N
    · have a1 := ih (p + 1) q (by omega)
      have a2 := ih p (q + 1) (by omega)
      have a3 := ih (p + 1) (q + 1) (by omega)
      rw [mo_e z]
      split <;> omega
    · rw [mo_0 z]
      exact Nat.zero_le _
end MO
def uo_ (f : Nat → Option Nat) (i : Nat) (v : Option Nat) : Nat → Option Nat := fun j => if j = i then v else f j
/-- the pairs from p and q on, by the new lines and by the old -/
def pw_ (al : Nat → Nat → Bool) (O N : Nat) (ol ne : Nat → Nat) : Nat → Nat → Nat → (Nat → Option Nat) → (Nat → Option Nat) → (Nat → Option Nat) × (Nat → Option Nat)
  | 0, _, _, bf, wt => (bf, wt)
  | d + 1, p, q, bf, wt => if p < O ∧ q < N then (if al p q = true then pw_ al O N ol ne d (p + 1) (q + 1) (uo_ bf (ne q) (some (ol p))) (uo_ wt (ol p) (some (ne q))) else if mo_ al O N p (q + 1) ≤ mo_ al O N (p + 1) q then pw_ al O N ol ne d (p + 1) q bf wt else pw_ al O N ol ne d p (q + 1) bf wt) else (bf, wt)
def J_ (ln dr : Nat) (bf wt : Nat → Option Nat) : Prop := (∀ j, j < dr → ∀ i, bf j = some i → i < ln ∧ wt i = some j) ∧ (∀ i, i < ln → ∀ j, wt i = some j → j < dr ∧ bf j = some i)
theorem J_up {ln dr : Nat} {bf wt : Nat → Option Nat} (h : J_ ln dr bf wt) {i j : Nat} (hi : i < ln) (hj : j < dr) (h1 : wt i = none) (h2 : bf j = none) : J_ ln dr (uo_ bf j (some i)) (uo_ wt i (some j)) := by
  constructor
  · intro j' hj' i' e
    unfold uo_ at *
    by_cases z : j' = j
    · subst z
      rw [if_pos rfl] at e
      injection e with e
      subst e
      exact ⟨hi, if_pos rfl⟩
    · rw [if_neg z] at e
      obtain ⟨a1, a2⟩ := h.1 j' hj' i' e
      refine ⟨a1, ?_⟩
      rw [if_neg (fun w => by subst w; rw [h1] at a2; cases a2)]
      exact a2
  · intro i' hi' j' e
    unfold uo_ at *
    by_cases z : i' = i
    · subst z
      rw [if_pos rfl] at e
      injection e with e
      subst e
      exact ⟨hj, if_pos rfl⟩
    · rw [if_neg z] at e
      obtain ⟨a1, a2⟩ := h.2 i' hi' j' e
      refine ⟨a1, ?_⟩
      rw [if_neg (fun w => by subst w; rw [h2] at a2; cases a2)]
      exact a2
theorem pw_J {al : Nat → Nat → Bool} {O N : Nat} {ol ne : Nat → Nat} {ln dr : Nat} (h1 : ∀ p, p < O → ol p < ln) (h2 : ∀ q, q < N → ne q < dr) (i1 : ∀ p p2, p < O → p2 < O → ol p = ol p2 → p = p2) (i2 : ∀ q q2, q < N → q2 < N → ne q = ne q2 → q = q2) : ∀ d p q bf wt, J_ ln dr bf wt → (∀ p', p ≤ p' → p' < O → wt (ol p') = none) → (∀ q', q ≤ q' → q' < N → bf (ne q') = none) → J_ ln dr (pw_ al O N ol ne d p q bf wt).1 (pw_ al O N ol ne d p q bf wt).2 ∧ (∀ j, (pw_ al O N ol ne d p q bf wt).1 j = bf j ∨ ∃ q, q < N ∧ j = ne q) ∧ (∀ i, (pw_ al O N ol ne d p q bf wt).2 i = wt i ∨ ∃ p, p < O ∧ i = ol p) := by
  intro d
  induction d with
  | zero => intro p q bf wt hJ _ _; exact ⟨hJ, fun _ => Or.inl rfl, fun _ => Or.inl rfl⟩
  | succ d ih =>
    intro p q bf wt hJ f1 f2
    rw [pw_]
    by_cases z : p < O ∧ q < N
    · rw [if_pos z]
      by_cases w : al p q = true
      · rw [if_pos w]
        obtain ⟨a1, a2, a3⟩ := ih (p + 1) (q + 1) (uo_ bf (ne q) (some (ol p))) (uo_ wt (ol p) (some (ne q))) (J_up hJ (h1 p z.1) (h2 q z.2) (f1 p (Nat.le_refl p) z.1) (f2 q (Nat.le_refl q) z.2)) (fun p' g1 g2 => by
          unfold uo_
          rw [if_neg (fun e => by have := i1 _ _ g2 z.1 e; omega)]
          exact f1 p' (by omega) g2) (fun q' g1 g2 => by
          unfold uo_
          rw [if_neg (fun e => by have := i2 _ _ g2 z.2 e; omega)]
          exact f2 q' (by omega) g2)
        refine ⟨a1, fun j => ?_, fun i => ?_⟩
        · rcases a2 j with b | b
          · by_cases v : j = ne q
            · exact Or.inr ⟨q, z.2, v⟩
            · rw [b]
              unfold uo_
              rw [if_neg v]
              exact Or.inl rfl
          · exact Or.inr b
        · rcases a3 i with b | b
          · by_cases v : i = ol p
            · exact Or.inr ⟨p, z.1, v⟩
            · rw [b]
              unfold uo_
              rw [if_neg v]
              exact Or.inl rfl
          · exact Or.inr b
      · rw [if_neg w]
        by_cases v : mo_ al O N p (q + 1) ≤ mo_ al O N (p + 1) q
        · rw [if_pos v]
          exact ih (p + 1) q bf wt hJ (fun p' g1 g2 => f1 p' (by omega) g2) f2
        · rw [if_neg v]
          exact ih p (q + 1) bf wt hJ f1 (fun q' g1 g2 => f2 q' (by omega) g2)
    · rw [if_neg z]
      exact ⟨hJ, fun _ => Or.inl rfl, fun _ => Or.inl rfl⟩
/-- the pairs of the files below f -/
def mt_ (fo fn : Nat → Nat) (mk : Nat → Nat → Bool) (ln dr : Nat) : Nat → (Nat → Option Nat) × (Nat → Option Nat)
  | 0 => (fun _ => none, fun _ => none)
  | f + 1 => pw_ (fun p q => mk (sel_ (fun i => decide (fo i = f)) ln p) (sel_ (fun j => decide (fn j = f)) dr q)) (cnt (fun i => decide (fo i = f)) ln) (cnt (fun j => decide (fn j = f)) dr) (sel_ (fun i => decide (fo i = f)) ln) (sel_ (fun j => decide (fn j = f)) dr) (ln + dr) 0 0 (mt_ fo fn mk ln dr f).1 (mt_ fo fn mk ln dr f).2
theorem mt_J (fo fn : Nat → Nat) (mk : Nat → Nat → Bool) (ln dr : Nat) : ∀ f, J_ ln dr (mt_ fo fn mk ln dr f).1 (mt_ fo fn mk ln dr f).2 ∧ (∀ j, (mt_ fo fn mk ln dr f).1 j ≠ none → fn j < f) ∧ (∀ i, (mt_ fo fn mk ln dr f).2 i ≠ none → fo i < f) := by
  intro f
  induction f with
  | zero => exact ⟨⟨fun j _ i e => (by cases e), fun i _ j e => (by cases e)⟩, fun j q => absurd rfl q, fun i q => absurd rfl q⟩
  | succ f ih =>
    obtain ⟨a1, a2, a3⟩ := ih
    rw [mt_]
    have s1 : ∀ p, p < cnt (fun i => decide (fo i = f)) ln → fo (sel_ (fun i => decide (fo i = f)) ln p) = f := fun p hp => of_decide_eq_true (sel_in hp).2.1
    have s2 : ∀ q, q < cnt (fun j => decide (fn j = f)) dr → fn (sel_ (fun j => decide (fn j = f)) dr q) = f := fun q hq => of_decide_eq_true (sel_in hq).2.1
    obtain ⟨b1, b2, b3⟩ := pw_J (al := fun p q => mk (sel_ (fun i => decide (fo i = f)) ln p) (sel_ (fun j => decide (fn j = f)) dr q)) (fun p hp => (sel_in hp).1) (fun q hq => (sel_in hq).1) (fun p p2 g1 g2 e => sel_j g1 g2 e) (fun q q2 g1 g2 e => sel_j g1 g2 e) (ln + dr) 0 0 (mt_ fo fn mk ln dr f).1 (mt_ fo fn mk ln dr f).2 a1 (fun p' _ hp => by
      cases e : (mt_ fo fn mk ln dr f).2 (sel_ (fun i => decide (fo i = f)) ln p') with
      | none => rfl
      | some v =>
        have := a3 _ (by rw [e]; exact fun q => by cases q)
        rw [s1 p' hp] at this
        omega) (fun q' _ hq => by
      cases e : (mt_ fo fn mk ln dr f).1 (sel_ (fun j => decide (fn j = f)) dr q') with
      | none => rfl
      | some v =>
        have := a2 _ (by rw [e]; exact fun q => by cases q)
        rw [s2 q' hq] at this
        omega)
    refine ⟨b1, fun j hj => ?_, fun i hi => ?_⟩
    · rcases b2 j with e | ⟨q, hq, e⟩
      · rw [e] at hj
        have := a2 j hj
        omega
      · rw [e, s2 q hq]
        omega
    · rcases b3 i with e | ⟨p, hp, e⟩
      · rw [e] at hi
        have := a3 i hi
        omega
      · rw [e, s1 p hp]
        omega
theorem mo_cg {al al2 : Nat → Nat → Bool} {O N : Nat} (h : ∀ p q, p < O → q < N → al p q = al2 p q) : ∀ d p q, (O - p) + (N - q) ≤ d → mo_ al O N p q = mo_ al2 O N p q := by
  intro d
  induction d with
  | zero =>
    intro p q hd
    rw [mo_0 (by omega), mo_0 (by omega)]
  | succ d ih =>
    intro p q hd
    by_cases z : p < O ∧ q < N
    · rw [mo_e z, mo_e z, ih (p + 1) q (by omega), ih p (q + 1) (by omega), ih (p + 1) (q + 1) (by omega), h p q z.1 z.2]
    · rw [mo_0 z, mo_0 z]
theorem pw_cg {al al2 : Nat → Nat → Bool} {O N : Nat} {ol ne : Nat → Nat} (h : ∀ p q, p < O → q < N → al p q = al2 p q) : ∀ d p q bf wt, pw_ al O N ol ne d p q bf wt = pw_ al2 O N ol ne d p q bf wt := by
  intro d
  induction d with
  | zero => intro p q bf wt; rfl
  | succ d ih =>
    intro p q bf wt
    rw [pw_, pw_]
    by_cases z : p < O ∧ q < N
    · rw [if_pos z, if_pos z, h p q z.1 z.2, mo_cg h _ p (q + 1) (Nat.le_refl _), mo_cg h _ (p + 1) q (Nat.le_refl _), ih, ih, ih]
    · rw [if_neg z, if_neg z]
theorem mt_cg {fo fn : Nat → Nat} {mk mk2 : Nat → Nat → Bool} {ln dr : Nat} (h : ∀ i j, i < ln → j < dr → mk i j = mk2 i j) : ∀ f, mt_ fo fn mk ln dr f = mt_ fo fn mk2 ln dr f := by
  intro f
  induction f with
  | zero => rfl
  | succ f ih =>
    rw [mt_, mt_, ih]
    exact pw_cg (fun p q hp hq => h _ _ (sel_in hp).1 (sel_in hq).1) _ _ _ _ _
