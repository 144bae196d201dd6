/-! matching of items, each a star or one that fits one element -/
def fw_ (st : Nat → Prop) (ok : Nat → Nat → Prop) (B : Nat) : Nat → Nat → Prop
  | 0, b => b = 0
  | a + 1, b => b ≤ B ∧ ((st a ∧ ∃ c, c ≤ b ∧ fw_ st ok B a c) ∨ (¬ st a ∧ ∃ c, b = c + 1 ∧ fw_ st ok B a c ∧ ok a c))
theorem fw_cg {st st2 : Nat → Prop} {ok ok2 : Nat → Nat → Prop} {B : Nat} : ∀ {K : Nat}, (∀ a, a < K → (st a ↔ st2 a)) → (∀ a b, a < K → b < B → (ok a b ↔ ok2 a b)) → ∀ b, (fw_ st ok B K b ↔ fw_ st2 ok2 B K b) := by
  intro K
  induction K with
  | zero => intro _ _ b; exact Iff.rfl
  | succ K ih =>
    intro h1 h2 b
    have ih := ih (fun a ha => h1 a (by omega)) (fun a b ha hb => h2 a b (by omega) hb)
    rw [fw_, fw_, h1 K (by omega)]
    refine and_congr_right (fun hb => or_congr (and_congr_right (fun _ => ?_)) (and_congr_right (fun _ => ?_)))
    · exact exists_congr (fun c => and_congr_right (fun _ => ih c))
    · refine exists_congr (fun c => and_congr_right (fun e => ?_))
      rw [ih c, h2 K c (by omega) (by omega)]
theorem gl_fw {st : Nat → Prop} {ok : Nat → Nat → Prop} {K B : Nat} {G : Nat → Nat → Prop} (hK : ∀ b, b ≤ B → (G K b ↔ b = B)) (hs : ∀ a, a < K → st a → ∀ b, b ≤ B → (G a b ↔ ∃ c, b ≤ c ∧ c ≤ B ∧ G (a + 1) c)) (hn : ∀ a, a < K → ¬ st a → ∀ b, b ≤ B → (G a b ↔ (b < B ∧ ok a b ∧ G (a + 1) (b + 1)))) : G 0 0 ↔ fw_ st ok B K B := by
  have inv : ∀ a, a ≤ K → (G 0 0 ↔ ∃ b, b ≤ B ∧ fw_ st ok B a b ∧ G a b) := by
    intro a
    induction a with
    | zero =>
      intro _
      exact ⟨fun q => ⟨0, Nat.zero_le B, rfl, q⟩, fun ⟨b, h1, h2, h3⟩ => by
        have h2 : b = 0 := h2
        subst h2; exact h3⟩
    | succ a ih =>
      intro ha
      refine (ih (by omega)).trans ?_
      by_cases z : st a
      · constructor
        · rintro ⟨b, h1, h2, h3⟩
          obtain ⟨c, h4, h5, h6⟩ := (hs a ha z b h1).mp h3
          exact ⟨c, h5, ⟨h5, Or.inl ⟨z, b, h4, h2⟩⟩, h6⟩
        · rintro ⟨c, h1, ⟨-, h2⟩, h3⟩
          rcases h2 with ⟨-, b, h4, h5⟩ | ⟨h2, -⟩
          · exact ⟨b, by omega, h5, (hs a ha z b (by omega)).mpr ⟨c, h4, h1, h3⟩⟩
          · exact absurd z h2
      · constructor
        · rintro ⟨b, h1, h2, h3⟩
          obtain ⟨h4, h5, h6⟩ := (hn a ha z b h1).mp h3
          exact ⟨b + 1, h4, ⟨h4, Or.inr ⟨z, b, rfl, h2, h5⟩⟩, h6⟩
        · rintro ⟨c, h1, ⟨-, h2⟩, h3⟩
          rcases h2 with ⟨h2, -⟩ | ⟨-, b, rfl, h4, h5⟩
          · exact absurd h2 z
          · exact ⟨b, by omega, h4, (hn a ha z b (by omega)).mpr ⟨h1, h5, h3⟩⟩
  refine (inv K (Nat.le_refl K)).trans ⟨?_, ?_⟩
  · rintro ⟨b, h1, h2, h3⟩
    have e := (hK b h1).mp h3
    rw [e] at h2
    exact h2
  · intro q
    exact ⟨B, Nat.le_refl B, q, (hK B (Nat.le_refl B)).mpr rfl⟩
/-- the same from the end: d items from i on fit the elements from b on -/
def gl_ (st : Nat → Prop) (ok : Nat → Nat → Prop) (L : Nat) : Nat → Nat → Nat → Prop
  | 0, _, b => b = L
  | d + 1, i, b => (st i ∧ ∃ c, b ≤ c ∧ c ≤ L ∧ gl_ st ok L d (i + 1) c) ∨ (¬ st i ∧ b < L ∧ ok i b ∧ gl_ st ok L d (i + 1) (b + 1))
theorem gl_0 {st : Nat → Prop} {ok : Nat → Nat → Prop} {K L : Nat} : gl_ st ok L K 0 0 ↔ fw_ st ok L K L := by
  refine gl_fw (G := fun a b => gl_ st ok L (K - a) a b) (fun b _ => ?_) (fun a ha z b _ => ?_) (fun a ha z b _ => ?_)
  · show gl_ st ok L (K - K) K b ↔ _
    rw [Nat.sub_self, gl_]
  · show gl_ st ok L (K - a) a b ↔ ∃ c, b ≤ c ∧ c ≤ L ∧ gl_ st ok L (K - (a + 1)) (a + 1) c
    rw [show K - a = (K - (a + 1)) + 1 by omega, gl_]
    exact ⟨fun q => q.elim (fun q => q.2) (fun q => absurd z q.1), fun q => Or.inl ⟨z, q⟩⟩
  · show gl_ st ok L (K - a) a b ↔ b < L ∧ ok a b ∧ gl_ st ok L (K - (a + 1)) (a + 1) (b + 1)
    rw [show K - a = (K - (a + 1)) + 1 by omega, gl_]
    exact ⟨fun q => q.elim (fun q => absurd q.1 z) (fun q => q.2), fun q => Or.inr ⟨z, q⟩⟩
/-- two stars, and a part begins here -/
def any_ (P : Nat → Int32) (m0 i : Nat) : Prop := (i = 0 ∨ P (i - 1) = 47) ∧ i + 1 < m0 ∧ P i = 42 ∧ P (i + 1) = 42
/-- the reference's way: a pattern from byte i on fits a path from byte j on -/
def gF (P X : Nat → Int32) (m0 n : Nat) (i j : Nat) : Prop :=
  (m0 < i ∧ j = n) ∨ ∃ _ : i ≤ m0, (any_ P m0 i ∧ (gF P X m0 n (i + 3) j ∨ ∃ t, ∃ _ : j ≤ t ∧ t < n, X t = 47 ∧ (∀ c, j ≤ c → c < t → X c ≠ 47) ∧ gF P X m0 n i (t + 1))) ∨ (¬ any_ P m0 i ∧ P i = 42 ∧ (gF P X m0 n (i + 1) j ∨ ∃ _ : j < n, X j ≠ 47 ∧ gF P X m0 n i (j + 1))) ∨ (¬ any_ P m0 i ∧ P i ≠ 42 ∧ ∃ _ : j < n, X j = P i ∧ gF P X m0 n (i + 1) (j + 1))
termination_by (m0 + 1 - i, n - j)
decreasing_by
  all_goals first
    | (apply Prod.Lex.left; omega)
    | (apply Prod.Lex.right; omega)
section GF
variable {P X : Nat → Int32} {m0 n i j : Nat}
theorem gF_e (h : m0 < i) : gF P X m0 n i j ↔ j = n := by
  rw [gF]
  exact ⟨fun q => q.elim (fun q => q.2) (fun ⟨h2, _⟩ => absurd h2 (by omega)), fun q => Or.inl ⟨h, q⟩⟩
theorem gF_a (h : i ≤ m0) (ha : any_ P m0 i) : gF P X m0 n i j ↔ (gF P X m0 n (i + 3) j ∨ ∃ t, (j ≤ t ∧ t < n) ∧ X t = 47 ∧ (∀ c, j ≤ c → c < t → X c ≠ 47) ∧ gF P X m0 n i (t + 1)) := by
  rw [gF]
  constructor
  · rintro (q | ⟨_, q | q | q⟩)
    · omega
    · rcases q.2 with q | ⟨t, q1, q2⟩
      · exact Or.inl q
      · exact Or.inr ⟨t, q1, q2⟩
    · exact absurd ha q.1
    · exact absurd ha q.1
  · rintro (q | ⟨t, q1, q2⟩)
    · exact Or.inr ⟨h, Or.inl ⟨ha, Or.inl q⟩⟩
    · exact Or.inr ⟨h, Or.inl ⟨ha, Or.inr ⟨t, q1, q2⟩⟩⟩
theorem gF_s (h : i ≤ m0) (ha : ¬ any_ P m0 i) (hs : P i = 42) : gF P X m0 n i j ↔ (gF P X m0 n (i + 1) j ∨ (j < n ∧ X j ≠ 47 ∧ gF P X m0 n i (j + 1))) := by
  rw [gF]
  constructor
  · rintro (q | ⟨_, q | q | q⟩)
    · omega
    · exact absurd q.1 ha
    · rcases q.2.2 with q | ⟨q1, q2⟩
      · exact Or.inl q
      · exact Or.inr ⟨q1, q2⟩
    · exact absurd hs q.2.1
  · rintro (q | ⟨q1, q2⟩)
    · exact Or.inr ⟨h, Or.inr (Or.inl ⟨ha, hs, Or.inl q⟩)⟩
    · exact Or.inr ⟨h, Or.inr (Or.inl ⟨ha, hs, Or.inr ⟨q1, q2⟩⟩)⟩
theorem gF_c (h : i ≤ m0) (ha : ¬ any_ P m0 i) (hs : P i ≠ 42) : gF P X m0 n i j ↔ (j < n ∧ X j = P i ∧ gF P X m0 n (i + 1) (j + 1)) := by
  rw [gF]
  constructor
  · rintro (q | ⟨_, q | q | q⟩)
    · omega
    · exact absurd q.1 ha
    · exact absurd q.2.1 hs
    · obtain ⟨-, -, q1, q2⟩ := q
      exact ⟨q1, q2⟩
  · rintro ⟨q1, q2⟩
    exact Or.inr ⟨h, Or.inr (Or.inr ⟨ha, hs, q1, q2⟩)⟩
end GF
/-- the parts of N bytes X begin at z 0 .. z (k - 1); each ends with a slash -/
def W_ (X : Nat → Int32) (N k : Nat) (z : Nat → Nat) : Prop := z 0 = 0 ∧ z k = N ∧ ∀ a, a < k → z a < z (a + 1) ∧ X (z (a + 1) - 1) = 47 ∧ ∀ c, z a ≤ c → c + 1 < z (a + 1) → X c ≠ 47
theorem W_.mono {X : Nat → Int32} {N k : Nat} {z : Nat → Nat} (h : W_ X N k z) {a : Nat} : ∀ d, a + d ≤ k → z a ≤ z (a + d) := by
  intro d
  induction d with
  | zero => intro _; exact Nat.le_refl _
  | succ d ih =>
    intro hd
    have h1 := ih (by omega)
    have h2 := (h.2.2 (a + d) (by omega)).1
    rw [show a + (d + 1) = a + d + 1 by omega]
    omega
theorem W_.inj {X : Nat → Int32} {N k : Nat} {z : Nat → Nat} (h : W_ X N k z) {a : Nat} (ha : a < k) : z a < N := by
  have h1 := (h.2.2 a ha).1
  have h2 := h.mono (a := a + 1) (k - (a + 1)) (by omega)
  rw [show a + 1 + (k - (a + 1)) = k by omega, h.2.1] at h2
  omega
section MAIN
variable {P X : Nat → Int32} {m0 n K B : Nat} {z y : Nat → Nat}
def ds_ (P : Nat → Int32) (z : Nat → Nat) (a : Nat) : Prop := z (a + 1) = z a + 3 ∧ P (z a) = 42 ∧ P (z a + 1) = 42
def pf_ (P X : Nat → Int32) (z y : Nat → Nat) (a b : Nat) : Prop := fw_ (fun i => P (z a + i) = 42) (fun i j => X (y b + j) = P (z a + i)) (y (b + 1) - 1 - y b) (z (a + 1) - 1 - z a) (y (b + 1) - 1 - y b)
theorem gF_no (hP : W_ P (m0 + 1) K z) {a : Nat} (ha : a < K) (hd : ¬ any_ P m0 (z a)) : ∀ d i, i + d = z (a + 1) - 1 → z a ≤ i → ¬ gF P X m0 n i n := by
  obtain ⟨p1, p2, p3⟩ := hP.2.2 a ha
  have hN := hP.mono (a := a + 1) (K - (a + 1)) (by omega)
  rw [show a + 1 + (K - (a + 1)) = K by omega, hP.2.1] at hN
  intro d
  induction d with
  | zero =>
    intro i hi hz
    obtain rfl : i = z (a + 1) - 1 := by omega
    have na : ¬ any_ P m0 (z (a + 1) - 1) := fun q => by
      have := q.2.2.1
      rw [p2] at this
      exact absurd this (by decide)
    rw [gF_c (by omega) na (by rw [p2]; decide)]
    exact fun q => absurd q.1 (Nat.lt_irrefl n)
  | succ d ih =>
    intro i hi hz
    have na : ¬ any_ P m0 i := fun q => by
      by_cases e : i = z a
      · subst e; exact hd q
      · rcases q.1 with w | w
        · omega
        · exact p3 (i - 1) (by omega) (by omega) w
    by_cases e : P i = 42
    · rw [gF_s (by omega) na e]
      rintro (q | q)
      · exact ih (i + 1) (by omega) (by omega) q
      · exact absurd q.1 (Nat.lt_irrefl n)
    · rw [gF_c (by omega) na e]
      exact fun q => absurd q.1 (Nat.lt_irrefl n)
theorem gF_part (hP : W_ P (m0 + 1) K z) (hX : W_ X n B y) {a b : Nat} (ha : a < K) (hb : b < B) (hd : ¬ any_ P m0 (z a)) : ∀ d i, i + d = z (a + 1) - 1 - z a → ∀ j, j ≤ y (b + 1) - 1 - y b → (gF P X m0 n (z a + i) (y b + j) ↔ (gl_ (fun i => P (z a + i) = 42) (fun i j => X (y b + j) = P (z a + i)) (y (b + 1) - 1 - y b) d i j ∧ gF P X m0 n (z (a + 1)) (y (b + 1)))) := by
  obtain ⟨p1, p2, p3⟩ := hP.2.2 a ha
  obtain ⟨x1, x2, x3⟩ := hX.2.2 b hb
  have hN := hP.mono (a := a + 1) (K - (a + 1)) (by omega)
  rw [show a + 1 + (K - (a + 1)) = K by omega, hP.2.1] at hN
  have hM := hX.mono (a := b + 1) (B - (b + 1)) (by omega)
  rw [show b + 1 + (B - (b + 1)) = B by omega, hX.2.1] at hM
  intro d
  induction d with
  | zero =>
    intro i hi j hj
    obtain rfl : i = z (a + 1) - 1 - z a := by omega
    rw [show z a + (z (a + 1) - 1 - z a) = z (a + 1) - 1 by omega]
    have na : ¬ any_ P m0 (z (a + 1) - 1) := fun q => by
      have := q.2.2.1
      rw [p2] at this
      exact absurd this (by decide)
    rw [gF_c (by omega) na (by rw [p2]; decide), p2, gl_, show z (a + 1) - 1 + 1 = z (a + 1) by omega]
    constructor
    · rintro ⟨q1, q2, q3⟩
      have e : j = y (b + 1) - 1 - y b := by
        by_cases w : j = y (b + 1) - 1 - y b
        · exact w
        · exact absurd q2 (x3 (y b + j) (by omega) (by omega))
      refine ⟨e, ?_⟩
      rw [show y b + j + 1 = y (b + 1) by omega] at q3
      exact q3
    · rintro ⟨q1, q3⟩
      refine ⟨by omega, ?_, ?_⟩
      · rw [show y b + j = y (b + 1) - 1 by omega]
        exact x2
      · rw [show y b + j + 1 = y (b + 1) by omega]
        exact q3
  | succ d ih =>
    intro i hi
    have na : ¬ any_ P m0 (z a + i) := fun q => by
      by_cases e : i = 0
      · subst e; exact hd q
      · rcases q.1 with w | w
        · omega
        · exact p3 (z a + i - 1) (by omega) (by omega) w
    have n47 := p3 (z a + i) (by omega) (by omega)
    by_cases e : P (z a + i) = 42
    · have inner : ∀ c j, j + c = y (b + 1) - 1 - y b → (gF P X m0 n (z a + i) (y b + j) ↔ (gl_ (fun i => P (z a + i) = 42) (fun i j => X (y b + j) = P (z a + i)) (y (b + 1) - 1 - y b) (d + 1) i j ∧ gF P X m0 n (z (a + 1)) (y (b + 1)))) := by
        intro c
        induction c with
        | zero =>
          intro j hj
          rw [gF_s (by omega) na e, show z a + i + 1 = z a + (i + 1) by omega, ih (i + 1) (by omega) j (by omega), gl_]
          have e47 : X (y b + j) = 47 := by
            rw [show y b + j = y (b + 1) - 1 by omega]
            exact x2
          constructor
          · rintro (q | q)
            · exact ⟨Or.inl ⟨e, j, Nat.le_refl j, by omega, q.1⟩, q.2⟩
            · exact absurd e47 q.2.1
          · rintro ⟨⟨-, c, q1, q2, q3⟩ | q, q4⟩
            · obtain rfl : c = j := by omega
              exact Or.inl ⟨q3, q4⟩
            · exact absurd e q.1
        | succ c ihc =>
          intro j hj
          rw [gF_s (by omega) na e, show z a + i + 1 = z a + (i + 1) by omega, ih (i + 1) (by omega) j (by omega), show y b + j + 1 = y b + (j + 1) by omega, ihc (j + 1) (by omega), gl_, gl_]
          have e47 : X (y b + j) ≠ 47 := x3 _ (by omega) (by omega)
          constructor
          · rintro (q | ⟨-, -, ⟨-, c, q1, q2, q3⟩ | q, q4⟩)
            · exact ⟨Or.inl ⟨e, j, Nat.le_refl j, by omega, q.1⟩, q.2⟩
            · exact ⟨Or.inl ⟨e, c, by omega, q2, q3⟩, q4⟩
            · exact absurd e q.1
          · rintro ⟨⟨-, c, q1, q2, q3⟩ | q, q4⟩
            · by_cases w : c = j
              · subst w
                exact Or.inl ⟨q3, q4⟩
              · exact Or.inr ⟨by omega, e47, Or.inl ⟨e, c, by omega, q2, q3⟩, q4⟩
            · exact absurd e q.1
      intro j hj
      exact inner (y (b + 1) - 1 - y b - j) j (by omega)
    · intro j hj
      rw [gF_c (by omega) na e, gl_]
      constructor
      · rintro ⟨q1, q2, q3⟩
        have w : j < y (b + 1) - 1 - y b := by
          by_cases w : j = y (b + 1) - 1 - y b
          · rw [show y b + j = y (b + 1) - 1 by omega, x2] at q2
            exact absurd q2.symm n47
          · omega
        rw [show z a + i + 1 = z a + (i + 1) by omega, show y b + j + 1 = y b + (j + 1) by omega, ih (i + 1) (by omega) (j + 1) (by omega)] at q3
        exact ⟨Or.inr ⟨e, w, q2, q3.1⟩, q3.2⟩
      · rintro ⟨q | ⟨-, q1, q2, q3⟩, q4⟩
        · exact absurd q.1 e
        · refine ⟨by omega, q2, ?_⟩
          rw [show z a + i + 1 = z a + (i + 1) by omega, show y b + j + 1 = y b + (j + 1) by omega, ih (i + 1) (by omega) (j + 1) (by omega)]
          exact ⟨q3, q4⟩
theorem gF_main (hP : W_ P (m0 + 1) K z) (hX : W_ X n B y) (hd : ∀ a, a < K → any_ P m0 (z a) → ds_ P z a) : gF P X m0 n 0 0 ↔ fw_ (ds_ P z) (pf_ P X z y) B K B := by
  have dd : ∀ a, a < K → ds_ P z a → any_ P m0 (z a) := by
    intro a ha q
    have hN := hP.mono (a := a + 1) (K - (a + 1)) (by omega)
    rw [show a + 1 + (K - (a + 1)) = K by omega, hP.2.1] at hN
    refine ⟨?_, by have := q.1; omega, q.2.1, q.2.2⟩
    cases a with
    | zero => exact Or.inl hP.1
    | succ a => exact Or.inr (hP.2.2 a (by omega)).2.1
  have key := gl_fw (st := ds_ P z) (ok := pf_ P X z y) (K := K) (B := B) (G := fun a b => gF P X m0 n (z a) (y b)) ?_ ?_ ?_
  · rw [← key]
    show _ ↔ gF P X m0 n (z 0) (y 0)
    rw [hP.1, hX.1]
  · intro b hb
    show gF P X m0 n (z K) (y b) ↔ _
    rw [hP.2.1, gF_e (by omega)]
    constructor
    · intro q
      by_cases w : b = B
      · exact w
      · have := hX.inj (a := b) (by omega)
        omega
    · intro q
      subst q
      exact hX.2.1
  · intro a ha hs
    have an := dd a ha hs
    have e3 := hs.1
    have le : z a ≤ m0 := by
      have := an.2.1
      omega
    have inner : ∀ d b, b + d = B → (gF P X m0 n (z a) (y b) ↔ ∃ c, b ≤ c ∧ c ≤ B ∧ gF P X m0 n (z (a + 1)) (y c)) := by
      intro d
      induction d with
      | zero =>
        intro b hb
        obtain rfl : b = B := by omega
        rw [gF_a le an, ← e3]
        constructor
        · rintro (q | ⟨t, q, -⟩)
          · exact ⟨b, Nat.le_refl b, Nat.le_refl b, q⟩
          · rw [hX.2.1] at q
            omega
        · rintro ⟨c, q1, q2, q3⟩
          obtain rfl : c = b := by omega
          exact Or.inl q3
      | succ d ih =>
        intro b hb
        obtain ⟨x1, x2, x3⟩ := hX.2.2 b (by omega)
        have hM := hX.mono (a := b + 1) (B - (b + 1)) (by omega)
        rw [show b + 1 + (B - (b + 1)) = B by omega, hX.2.1] at hM
        rw [gF_a le an, ← e3]
        have ih := ih (b + 1) (by omega)
        constructor
        · rintro (q | ⟨t, q1, q2, q3, q4⟩)
          · exact ⟨b, Nat.le_refl b, by omega, q⟩
          · have e : t + 1 = y (b + 1) := by
              by_cases w1 : t + 1 < y (b + 1)
              · exact absurd q2 (x3 t q1.1 w1)
              · by_cases w2 : y (b + 1) < t + 1
                · exact absurd x2 (q3 _ (by omega) (by omega))
                · omega
            rw [e, ih] at q4
            obtain ⟨c, q5, q6, q7⟩ := q4
            exact ⟨c, by omega, q6, q7⟩
        · rintro ⟨c, q1, q2, q3⟩
          by_cases w : c = b
          · subst w
            exact Or.inl q3
          · refine Or.inr ⟨y (b + 1) - 1, ⟨by omega, by omega⟩, x2, fun c h1 h2 => x3 c h1 (by omega), ?_⟩
            rw [show y (b + 1) - 1 + 1 = y (b + 1) by omega, ih]
            exact ⟨c, by omega, q2, q3⟩
    exact fun b hb => inner (B - b) b (by omega)
  · intro a ha hs b hb
    have an : ¬ any_ P m0 (z a) := fun q => hs (hd a ha q)
    obtain ⟨p1, -, -⟩ := hP.2.2 a ha
    show gF P X m0 n (z a) (y b) ↔ (b < B ∧ pf_ P X z y a b ∧ gF P X m0 n (z (a + 1)) (y (b + 1)))
    by_cases w : b = B
    · subst w
      rw [hX.2.1]
      exact ⟨fun q => absurd q (gF_no hP ha an (z (a + 1) - 1 - z a) (z a) (by omega) (Nat.le_refl _)), fun q => absurd q.1 (Nat.lt_irrefl b)⟩
    · have q := gF_part hP hX ha (show b < B by omega) an (z (a + 1) - 1 - z a) 0 (by omega) 0 (by omega)
      rw [Nat.add_zero, Nat.add_zero, gl_0] at q
      rw [q]
      exact ⟨fun v => ⟨by omega, v.1, v.2⟩, fun v => ⟨v.2.1, v.2.2⟩⟩
end MAIN
