/-! The abstract machine: cells by their numbers from the base on; a world is a function of numbers; references are numbers. -/
abbrev ax_E : Type := (Nat × vp_A) ⊕ (Nat × List Value)
abbrev ax_M : Type := Nat × (Nat → Option ax_E)
/-- launch, base, slots, array classes, outside addresses (texts, their bytes), the script -/
abbrev ax_Y : Type := Launch × Nat × va_G × (Nat → ClassId) × (Nat → Nat) × (Nat → Nat) × Nat × (Nat → Int32)
def ax_v (g : ax_Y) : Value → Value
  | .ref k => .ref (g.2.1 + k)
  | .retAddr k => .ref (g.2.2.2.2.1 k)
  | v => v
def ax_q (g : ax_Y) (q : Option Nat) : Option Nat := q.map (fun k => g.2.1 + k)
def ax_a (g : ax_Y) (a : vp_A) : vp_A := (a.1, match a.2 with
  | .inr (.inr (.inr (.inr q))) => .inr (.inr (.inr (.inr (fun i => ax_q g (q i)))))
  | x => x)
def ax_e (g : ax_Y) : ax_E → va_E
  | .inl a => .inl (g.2.2.2.1 a.1, ax_a g a.2)
  | .inr o => .inr (o.1, o.2.map (ax_v g))
def ax_ws (g : ax_Y) (M : ax_M) : va_W := (List.range M.1).map (fun k => (g.2.1 + k, ax_e g ((M.2 k).getD (.inr (0, [])))))
def ax_put (M : ax_M) (a : Nat) (e : ax_E) : ax_M := (M.1, va_up M.2 a (some e))
def ax_new (M : ax_M) (e : ax_E) : ax_M := (M.1 + 1, va_up M.2 M.1 (some e))
def ax_A (g : ax_Y) : Nat → Prop := fun q => g.2.1 ≤ q
def ax_R (g : ax_Y) (M : ax_M) (H : Heap) : Prop := H.size = g.2.1 + M.1 ∧ (∀ k : Nat, k < M.1 ↔ ∃ e, M.2 k = some e) ∧ va_P g.2.2.1 ax_cl (ax_ws g M) H
theorem ax_R.lt {g : ax_Y} {M : ax_M} {H : Heap} (h : ax_R g M H) {a : Nat} {e : ax_E} (ha : M.2 a = some e) : a < M.1 := (h.2.1 a).mpr ⟨e, ha⟩
theorem ax_R.at {g : ax_Y} {M : ax_M} {H : Heap} (h : ax_R g M H) {a : Nat} {e : ax_E} (ha : M.2 a = some e) : (ax_ws g M)[a]? = some (g.2.1 + a, ax_e g e) := by
  have hl := h.lt ha
  unfold ax_ws
  rw [List.getElem?_map, List.getElem?_range hl]
  simp [ha]
theorem ax_D (g : ax_Y) (M : ax_M) : va_D (ax_A g) (ax_ws g M) := by
  have key : ∀ (k : Nat) (q : Nat × va_E), (ax_ws g M)[k]? = some q → q.1 = g.2.1 + k := by
    intro k q h
    unfold ax_ws at h
    rw [List.getElem?_map] at h
    cases hk : (List.range M.1)[k]? with
    | none => rw [hk] at h; cases h
    | some j =>
      rw [hk] at h
      have hj : j = k := by
        obtain ⟨hl, he⟩ := List.getElem?_eq_some_iff.mp hk
        simpa using he.symm
      subst hj
      simp at h
      rw [← h]
  refine ⟨fun i j p q h1 h2 h3 => ?_, fun k q h => ?_⟩
  · have a1 := key i p h1
    have a2 := key j q h2
    omega
  · have a1 := key k q h
    show g.2.1 ≤ q.1
    omega
theorem ax_R.has {g : ax_Y} {M : ax_M} {H : Heap} (h : ax_R g M H) {a : Nat} {e : ax_E} (ha : M.2 a = some e) : va_at g.2.2.1 ax_cl (g.2.1 + a, ax_e g e) H := h.2.2 a _ (h.at ha)
/-- one cell is changed -/
theorem ax_R.put {g : ax_Y} {M : ax_M} {H H1 : Heap} (h : ax_R g M H) {a : Nat} {e0 e : ax_E} (ha : M.2 a = some e0) (he : va_at g.2.2.1 ax_cl (g.2.1 + a, ax_e g e) H1) (hz : H1.size = H.size) (oq : ∀ q : Nat, q ≠ g.2.1 + a → H1[q]? = H[q]?) : ax_R g (ax_put M a e) H1 := by
  have hl := h.lt ha
  refine ⟨by rw [hz]; exact h.1, fun k => ?_, fun k q hk => ?_⟩
  · show k < M.1 ↔ _
    by_cases hka : k = a
    · subst hka
      exact ⟨fun _ => ⟨e, by simp [ax_put, va_up]⟩, fun _ => hl⟩
    · rw [h.2.1 k]
      simp [ax_put, va_up, hka]
  · unfold ax_ws at hk
    rw [List.getElem?_map] at hk
    cases hr : (List.range (ax_put M a e).1)[k]? with
    | none => rw [hr] at hk; cases hk
    | some j =>
      rw [hr] at hk
      obtain ⟨hl1, he1⟩ := List.getElem?_eq_some_iff.mp hr
      have hj : j = k := by simpa using he1.symm
      subst hj
      have hlk : j < M.1 := by simpa [ax_put] using hl1
      by_cases hka : j = a
      · subst hka
        simp [ax_put, va_up] at hk
        rw [← hk]
        exact he
      · obtain ⟨e1, h1⟩ := (h.2.1 j).mp hlk
        simp [ax_put, va_up, hka, h1] at hk
        rw [← hk]
        exact (h.has h1).kept (oq _ (by show g.2.1 + j ≠ g.2.1 + a; omega))
/-- one cell is new -/
theorem ax_R.push {g : ax_Y} {M : ax_M} {H H1 : Heap} (h : ax_R g M H) {e : ax_E} (he : va_at g.2.2.1 ax_cl (g.2.1 + M.1, ax_e g e) H1) (hz : H1.size = H.size + 1) (oq : ∀ q : Nat, q < H.size → H1[q]? = H[q]?) : ax_R g (ax_new M e) H1 := by
  refine ⟨by rw [hz, h.1]; rfl, fun k => ?_, fun k q hk => ?_⟩
  · show k < M.1 + 1 ↔ _
    by_cases hka : k = M.1
    · subst hka
      exact ⟨fun _ => ⟨e, by simp [ax_new, va_up]⟩, fun _ => Nat.lt_succ_self _⟩
    · have h2 := h.2.1 k
      simp [ax_new, va_up, hka]
      rw [← h2]
      omega
  · unfold ax_ws at hk
    rw [List.getElem?_map] at hk
    cases hr : (List.range (ax_new M e).1)[k]? with
    | none => rw [hr] at hk; cases hk
    | some j =>
      rw [hr] at hk
      obtain ⟨hl1, he1⟩ := List.getElem?_eq_some_iff.mp hr
      have hj : j = k := by simpa using he1.symm
      subst hj
      have hlk : j < M.1 + 1 := by simpa [ax_new] using hl1
      by_cases hka : j = M.1
      · subst hka
        simp [ax_new, va_up] at hk
        rw [← hk]
        exact he
      · obtain ⟨e1, h1⟩ := (h.2.1 j).mp (by omega)
        simp [ax_new, va_up, hka, h1] at hk
        rw [← hk]
        exact (h.has h1).kept (oq _ (by show g.2.1 + j < H.size; rw [h.1]; omega))
/-- locals: a dense list; .float 0 says nothing -/
def ax_L (g : ax_Y) (lv : List Value) (ls : Array Slot) : Prop := ls.size = lv.length ∧ lv_wf ls ∧ ∀ (i : Nat) (v : Value), lv[i]? = some v → v ≠ .float 0 → ls[i]? = some (.val (ax_v g v))
def ax_pr (g : ax_Y) (lv : List Value) : List (Nat × Value) := (List.range lv.length).filterMap (fun i => (lv[i]?).bind (fun v => if v = .float 0 then none else some (i, ax_v g v)))
theorem ax_pr_in {g : ax_Y} {lv : List Value} {q : Nat × Value} : q ∈ ax_pr g lv ↔ ∃ v, lv[q.1]? = some v ∧ v ≠ .float 0 ∧ q.2 = ax_v g v := by
  unfold ax_pr
  rw [List.mem_filterMap]
  constructor
  · rintro ⟨i, hi, h⟩
    cases hv : lv[i]? with
    | none => rw [hv] at h; cases h
    | some v =>
      rw [hv] at h
      simp only [Option.bind_some] at h
      by_cases hf : v = .float 0
      · rw [if_pos hf] at h; cases h
      · rw [if_neg hf] at h
        cases h
        exact ⟨v, hv, hf, rfl⟩
  · rintro ⟨v, h1, h2, h3⟩
    refine ⟨q.1, List.mem_range.mpr (List.getElem?_eq_some_iff.mp h1).1, ?_⟩
    rw [h1]
    simp only [Option.bind_some]
    rw [if_neg h2, ← h3]
theorem ax_L.has {g : ax_Y} {lv : List Value} {ls : Array Slot} (h : ax_L g lv ls) : lv_has ls lv.length (ax_pr g lv) := ⟨h.1, h.2.1, fun q hq => by
  obtain ⟨v, h1, h2, h3⟩ := ax_pr_in.mp hq
  rw [h3]
  exact h.2.2 q.1 v h1 h2⟩
/-- the place ahead holds no value of two slots -/
def ax_c1 (lv : List Value) : Nat → Bool
  | 0 => true
  | k + 1 => match lv[k]? with
    | some v => decide (v.category = 1)
    | none => true
theorem ax_cat (g : ax_Y) (v : Value) : (ax_v g v).category = v.category := by cases v <;> rfl
theorem ax_L.store1 {g : ax_Y} {lv : List Value} {ls ls' : Array Slot} {i : Nat} {v : Value} (h : ax_L g lv ls) (hc : ax_c1 lv i = true)
    (hn : lv_has ls' lv.length ((i, ax_v g v) :: (ax_pr g lv).filter (fun q => !(q.1 == i) && !(q.1 + 1 == i && q.2.category == 2)))) : ax_L g (lv.set i v) ls' := by
  refine ⟨by rw [List.length_set]; exact hn.1, hn.2.1, fun j w hj hw => ?_⟩
  by_cases hji : j = i
  · subst hji
    have hl : j < lv.length := by
      have := (List.getElem?_eq_some_iff.mp hj).1
      simpa using this
    rw [List.getElem?_set_self hl] at hj
    cases hj
    exact hn.2.2 _ List.mem_cons_self
  · rw [List.getElem?_set_ne (Ne.symm hji)] at hj
    refine hn.2.2 (j, ax_v g w) (List.mem_cons_of_mem _ (List.mem_filter.mpr ⟨ax_pr_in.mpr ⟨w, hj, hw, rfl⟩, ?_⟩))
    by_cases h1 : j + 1 = i
    · subst h1
      simp only [ax_c1, hj] at hc
      simp [ax_cat, of_decide_eq_true hc]
    · simp [hji, h1]
theorem ax_L.store2 {g : ax_Y} {lv : List Value} {ls ls' : Array Slot} {i : Nat} {v : Value} (h : ax_L g lv ls) (hc : ax_c1 lv i = true)
    (hn : lv_has ls' lv.length ((i, ax_v g v) :: (ax_pr g lv).filter (fun q => !(q.1 == i) && (!(q.1 == i + 1) && !(q.1 + 1 == i && q.2.category == 2))))) : ax_L g ((lv.set i v).set (i + 1) (.float 0)) ls' := by
  refine ⟨by rw [List.length_set, List.length_set]; exact hn.1, hn.2.1, fun j w hj hw => ?_⟩
  by_cases hj1 : j = i + 1
  · subst hj1
    have hl : i + 1 < (lv.set i v).length := by
      have := (List.getElem?_eq_some_iff.mp hj).1
      simpa using this
    rw [List.getElem?_set_self hl] at hj
    cases hj
    exact absurd rfl hw
  · rw [List.getElem?_set_ne (Ne.symm hj1)] at hj
    by_cases hji : j = i
    · subst hji
      have hl : j < lv.length := by
        have := (List.getElem?_eq_some_iff.mp hj).1
        simpa using this
      rw [List.getElem?_set_self hl] at hj
      cases hj
      exact hn.2.2 _ List.mem_cons_self
    · rw [List.getElem?_set_ne (Ne.symm hji)] at hj
      refine hn.2.2 (j, ax_v g w) (List.mem_cons_of_mem _ (List.mem_filter.mpr ⟨ax_pr_in.mpr ⟨w, hj, hw, rfl⟩, ?_⟩))
      by_cases h1 : j + 1 = i
      · subst h1
        simp only [ax_c1, hj] at hc
        simp [ax_cat, of_decide_eq_true hc]
        omega
      · simp [hji, h1, hj1]
