/-! What is said of methods, links: all out of the tables. -/
/-- name, bytes, locals, answer, instructions -/
abbrev ax_P : Type := MethodName × ByteArray × Nat × Option FieldType × (Nat → Option (Instr × Nat))
def ax_tr (N : Nat) (t : Nat → Option (Instr × Nat)) (pc : Nat) : Option (Instr × Nat) := bif Nat.blt pc N then t pc else none
def ax_ch (b : ByteArray) (N : Nat) (t : Nat → Option (Instr × Nat)) : Bool := (List.range N).all (fun pc => match t pc with | none => true | some q => decide (decode b pc = .ok (q.1, q.2)))
theorem ax_dc {b : ByteArray} {N : Nat} {t : Nat → Option (Instr × Nat)} (h : ax_ch b N t = true) : ∀ (pc : Nat) (i : Instr) (n : Nat), ax_tr N t pc = some (i, n) → decode b pc = .ok (i, n) := by
  intro pc i n hq
  unfold ax_tr at hq
  cases hb : Nat.blt pc N with
  | false => rw [hb] at hq; cases hq
  | true =>
    rw [hb] at hq
    have hq : t pc = some (i, n) := hq
    have hl : pc < N := by simpa using hb
    have h1 := List.all_eq_true.mp h pc (List.mem_range.mpr hl)
    simp only [hq] at h1
    exact of_decide_eq_true h1
/-- a method's record is as the tables have it -/
def ax_ok (P : ax_P) : Prop := (∀ (pc : Nat) (i : Instr) (n : Nat), P.2.2.2.2 pc = some (i, n) → decode P.2.1 pc = .ok (i, n)) ∧ Cond.code P.1 P.2.1 P.2.2.1 P.2.2.2.1 ∈ ax_tbl ∧ plainName P.1.cls = true ∧ Cond.initialized P.1.cls ∈ ax_tbl ∧ (P.1.cls ≠ "java/lang/invoke/MethodHandle" ∧ P.1.cls ≠ "java/lang/invoke/VarHandle") ∧ P.2.2.1 ≤ 11
/-- entry idx of class own is field k of class ci -/
def ax_FL (own : String) (idx ci k : Nat) : Prop := ∃ q : vw_C, ax_cl[ci]? = some q ∧ k < q.2.2 ∧ Cond.fieldLink own idx (q.2.1 k).1 (q.2.1 k).2.1 (q.2.1 k).2.2.1 ∈ ax_tbl
/-- and may be written with values of type ty; fin: in constructors of own alone -/
def ax_FP (own : String) (idx ci k : Nat) (fin : Bool) (ty : FieldType) : Prop := ∃ q : vw_C, ax_cl[ci]? = some q ∧ k < q.2.2 ∧ Cond.fieldLink own idx (q.2.1 k).1 (q.2.1 k).2.1 (q.2.1 k).2.2.1 ∈ ax_tbl ∧ (q.2.1 k).2.2.2 = fin ∧ parseFieldDescriptor (q.2.1 k).2.2.1 = some ty ∧ (fin = true → (q.2.1 k).1 = own)
def ax_isN : Cond → Bool
  | .methodLinkNest _ _ _ _ => true
  | _ => false
def ax_nst : List Cond := lw_tbl.filter ax_isN
def ax_pn (P : ax_P) (n : Nat) : Prop := (parseMethodDescriptor P.1.desc).map (fun d => d.parameters.length) = some n
def ax_MV (own : String) (idx : Nat) (P : ax_P) (n : Nat) : Prop := ax_ok P ∧ ax_pn P n ∧ Cond.methodLink own idx P.1 ∈ ax_tbl ∧ Cond.instanceMethod P.1 ∈ ax_tbl ∧ Cond.selects P.1.cls P.1 P.1 ∈ ax_tbl
def ax_MS (own : String) (idx : Nat) (P : ax_P) (n : Nat) : Prop := ax_ok P ∧ ax_pn P n ∧ Cond.methodLink own idx P.1 ∈ ax_tbl ∧ Cond.static P.1 ∈ ax_tbl
def ax_MI (own : String) (idx : Nat) (P : ax_P) (n : Nat) : Prop := ax_ok P ∧ ax_pn P n ∧ Cond.methodLink own idx P.1 ∈ ax_tbl ∧ Cond.instanceMethod P.1 ∈ ax_tbl ∧ P.1.name = "<init>" ∧ P.2.2.2.1 = none
def ax_MSN (own : String) (idx : Nat) (P : ax_P) (n : Nat) : Prop := ax_ok P ∧ ax_pn P n ∧ Cond.methodLinkNest own idx P.1 "AlarmGroups" ∈ ax_nst ∧ Cond.static P.1 ∈ ax_tbl
def ax_MIN (own : String) (idx : Nat) (P : ax_P) (n : Nat) : Prop := ax_ok P ∧ ax_pn P n ∧ Cond.methodLinkNest own idx P.1 "AlarmGroups" ∈ ax_nst ∧ Cond.instanceMethod P.1 ∈ ax_tbl ∧ P.1.name = "<init>" ∧ P.2.2.2.1 = none
