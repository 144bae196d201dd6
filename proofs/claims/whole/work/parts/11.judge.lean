/-! What holds of the tables and of what lies outside; the judgement. -/
def ax_tys (g : ax_Y) : List (ClassId × FieldType) := [(g.2.2.2.1 0, .int), (g.2.2.2.1 1, .byte), (g.2.2.2.1 2, .boolean), (g.2.2.2.1 3, .long), (g.2.2.2.1 4, .object "AlarmGroups$Parts"), (g.2.2.2.1 5, .object "AlarmGroups$Silence")]
/-- the texts: class, entry, text, bytes -/
def ax_str : List (String × Nat × String) := [("AlarmGroups$Silences", 77, "silence"), ("AlarmGroups$Silences", 101, "all"), ("AlarmGroups$Silences", 106, "file"), ("AlarmGroups$Silences", 113, "line"), ("AlarmGroups$Silences", 118, "lines"), ("AlarmGroups$Silences", 122, "to"), ("AlarmGroups$Silences", 124, "kind"), ("AlarmGroups$Silences", 125, "until"), ("AlarmGroups$Silences", 132, "because"), ("AlarmGroups$Lists", 51, "@ /;")]
def ax_sby : List (List Int32) := [[115, 105, 108, 101, 110, 99, 101], [97, 108, 108], [102, 105, 108, 101], [108, 105, 110, 101], [108, 105, 110, 101, 115], [116, 111], [107, 105, 110, 100], [117, 110, 116, 105, 108], [98, 101, 99, 97, 117, 115, 101], [64, 32, 47, 59]]
def ax_sln : List Nat := [7, 3, 4, 4, 5, 2, 4, 5, 7, 4]
def ax_K (g : ax_Y) (U : State) : Prop := va_K g.2.2.1 ax_cl (ax_tys g) U ∧ (∀ w ∈ ax_nst, va_Nw w U) ∧ (∀ (i : Nat) (q : String × Nat × String), ax_str[i]? = some q → vk_R q.1 q.2.1 q.2.2 (g.2.2.2.2.1 i) U) ∧ va_AO "AlarmGroups$Parts" U ∧ va_AO "AlarmGroups$Silence" U
def ax_X (g : ax_Y) (U : State) (H : Heap) : Prop := (vk_S 10 ax_sln ax_sby g.2.2.2.2.1 g.2.2.2.2.2.1 (ax_A g) U H ∧ (va_Z "jdk/internal/util/Preconditions" "SIOOBE_FORMATTER" "Ljava/util/function/BiFunction;" .null (ax_A g) U H ∨ va_Z "jdk/internal/util/Preconditions" "SIOOBE_FORMATTER" "Ljava/util/function/BiFunction;" (.ref (g.2.2.2.2.1 11)) (ax_A g) U H) ∧ ∀ i, i < 10 → g.2.2.2.2.1 (12 + i) = g.2.2.2.2.2.1 i) ∧ va_Z "java/lang/String" "COMPACT_STRINGS" "Z" (.int 1) (ax_A g) U H ∧ va_X (g.2.2.2.2.1 10) g.2.2.2.2.2.2.1 g.2.2.2.2.2.2.2 U H ∧ g.2.2.2.2.1 10 < g.2.1
theorem ax_K.warm {g : ax_Y} {s U : State} (hW : s.WarmedH U.vm) (h : ax_K g s) : ax_K g U := by
  refine ⟨va_K.moved hW.alike h.1, fun w hw => ?_, fun i q hq => (h.2.2.1 i q hq).warm hW, h.2.2.2.1.moved hW.alike, h.2.2.2.2.moved hW.alike⟩
  have h1 := h.2.1 w hw
  have h2 := (List.mem_filter.mp hw).2
  cases w <;> first | exact va_Nw.warmM hW h1 | (simp [ax_isN] at h2)
theorem ax_K.same {g : ax_Y} {u U : State} (hv : u.vm = U.vm) (h : ax_K g u) : ax_K g U := by
  refine ⟨va_K.moved (by rw [hv]; exact Vm.Alike.refl _) h.1, fun w hw => ?_, fun i q hq => (h.2.2.1 i q hq).same hv.symm, h.2.2.2.1.moved (by rw [hv]; exact Vm.Alike.refl _), h.2.2.2.2.moved (by rw [hv]; exact Vm.Alike.refl _)⟩
  have h1 := h.2.1 w hw
  have h2 := (List.mem_filter.mp hw).2
  cases w <;> first | exact va_Nw.same rfl hv h1 | (simp [ax_isN] at h2)
theorem ax_X.moved {g : ax_Y} {u U : State} {H : Heap} (hvm : u.vm.Alike U.vm) (h : ax_X g u H) : ax_X g U H := ⟨⟨vk_S.moved hvm h.1.1, h.1.2.1.imp (fun q => q.moved hvm) (fun q => q.moved hvm), h.1.2.2⟩, h.2.1.moved hvm, h.2.2.1.moved hvm, h.2.2.2⟩
theorem ax_X.kept {g : ax_Y} {U : State} {H H1 : Heap} (h : ax_X g U H) (hq : ∀ a : Nat, a < H.size → ¬ ax_A g a → H1[a]? = H[a]?) : ax_X g U H1 := by
  refine ⟨⟨h.1.1.kept hq, h.1.2.1.imp (fun q => q.kept hq) (fun q => q.kept hq), h.1.2.2⟩, h.2.1.kept hq, h.2.2.1.kept (hq _ ?_ ?_), h.2.2.2⟩
  · obtain ⟨scr, h1, -⟩ := h.2.2.1
    exact (Array.getElem?_eq_some_iff.mp h1).1
  · exact Nat.not_le.mpr h.2.2.2
/-- what a method knows of its own frame -/
def ax_C (g : ax_Y) (P : ax_P) (p : Program) (s : State) (m : MethodId) (args : Array Value) (meth : Method) (c : Code) : Prop :=
  p.tables.exec = Jvm.exec ∧ c.code = P.2.1 ∧ meth.sig.returnType = P.2.2.2.1 ∧ c.maxLocals = P.2.2.1 ∧ s.vm.findClass P.1.cls = some m.cls ∧ (∀ w ∈ ax_tbl, w.before args s = true) ∧ meth.locks = false ∧ (P.1.name = "<init>" → meth.name = "<init>") ∧
  (∀ (pc : Nat) (i : Instr) (n : Nat), P.2.2.2.2 pc = some (i, n) → decode P.2.1 pc = .ok (i, n)) ∧ ax_K g s ∧ ax_X g s s.heap ∧ g.2.1 ≤ s.heap.size
/-- the answer's instruction -/
def ax_rt (P : ax_P) (pc : Nat) (v : Option Value) : Prop := (v = none ∧ P.2.2.2.1 = none ∧ decode P.2.1 pc = .ok (.return_, 1)) ∨ (∃ x : Int32, v = some (.int x) ∧ (∃ ty, P.2.2.2.1 = some ty ∧ narrow ty (.int x) = .int x) ∧ decode P.2.1 pc = .ok (.ireturn, 1)) ∨ (∃ x : Int64, v = some (.long x) ∧ P.2.2.2.1 = some .long ∧ decode P.2.1 pc = .ok (.lreturn, 1))
def ax_rs (v : Option Value) (st : List Value) : List Value := match v with
  | none => st
  | some x => x :: st
/-- from the frame (pc, lv, st) of P over the world M the machine comes to P's end with an answer v and a world M' such that Q v M' -/
def ax_G (g : ax_Y) (P : ax_P) (h mc ms pc : Nat) (lv st : List Value) (M : ax_M) (Q : Option Value → ax_M → Prop) : Prop :=
  ∀ (p : Program) (e : Env) (R : Room) (s : State) (m : MethodId) (args : Array Value) (below : List Frame) (meth : Method) (c : Code) (H : Heap) (locs : List Loc) (cells slots : Nat) (ls : Array Slot) (QQ : State → Prop),
    ax_C g P p s m args meth c → h ≤ R.frames ∧ 30 * h ≤ R.locals → cells + mc ≤ R.cells ∧ slots + ms ≤ R.slots → ax_L g lv ls ∧ lv.length = P.2.2.1 → ax_R g M H → va_S (ax_A g) s.heap H locs →
    (∀ (v : Option Value) (M' : ax_M) (H' : Heap) (locs' : List Loc) (cells' slots' pc' : Nat) (ls' : Array Slot), Q v M' → ax_R g M' H' → va_S (ax_A g) s.heap H' locs' → cells' ≤ cells + mc ∧ slots' ≤ slots + ms → ax_rt P pc' v → W p g.1 e R s m args below meth c H' locs' cells' slots' QQ (F0 m pc' ls' ((ax_rs v []).map (ax_v g)))) →
    W p g.1 e R s m args below meth c H locs cells slots QQ (F0 m pc ls (st.map (ax_v g)))
theorem ax_G.mono {g : ax_Y} {P : ax_P} {h mc ms pc : Nat} {lv st : List Value} {M : ax_M} {Q Q' : Option Value → ax_M → Prop} (k : ax_G g P h mc ms pc lv st M Q) (hq : ∀ v M', Q v M' → Q' v M') : ax_G g P h mc ms pc lv st M Q' :=
  fun p e R s m args below meth c H locs cells slots ls QQ C hh hr hL hR hS hK => k p e R s m args below meth c H locs cells slots ls QQ C hh hr hL hR hS (fun v M' H' locs' cells' slots' pc' ls' q => hK v M' H' locs' cells' slots' pc' ls' (hq v M' q))
/-- the locals at a method's entry -/
def ax_ls (vs : List Value) : List Value := vs.flatMap (fun v => if v.category = 2 then [v, .float 0] else [v])
def ax_en (n : Nat) (vs : List Value) : List Value := ax_ls vs ++ List.replicate (n - (ax_ls vs).length) (.float 0)
theorem ax_ls_sl (g : ax_Y) (vs : List Value) : ∀ (i : Nat) (v : Value), (ax_ls vs)[i]? = some v → v ≠ .float 0 → (lg_sl (vs.map (ax_v g)))[i]? = some (.val (ax_v g v)) := by
  induction vs with
  | nil => intro i v h; simp [ax_ls] at h
  | cons a vs ih =>
    intro i v h hv
    have e1 : ax_ls (a :: vs) = (if a.category = 2 then [a, .float 0] else [a]) ++ ax_ls vs := rfl
    have e2 : lg_sl ((a :: vs).map (ax_v g)) = (if (ax_v g a).category = 2 then [.val (ax_v g a), .second] else [.val (ax_v g a)]) ++ lg_sl (vs.map (ax_v g)) := rfl
    rw [e1] at h
    rw [e2, ax_cat]
    by_cases hc : a.category = 2
    · rw [if_pos hc] at h ⊢
      match i, h with
      | 0, h => simp at h; subst h; rfl
      | 1, h => simp at h; exact absurd h.symm hv
      | j + 2, h => exact ih j v h hv
    · rw [if_neg hc] at h ⊢
      match i, h with
      | 0, h => simp at h; subst h; rfl
      | j + 1, h => exact ih j v h hv
theorem ax_ls_len (g : ax_Y) (vs : List Value) : (lg_sl (vs.map (ax_v g))).length = (ax_ls vs).length := by
  induction vs with
  | nil => rfl
  | cons a vs ih =>
    have e1 : ax_ls (a :: vs) = (if a.category = 2 then [a, .float 0] else [a]) ++ ax_ls vs := rfl
    have e2 : lg_sl ((a :: vs).map (ax_v g)) = (if (ax_v g a).category = 2 then [.val (ax_v g a), .second] else [.val (ax_v g a)]) ++ lg_sl (vs.map (ax_v g)) := rfl
    rw [e1, e2, ax_cat, List.length_append, List.length_append, ih]
    by_cases hc : a.category = 2 <;> simp [hc]
theorem ax_entry (g : ax_Y) (vs : List Value) {n : Nat} (hn : (ax_ls vs).length ≤ n) : ax_L g (ax_en n vs) ((lg_sl (vs.map (ax_v g)) ++ List.replicate (n - (lg_sl (vs.map (ax_v g))).length) Slot.unset).toArray) := by
  have hh := lv_entry (vs.map (ax_v g)) (n := n) (by rw [ax_ls_len]; exact hn)
  have hlen : (ax_en n vs).length = n := by simp [ax_en]; omega
  refine ⟨by rw [hlen]; exact hh.1, hh.2.1, fun i v h hv => ?_⟩
  rw [List.getElem?_toArray]
  unfold ax_en at h
  by_cases hi : i < (ax_ls vs).length
  · rw [List.getElem?_append_left hi] at h
    rw [List.getElem?_append_left (by rw [ax_ls_len]; exact hi)]
    exact ax_ls_sl g vs i v h hv
  · rw [List.getElem?_append_right (by omega)] at h
    have := List.getElem?_replicate (n := n - (ax_ls vs).length) (a := Value.float 0) (i := i - (ax_ls vs).length)
    rw [this] at h
    split at h
    · cases h; exact absurd rfl hv
    · cases h
abbrev ax_w (P : ax_P) : List Cond := Cond.code P.1 P.2.1 P.2.2.1 P.2.2.2.1 :: ax_tbl
abbrev ax_rm (h mc ms : Nat) : Room := { frames := h, cells := mc, slots := ms, locals := 30 * h }
def ax_Pc (g : ax_Y) (vs : List Value) (M : ax_M) : Array Value → State → Prop := va_Pc (vs.map (ax_v g)) (fun U => ax_R g M U.heap ∧ ax_K g U ∧ ax_X g U U.heap)
def ax_Qc (g : ax_Y) (Q : Option Value → ax_M → Prop) : Array Value → State → Outcome → State → Prop := fun _ st oc t => ∃ (v : Option Value) (M' : ax_M), oc = .returned (v.map (ax_v g)) ∧ Q v M' ∧ ax_R g M' t.heap ∧ va_F (ax_A g) st t
theorem ax_met {g : ax_Y} {P : ax_P} {h mc ms : Nat} {vs : List Value} {M : ax_M} {Q : Option Value → ax_M → Prop} (ok : ax_ok P) (hn : (ax_ls vs).length ≤ P.2.2.1)
    (k : ax_G g P h mc ms 0 (ax_en P.2.2.1 vs) [] M Q) : Met g.1 P.1 (ax_w P) (ax_rm h mc ms) (ax_Pc g vs M) (ax_Qc g Q) mc ms (ax_A g) := by
  refine Met.ofW (cc := P.2.1) (maxL := P.2.2.1) (ret := P.2.2.2.1) ok.2.2.1 rfl ?_
  intro p e s m args below meth c s₁ B hml hv
  obtain ⟨rfl, hR, hK, hX⟩ := hv
  have hts := atoms_spec (ws := ax_w P) B.pre
  have hlk := B.notSynchronized
  rw [lg_entry_eq]
  have hC : ax_C g P p s m (vs.map (ax_v g)).toArray meth c := ⟨B.exec, B.bytes, B.returns, hml, findClass_of_methodNamed B.named, fun w hw => hts w (List.mem_cons_of_mem _ hw), hlk, fun z => (name_of_methodNamed B.named B.method).1.trans z, ok.1, hK, hX, by rw [hR.1]; exact Nat.le_add_right _ _⟩
  refine k p e _ s m _ below meth c s.heap [] 0 0 _ _ hC ⟨Nat.le_refl _, Nat.le_refl _⟩ ⟨by rw [Nat.zero_add]; exact Nat.le_refl _, by rw [Nat.zero_add]; exact Nat.le_refl _⟩ ⟨ax_entry g vs hn, by simp [ax_en]; omega⟩ hR va_S.rf ?_
  intro v M' H' locs' cells' slots' pc' ls' hq hR' hS' hcs hrt
  rw [Nat.zero_add, Nat.zero_add] at hcs
  refine W.widen hcs.1 hcs.2 ?_
  rcases hrt with ⟨rfl, h1, h2⟩ | ⟨x, rfl, ⟨ty, h1, h3⟩, h2⟩ | ⟨x, rfl, h1, h2⟩
  · exact W.vret B.exec B.bytes (B.returns.trans h1) (fun t ht hW => ⟨none, M', rfl, hq, by rw [ht]; exact hR', hS'.F ht⟩) hS'.2.2 h2
  · exact W.zret B.exec B.bytes (B.returns.trans h1) h3 (fun t ht hW => ⟨some (.int x), M', rfl, hq, by rw [ht]; exact hR', hS'.F ht⟩) hS'.2.2 h2
  · exact W.lret B.exec B.bytes (B.returns.trans h1) (fun t ht hW => ⟨some (.long x), M', rfl, hq, by rw [ht]; exact hR', hS'.F ht⟩) hS'.2.2 h2
