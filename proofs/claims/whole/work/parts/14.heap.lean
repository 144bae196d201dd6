/-! Rows of the heap: array stores, makings. -/
section AXI
variable {g : ax_Y} {P : ax_P} {h mc ms pc : Nat} {lv st : List Value} {M : ax_M} {Q : Option Value → ax_M → Prop}
theorem s_iastore {a n : Nat} {f : Nat → Int32} {x i : Int32} (j : Nat) (pc2 : Nat) (hi : P.2.2.2.2 pc = some (.iastore, 1)) (hp : pc + 1 = pc2) (hM : M.2 a = some (.inl (0, n, .inl f))) (hx : i = nI j) (hj : j < n) (hn : n < 2147483648) (kk : ax_G g P h mc ms pc2 lv st (ax_put M a (.inl (0, n, .inl (upd f j x)))) Q) : ax_G g P h mc ms pc lv (.int x :: .int i :: .ref a :: st) M Q := by
  subst hp
  intro p e R s m args below meth c H locs cells slots ls QQ C hh hr hL hR hS hK
  obtain ⟨v1, v2⟩ := ax_in_nI hx hj hn
  have hP0 := hR.2.2 a _ (hR.at hM)
  have hK0 := C.2.2.2.2.2.2.2.2.2.1.1
  refine W.iast C.1 C.2.1 hP0 ((hK0.2 0 _ rfl).1 n (fun j => .int (f j))) (fun q => by cases q) (by show ¬ (i < 0 ∨ (arrV _ _ _).slots.size ≤ _); rw [arrV_size]; exact v1) rfl rfl (C.2.2.2.2.2.2.2.2.1 _ _ _ hi) fun H1 e1 z oq => ?_
  refine kk p e R s m args below meth c H1 _ cells slots ls QQ C hh hr hL (hR.put hM ?_ z oq) (ax_S.put hS z oq) hK
  show H1[g.2.1 + a]? = some (vp_cell _ _)
  rw [e1]
  show some ((vp_cell (g.2.2.2.1 0) (n, .inl f)).setSlot _ _) = some (vp_cell (g.2.2.2.1 0) (n, .inl (upd f j x)))
  rw [vp_cell_i, vp_cell_i, arrV_store, v2]
  congr 2
  funext q
  by_cases hq : q = j
  · subst hq; simp [updV, upd]
  · simp [updV, upd, hq]
theorem s_bastore {a n : Nat} {f : Nat → Int32} {x i : Int32} (j : Nat) (pc2 : Nat) (hi : P.2.2.2.2 pc = some (.bastore, 1)) (hp : pc + 1 = pc2) (hM : M.2 a = some (.inl (1, n, .inl f))) (hx : i = nI j) (hj : j < n) (hn : n < 2147483648) (kk : ax_G g P h mc ms pc2 lv st (ax_put M a (.inl (1, n, .inl (upd f j x.toInt8.toInt32)))) Q) : ax_G g P h mc ms pc lv (.int x :: .int i :: .ref a :: st) M Q := by
  subst hp
  intro p e R s m args below meth c H locs cells slots ls QQ C hh hr hL hR hS hK
  obtain ⟨v1, v2⟩ := ax_in_nI hx hj hn
  have hP0 := hR.2.2 a _ (hR.at hM)
  have hK0 := C.2.2.2.2.2.2.2.2.2.1.1
  refine W.bast C.1 C.2.1 hP0 ((hK0.2 1 _ rfl).1 n (fun j => .int (f j))) (fun q => by cases q) (by show ¬ (i < 0 ∨ (arrV _ _ _).slots.size ≤ _); rw [arrV_size]; exact v1) rfl rfl (C.2.2.2.2.2.2.2.2.1 _ _ _ hi) fun H1 e1 z oq => ?_
  refine kk p e R s m args below meth c H1 _ cells slots ls QQ C hh hr hL (hR.put hM ?_ z oq) (ax_S.put hS z oq) hK
  show H1[g.2.1 + a]? = some (vp_cell _ _)
  rw [e1]
  show some ((vp_cell (g.2.2.2.1 1) (n, .inl f)).setSlot _ _) = some (vp_cell (g.2.2.2.1 1) (n, .inl (upd f j x.toInt8.toInt32)))
  rw [vp_cell_i, vp_cell_i, arrV_store, v2]
  congr 2
  funext q
  by_cases hq : q = j
  · subst hq
    simp [updV, upd]
    try rfl
  · simp [updV, upd, hq]
theorem s_zastore {a n : Nat} {f : Nat → Int32} {x i : Int32} (j : Nat) (pc2 : Nat) (hi : P.2.2.2.2 pc = some (.bastore, 1)) (hp : pc + 1 = pc2) (hM : M.2 a = some (.inl (2, n, .inl f))) (hx : i = nI j) (hj : j < n) (hn : n < 2147483648) (kk : ax_G g P h mc ms pc2 lv st (ax_put M a (.inl (2, n, .inl (upd f j (x &&& 1))))) Q) : ax_G g P h mc ms pc lv (.int x :: .int i :: .ref a :: st) M Q := by
  subst hp
  intro p e R s m args below meth c H locs cells slots ls QQ C hh hr hL hR hS hK
  obtain ⟨v1, v2⟩ := ax_in_nI hx hj hn
  have hP0 := hR.2.2 a _ (hR.at hM)
  have hK0 := C.2.2.2.2.2.2.2.2.2.1.1
  refine W.zast C.1 C.2.1 hP0 ((hK0.2 2 _ rfl).1 n (fun j => .int (f j))) (fun q => by cases q) (by show ¬ (i < 0 ∨ (arrV _ _ _).slots.size ≤ _); rw [arrV_size]; exact v1) rfl rfl (C.2.2.2.2.2.2.2.2.1 _ _ _ hi) fun H1 e1 z oq => ?_
  refine kk p e R s m args below meth c H1 _ cells slots ls QQ C hh hr hL (hR.put hM ?_ z oq) (ax_S.put hS z oq) hK
  show H1[g.2.1 + a]? = some (vp_cell _ _)
  rw [e1]
  show some ((vp_cell (g.2.2.2.1 2) (n, .inl f)).setSlot _ _) = some (vp_cell (g.2.2.2.1 2) (n, .inl (upd f j (x &&& 1))))
  rw [vp_cell_i, vp_cell_i, arrV_store, v2]
  congr 2
  funext q
  by_cases hq : q = j
  · subst hq
    simp [updV, upd]
    try rfl
  · simp [updV, upd, hq]
theorem s_lastore {a n : Nat} {f : Nat → Int64} {x : Int64} {i : Int32} (j : Nat) (pc2 : Nat) (hi : P.2.2.2.2 pc = some (.lastore, 1)) (hp : pc + 1 = pc2) (hM : M.2 a = some (.inl (3, n, .inr (.inl f)))) (hx : i = nI j) (hj : j < n) (hn : n < 2147483648) (kk : ax_G g P h mc ms pc2 lv st (ax_put M a (.inl (3, n, .inr (.inl (vp_updL f j x))))) Q) : ax_G g P h mc ms pc lv (.long x :: .int i :: .ref a :: st) M Q := by
  subst hp
  intro p e R s m args below meth c H locs cells slots ls QQ C hh hr hL hR hS hK
  obtain ⟨v1, v2⟩ := ax_in_nI hx hj hn
  have hP0 := hR.2.2 a _ (hR.at hM)
  have hK0 := C.2.2.2.2.2.2.2.2.2.1.1
  refine W.last C.1 C.2.1 hP0 ((hK0.2 3 _ rfl).1 n (fun j => .long (f j))) (fun q => by cases q) (by show ¬ (i < 0 ∨ (arrV _ _ _).slots.size ≤ _); rw [arrV_size]; exact v1) rfl rfl (C.2.2.2.2.2.2.2.2.1 _ _ _ hi) fun H1 e1 z oq => ?_
  refine kk p e R s m args below meth c H1 _ cells slots ls QQ C hh hr hL (hR.put hM ?_ z oq) (ax_S.put hS z oq) hK
  show H1[g.2.1 + a]? = some (vp_cell _ _)
  rw [e1]
  show some ((vp_cell (g.2.2.2.1 3) (n, .inr (.inl f))).setSlot _ _) = some (vp_cell (g.2.2.2.1 3) (n, .inr (.inl (vp_updL f j x))))
  rw [vp_cell_l, vp_cell_l, arrV_store, v2]
  congr 2
  funext q
  by_cases hq : q = j
  · subst hq; simp [updV, vp_updL]
  · simp [updV, vp_updL, hq]
theorem s_aastore {a n y : Nat} {f : Nat → Option Nat} {i : Int32} (t ci : Nat) (j : Nat) {q0 : vw_C} {fs : List Value} (pc2 : Nat) (hi : P.2.2.2.2 pc = some (.aastore, 1)) (hp : pc + 1 = pc2) (hc : ax_cl[ci]? = some q0) (ht : (ax_tys g)[t]? = some (g.2.2.2.1 t, .object q0.1)) (hM : M.2 a = some (.inl (t, n, .inr (.inr (.inr (.inr f)))))) (hY : M.2 y = some (.inr (ci, fs))) (hx : i = nI j) (hj : j < n) (hn : n < 2147483648) (kk : ax_G g P h mc ms pc2 lv st (ax_put M a (.inl (t, n, .inr (.inr (.inr (.inr (va_up f j (some y)))))))) Q) : ax_G g P h mc ms pc lv (.ref y :: .int i :: .ref a :: st) M Q := by
  subst hp
  intro p e R s m args below meth c H locs cells slots ls QQ C hh hr hL hR hS hK
  obtain ⟨v1, v2⟩ := ax_in_nI hx hj hn
  have hP0 := hR.2.2 a _ (hR.at hM)
  have hK0 := C.2.2.2.2.2.2.2.2.2.1.1
  have hlt : i.toNatClampNeg < n := by rw [v2]; exact hj
  have h0 : ¬ i < 0 := fun q => v1 (Or.inl q)
  obtain ⟨r', hr', cellV, g1, g2, g3, -⟩ := hR.2.2 y _ (hR.at hY)
  have hcls := (hK0.1 ci q0 hc).2
  obtain ⟨kA, comp, k1, k2, k3, -⟩ := (hK0.2 t _ ht).2
  have hcomp : comp = g.2.2.1.1 ci := Option.some.inj (k3.symm.trans hcls.1)
  subst hcomp
  obtain ⟨kC, hkC, -⟩ := id hcls.2
  refine W.aast C.1 C.2.1 hP0 (fun q h => by cases h) (fun h => by cases h) k1 k2 rfl hkC ⟨h0, by show _ < (arrV _ _ _).slots.size; rw [arrV_size]; exact hlt⟩ g1 (fun q h => by rw [g3] at h; cases h) (by rw [g2]; exact hkC) (by rw [g2]; exact va_assign hcls) rfl rfl (C.2.2.2.2.2.2.2.2.1 _ _ _ hi) fun H1 e1 z oq => ?_
  refine kk p e R s m args below meth c H1 _ cells slots ls QQ C hh hr hL (hR.put hM ?_ z oq) (ax_S.put hS z oq) hK
  show H1[g.2.1 + a]? = some (vp_cell _ _)
  rw [e1]
  show some ((vp_cell (g.2.2.2.1 t) (n, .inr (.inr (.inr (.inr (fun i => ax_q g (f i))))))).setSlot _ _) = some (vp_cell (g.2.2.2.1 t) (n, .inr (.inr (.inr (.inr (fun i => ax_q g (va_up f j (some y) i)))))))
  rw [vp_cell_q, vp_cell_q, arrV_store, v2]
  congr 2
  funext q
  by_cases hq : q = j
  · subst hq; simp [updV, va_up, va_rf, ax_q]
  · simp [updV, va_up, hq]
theorem ax_S.push {H0 H H1 : Heap} {locs : List Loc} (h : va_S (ax_A g) H0 H locs) (z : H1.size = H.size + 1) (oq : ∀ q : Nat, q < H.size → H1[q]? = H[q]?) : va_S (ax_A g) H0 H1 locs := ⟨Nat.le_trans h.1 (by omega), fun x h1 h2 => (oq x (Nat.lt_of_lt_of_le h1 h.1)).trans (h.2.1 x h1 h2), h.2.2⟩
theorem s_new {idx : Nat} (ci : Nat) {q0 : vw_C} {fs : List Value} (ty : Nat → FieldType) (pc2 : Nat) (hi : P.2.2.2.2 pc = some (.new idx, 3)) (hp : pc + 3 = pc2) (hc : ax_cl[ci]? = some q0) (hw1 : Cond.classLink P.1.cls idx q0.1 ∈ ax_tbl) (hw2 : Cond.instantiable q0.1 q0.2.2 ∈ ax_tbl) (hw3 : Cond.initialized q0.1 ∈ ax_tbl) (hty : ∀ k, k < q0.2.2 → parseFieldDescriptor (q0.2.1 k).2.2.1 = some (ty k)) (hfs : ∀ j, j < q0.2.2 → defaultValue (ty j) = vp_V fs j) (hfv : fs.map (ax_v g) = fs)
    (kk : ax_G g P h mc ms pc2 lv (.ref M.1 :: st) (ax_new M (.inr (ci, fs))) Q) : ax_G g P h (mc + 1) (ms + q0.2.2) pc lv st M Q := by
  subst hp
  intro p e R s m args below meth c H locs cells slots ls QQ C hh hr hL hR hS hK
  have hts := C.2.2.2.2.2.1
  have hK0 := C.2.2.2.2.2.2.2.2.2.1.1
  have hKn := hK0.1 ci _ hc
  refine W.newcK C.1 C.2.1 C.2.2.2.2.1 (hts _ hw1) (hts _ hw2) (hts _ hw3) rfl (C.2.2.2.2.2.2.2.2.1 _ _ _ hi) (by omega) (by omega) hKn.2.1 rfl fun H1 kC hkC e1 z1 o1 => ?_
  rw [show (.ref H.size : Value) = ax_v g (.ref M.1) by show Value.ref _ = Value.ref _; rw [hR.1]]
  refine kk p e R s m args below meth c H1 locs (cells + 1) (slots + q0.2.2) ls QQ C hh ⟨by omega, by omega⟩ hL (hR.push ?_ z1 o1) (ax_S.push hS z1 o1) (fun v M' H' locs' cells' slots' pc' ls' q1 q2 q3 q4 => hK v M' H' locs' cells' slots' pc' ls' q1 q2 q3 ⟨by omega, by omega⟩)
  refine ⟨_, hc, ?_⟩
  show t_OB (g.2.1 + M.1) _ _ _ H1 (vp_V (fs.map (ax_v g)))
  rw [hfv]
  rw [← hR.1]
  exact (u_born ty hts (ax_cks ci _ hc).1 hKn hkC e1 hty).to hfs
theorem s_newarray {atype : ArrayType} {n : Int32} (t N : Nat) {a0 : vp_A} (pc2 : Nat) (hi : P.2.2.2.2 pc = some (.newarray atype, 2)) (hp : pc + 2 = pc2) (ht : (ax_tys g)[t]? = some (g.2.2.2.1 t, newarray.typeOf atype)) (hw : Cond.arrayClass (newarray.typeOf atype) ∈ ax_tbl) (hpr : ∀ C, newarray.typeOf atype ≠ .object C) (ha : ∀ cA : ClassId, vp_cell cA (ax_a g a0) = arrV cA N (fun _ => defaultValue (newarray.typeOf atype))) (hn : n = nI N) (hN : N < 65536) (hby : N * componentBytes (newarray.typeOf atype) ≤ 536870912)
    (kk : ax_G g P h mc ms pc2 lv (.ref M.1 :: st) (ax_new M (.inl (t, a0))) Q) : ax_G g P h (mc + 1) (ms + N) pc lv (.int n :: st) M Q := by
  subst hp
  intro p e R s m args below meth c H locs cells slots ls QQ C hh hr hL hR hS hK
  have hts := C.2.2.2.2.2.1
  have hK0 := C.2.2.2.2.2.2.2.2.2.1.1
  refine va_newaK C.1 C.2.1 (hts _ hw) rfl (C.2.2.2.2.2.2.2.2.1 _ _ _ hi) rfl (by rw [hn]; exact nI_pos (by omega)) (N := N) (by rw [hn]; exact nI_clamp (by omega)) hby (by omega) (by omega) rfl fun H1 cA e1 z1 o1 hAr hNm => ?_
  have hcA : g.2.2.2.1 t = cA := by
    have h2 := (hK0.2 t _ ht).2
    generalize hz : newarray.typeOf atype = z at *
    cases z <;> first | exact absurd rfl (hpr _) | exact Option.some.inj (Eq.trans h2.symm hNm)
  rw [show (.ref H.size : Value) = ax_v g (.ref M.1) by show Value.ref _ = Value.ref _; rw [hR.1]]
  refine kk p e R s m args below meth c H1 locs (cells + 1) (slots + N) ls QQ C hh ⟨by omega, by omega⟩ hL (hR.push ?_ z1 o1) (ax_S.push hS z1 o1) (fun v M' H' locs' cells' slots' pc' ls' q1 q2 q3 q4 => hK v M' H' locs' cells' slots' pc' ls' q1 q2 q3 ⟨by omega, by omega⟩)
  show H1[g.2.1 + M.1]? = some (vp_cell _ (ax_a g a0))
  rw [← hR.1, e1, ha, hcA]
end AXI
