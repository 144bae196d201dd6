/-! Rows of the heap: fields, arrays, makings. -/
theorem ax_S.put {g : ax_Y} {H0 H H1 : Heap} {locs : List Loc} {a k : Nat} (h : va_S (ax_A g) H0 H locs) (z : H1.size = H.size) (oq : ∀ q : Nat, q ≠ g.2.1 + a → H1[q]? = H[q]?) : va_S (ax_A g) H0 H1 (locs ++ [⟨g.2.1 + a, k⟩]) := h.put z oq (Nat.le_add_right _ _)
theorem ax_narrow {g : ax_Y} {ty : FieldType} {v : Value} (h : narrow ty v = v ∧ fits ty v = true) : narrow ty (ax_v g v) = ax_v g v ∧ fits ty (ax_v g v) = true := by
  cases v <;> first | exact h | (cases ty <;> first | (simp [fits] at h; done) | exact ⟨rfl, rfl⟩)
section AXH
variable {g : ax_Y} {P : ax_P} {h mc ms pc : Nat} {lv st : List Value} {M : ax_M} {Q : Option Value → ax_M → Prop}
theorem s_getfield {idx a : Nat} (ci k : Nat) {fs : List Value} {v : Value} (pc2 : Nat) (hi : P.2.2.2.2 pc = some (.getfield idx, 3)) (hp : pc + 3 = pc2) (hf : ax_FL P.1.cls idx ci k) (hM : M.2 a = some (.inr (ci, fs))) (hv : fs[k]? = some v) (kk : ax_G g P h mc ms pc2 lv (v :: st) M Q) : ax_G g P h mc ms pc lv (.ref a :: st) M Q := by
  subst hp
  intro p e R s m args below meth c H locs cells slots ls QQ C hh hr hL hR hS hK
  obtain ⟨q, h1, h2, h3⟩ := hf
  have hts := C.2.2.2.2.2.1
  have hck := ax_cks ci q h1
  exact va_get (own := P.1.cls) (C := q.1) (T := q.2.1) (N := q.2.2) (v := ax_v g v) C.1 C.2.1 hts hck.1 C.2.2.2.2.1 C.2.2.2.2.2.2.2.2.2.1.1 hR.2.2 a (fs := fs.map (ax_v g)) (hR.at hM) h1 k h2 (hts _ h3) (fun _ h9 => h9) (by rw [List.getElem?_map, hv]; rfl) (C.2.2.2.2.2.2.2.2.1 _ _ _ hi) (kk p e R s m args below meth c H locs cells slots ls QQ C hh hr hL hR hS hK)
theorem s_putfield {idx a : Nat} (ci k : Nat) {fs : List Value} {v : Value} {fin : Bool} (ty : FieldType) (pc2 : Nat) (hi : P.2.2.2.2 pc = some (.putfield idx, 3)) (hp : pc + 3 = pc2) (hf : ax_FP P.1.cls idx ci k fin ty) (hM : M.2 a = some (.inr (ci, fs))) (hl : k < fs.length) (hn : narrow ty v = v ∧ fits ty v = true) (hfin : fin = true → P.1.name = "<init>") (kk : ax_G g P h mc ms pc2 lv st (ax_put M a (.inr (ci, fs.set k v))) Q) : ax_G g P h mc ms pc lv (v :: .ref a :: st) M Q := by
  subst hp
  intro p e R s m args below meth c H locs cells slots ls QQ C hh hr hL hR hS hK
  obtain ⟨q, hc, hk, h3, h4, hd, h6⟩ := hf
  obtain ⟨C0, T, N⟩ := q
  have hts := C.2.2.2.2.2.1
  obtain ⟨hin, ⟨ty0, hty⟩, hnm⟩ := ax_cks ci _ hc
  have hK0 := C.2.2.2.2.2.2.2.2.2.1.1
  have hap := va_apart (own := P.1.cls) (C := C0) (T := T) (N := N) hts hin ty0 hty hnm hK0 hc
  have he := hR.at hM
  obtain ⟨r, h1, cell, q1, q2, q3, q4⟩ := hR.2.2 a _ he
  have hrr : r = (C0, T, N) := Option.some.inj (h1.symm.trans hc)
  subst hrr
  obtain ⟨hSl, hfc, kC, hkC, hkind⟩ := hK0.1 ci _ hc
  obtain ⟨cf, kf, fi, f, hif, hsl⟩ := hSl k hk
  obtain ⟨hn1, hn2⟩ := ax_narrow (g := g) hn
  have hlay := hts _ (hin _ (u_in_lay hk))
  unfold u_lay at hlay
  have hst := (u_facts hfc hkC (u_lays hts hin hk) hif).1
  have fin2 : ∀ H' : Heap, H'[g.2.1 + a]? = some (cell.setSlot f.slot (ax_v g v)) → H'.size = H.size → (∀ q, q ≠ g.2.1 + a → H'[q]? = H[q]?) → W p g.1 e R s m args below meth c H' (locs ++ [⟨g.2.1 + a, f.slot⟩]) cells slots QQ (F0 m (pc + 3) ls (st.map (ax_v g))) := by
    intro H' e1 e2 e3
    refine kk p e R s m args below meth c H' _ cells slots ls QQ C hh hr hL (hR.put hM ?_ e2 e3) (ax_S.put hS e2 e3) hK
    rw [hsl] at e1
    refine ⟨_, hc, t_OB.to (V := updV (vp_V (fs.map (ax_v g))) k (ax_v g v)) ⟨_, e1, q2, q3, t_set q4 hap hk _⟩ (fun j _ => ?_)⟩
    show _ = vp_V ((fs.set k v).map (ax_v g)) j
    rw [List.map_set]
    exact vp_updV_set (by rw [List.length_map]; exact hl) _ j
  cases fin with
  | false =>
    rw [if_neg (by rw [h4]; decide)] at hlay
    have hs6 := u_store hfc hkC hkind hlay hif hd hn1 hn2
    exact W.putK C.1 C.2.1 (f := f) ⟨C.2.2.2.2.1, hts _ h3, ⟨_, _, _, hif⟩, hst⟩ (by rw [q2]; exact hs6) q1 q3 (by rw [hsl]; exact k2_hasslot (q4 k hk)) rfl rfl (C.2.2.2.2.2.2.2.2.1 _ _ _ hi) fin2
  | true =>
    rw [if_pos h4] at hlay
    have hcf : m.cls = cf := by
      obtain ⟨_, _, c', _, _, _, -, -, hf', -, -, -, hown2, -⟩ := Cond.laysFinal_spec hlay
      have e1 : c' = cf := by have := hif.symm.trans hf'; simp at this; exact this.1.symm
      rw [h6 rfl] at hown2
      rw [← e1]; exact Option.some.inj (C.2.2.2.2.1.symm.trans hown2)
    have hs6 := u_fits hfc hkC hkind (Or.inr hlay) hif hd hn1 hn2
    exact W.putFinK C.1 C.2.1 C.2.2.2.2.1 (hts _ h3) hif hst hcf (C.2.2.2.2.2.2.2.1 (hfin rfl)) (by rw [q2]; exact hs6) q1 q3 (by rw [hsl]; exact k2_hasslot (q4 k hk)) rfl rfl (C.2.2.2.2.2.2.2.2.1 _ _ _ hi) fin2
/-- an index as a number -/
theorem ax_in_nI {x : Int32} {j n : Nat} (hx : x = nI j) (hj : j < n) (hn : n < 2147483648) : vp_in x n ∧ x.toNatClampNeg = j := by
  subst hx
  exact ⟨vp_in_nI hj hn, nI_clamp (by omega)⟩
theorem s_iaload {a n : Nat} {f : Nat → Int32} {x : Int32} (j : Nat) (pc2 : Nat) (hi : P.2.2.2.2 pc = some (.iaload, 1)) (hp : pc + 1 = pc2) (hM : M.2 a = some (.inl (0, n, .inl f))) (hx : x = nI j) (hj : j < n) (hn : n < 2147483648) (kk : ax_G g P h mc ms pc2 lv (.int (f j) :: st) M Q) : ax_G g P h mc ms pc lv (.int x :: .ref a :: st) M Q := by
  subst hp
  intro p e R s m args below meth c H locs cells slots ls QQ C hh hr hL hR hS hK
  obtain ⟨v1, v2⟩ := ax_in_nI hx hj hn
  refine va_iald C.1 C.2.1 C.2.2.2.2.2.2.2.2.2.1.1 hR.2.2 a 0 (f := f) (n := n) (hR.at hM) rfl v1 (C.2.2.2.2.2.2.2.2.1 _ _ _ hi) ?_
  rw [v2]
  exact kk p e R s m args below meth c H locs cells slots ls QQ C hh hr hL hR hS hK
theorem s_baload {a n : Nat} {f : Nat → Int32} {x : Int32} (j : Nat) (pc2 : Nat) (hi : P.2.2.2.2 pc = some (.baload, 1)) (hp : pc + 1 = pc2) (hM : M.2 a = some (.inl (1, n, .inl f))) (hx : x = nI j) (hj : j < n) (hn : n < 2147483648) (kk : ax_G g P h mc ms pc2 lv (.int (f j) :: st) M Q) : ax_G g P h mc ms pc lv (.int x :: .ref a :: st) M Q := by
  subst hp
  intro p e R s m args below meth c H locs cells slots ls QQ C hh hr hL hR hS hK
  obtain ⟨v1, v2⟩ := ax_in_nI hx hj hn
  refine va_bald C.1 C.2.1 C.2.2.2.2.2.2.2.2.2.1.1 hR.2.2 a 1 (f := f) (n := n) (hR.at hM) rfl v1 (C.2.2.2.2.2.2.2.2.1 _ _ _ hi) ?_
  rw [v2]
  exact kk p e R s m args below meth c H locs cells slots ls QQ C hh hr hL hR hS hK
theorem s_zaload {a n : Nat} {f : Nat → Int32} {x : Int32} (j : Nat) (pc2 : Nat) (hi : P.2.2.2.2 pc = some (.baload, 1)) (hp : pc + 1 = pc2) (hM : M.2 a = some (.inl (2, n, .inl f))) (hx : x = nI j) (hj : j < n) (hn : n < 2147483648) (kk : ax_G g P h mc ms pc2 lv (.int (f j) :: st) M Q) : ax_G g P h mc ms pc lv (.int x :: .ref a :: st) M Q := by
  subst hp
  intro p e R s m args below meth c H locs cells slots ls QQ C hh hr hL hR hS hK
  obtain ⟨v1, v2⟩ := ax_in_nI hx hj hn
  refine va_zald C.1 C.2.1 C.2.2.2.2.2.2.2.2.2.1.1 hR.2.2 a 2 (f := f) (n := n) (hR.at hM) rfl v1 (C.2.2.2.2.2.2.2.2.1 _ _ _ hi) ?_
  rw [v2]
  exact kk p e R s m args below meth c H locs cells slots ls QQ C hh hr hL hR hS hK
theorem s_laload {a n : Nat} {f : Nat → Int64} {x : Int32} (j : Nat) (pc2 : Nat) (hi : P.2.2.2.2 pc = some (.laload, 1)) (hp : pc + 1 = pc2) (hM : M.2 a = some (.inl (3, n, .inr (.inl f)))) (hx : x = nI j) (hj : j < n) (hn : n < 2147483648) (kk : ax_G g P h mc ms pc2 lv (.long (f j) :: st) M Q) : ax_G g P h mc ms pc lv (.int x :: .ref a :: st) M Q := by
  subst hp
  intro p e R s m args below meth c H locs cells slots ls QQ C hh hr hL hR hS hK
  obtain ⟨v1, v2⟩ := ax_in_nI hx hj hn
  refine va_lald C.1 C.2.1 C.2.2.2.2.2.2.2.2.2.1.1 hR.2.2 a 3 (f := f) (n := n) (hR.at hM) rfl v1 (C.2.2.2.2.2.2.2.2.1 _ _ _ hi) ?_
  rw [v2]
  exact kk p e R s m args below meth c H locs cells slots ls QQ C hh hr hL hR hS hK
/-- a reference out of an array: t is the array's tag (4, 5), cn the class of what it holds -/
theorem s_aaload {a n y : Nat} {f : Nat → Option Nat} {x : Int32} (t : Nat) (cn : String) (j : Nat) (pc2 : Nat) (hi : P.2.2.2.2 pc = some (.aaload, 1)) (hp : pc + 1 = pc2) (ht : (ax_tys g)[t]? = some (g.2.2.2.1 t, .object cn)) (hM : M.2 a = some (.inl (t, n, .inr (.inr (.inr (.inr f)))))) (hx : x = nI j) (hj : j < n) (hn : n < 2147483648) (hy : f j = some y) (kk : ax_G g P h mc ms pc2 lv (.ref y :: st) M Q) : ax_G g P h mc ms pc lv (.int x :: .ref a :: st) M Q := by
  subst hp
  intro p e R s m args below meth c H locs cells slots ls QQ C hh hr hL hR hS hK
  obtain ⟨v1, v2⟩ := ax_in_nI hx hj hn
  refine va_aldq C.1 C.2.1 C.2.2.2.2.2.2.2.2.2.1.1 hR.2.2 a t (C := cn) (f := fun i => ax_q g (f i)) (n := n) (hR.at hM) ht v1 (C.2.2.2.2.2.2.2.2.1 _ _ _ hi) ?_
  rw [v2, hy]
  exact kk p e R s m args below meth c H locs cells slots ls QQ C hh hr hL hR hS hK
theorem s_alen {a n t : Nat} {z : (Nat → Int32) ⊕ (Nat → Int64) ⊕ (Nat → UInt32) ⊕ (Nat → UInt64) ⊕ (Nat → Option Nat)} (ty : FieldType) (pc2 : Nat) (hi : P.2.2.2.2 pc = some (.arraylength, 1)) (hp : pc + 1 = pc2) (hM : M.2 a = some (.inl (t, n, z))) (ht : (ax_tys g)[t]? = some (g.2.2.2.1 t, ty)) (kk : ax_G g P h mc ms pc2 lv (.int (nI n) :: st) M Q) : ax_G g P h mc ms pc lv (.ref a :: st) M Q := by
  subst hp
  intro p e R s m args below meth c H locs cells slots ls QQ C hh hr hL hR hS hK
  exact va_alen C.1 C.2.1 C.2.2.2.2.2.2.2.2.2.1.1 hR.2.2 a t (hR.at hM) ht (v := nI n) rfl (C.2.2.2.2.2.2.2.2.1 _ _ _ hi) (kk p e R s m args below meth c H locs cells slots ls QQ C hh hr hL hR hS hK)
/-- the script -/
theorem s_xlen (pc2 : Nat) (hi : P.2.2.2.2 pc = some (.arraylength, 1)) (hp : pc + 1 = pc2) (kk : ax_G g P h mc ms pc2 lv (.int (nI g.2.2.2.2.2.2.1) :: st) M Q) : ax_G g P h mc ms pc lv (.retAddr 10 :: st) M Q := by
  subst hp
  intro p e R s m args below meth c H locs cells slots ls QQ C hh hr hL hR hS hK
  obtain ⟨-, -, -, -, -, -, -, -, hd, -, hX, hb⟩ := id C
  exact va_slen (A := ax_A g) C.1 C.2.1 hX.2.2.1 (Nat.lt_of_lt_of_le hX.2.2.2 hb) (Nat.not_le.mpr hX.2.2.2) hS (hd _ _ _ hi) (kk p e R s m args below meth c H locs cells slots ls QQ C hh hr hL hR hS hK)
theorem s_xaload {x : Int32} (j : Nat) (pc2 : Nat) (hi : P.2.2.2.2 pc = some (.iaload, 1)) (hp : pc + 1 = pc2) (hx : x = nI j) (hj : j < g.2.2.2.2.2.2.1) (hn : g.2.2.2.2.2.2.1 < 2147483648) (kk : ax_G g P h mc ms pc2 lv (.int (g.2.2.2.2.2.2.2 j) :: st) M Q) : ax_G g P h mc ms pc lv (.int x :: .retAddr 10 :: st) M Q := by
  subst hp
  intro p e R s m args below meth c H locs cells slots ls QQ C hh hr hL hR hS hK
  obtain ⟨-, -, -, -, -, -, -, -, hd, -, hX, hb⟩ := id C
  obtain ⟨v1, v2⟩ := ax_in_nI hx hj hn
  refine va_sld (A := ax_A g) C.1 C.2.1 hX.2.2.1 (Nat.lt_of_lt_of_le hX.2.2.2 hb) (Nat.not_le.mpr hX.2.2.2) hS v1 (hd _ _ _ hi) ?_
  rw [v2]
  exact kk p e R s m args below meth c H locs cells slots ls QQ C hh hr hL hR hS hK
end AXH
