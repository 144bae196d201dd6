/-! both: lift -/
theorem sl_.mv2 {M N : ax_M} {p : Nat} {un kd fo fi : Int32} {ls : Int64} {r : Nat} {f : Nat → Int32} (hp : p < 13) (h : sl_ M p un kd fo fi ls r f) (e : ∀ k, 30 ≤ k ∧ k ≤ 68 → N.2 k = M.2 k) : sl_ N p un kd fo fi ls r f := by
  obtain ⟨h1, h2, h3, h4⟩ := h
  exact ⟨(e _ (by omega)).trans h1, (e _ (by omega)).trans h2, (e _ (by omega)).trans h3, h4⟩
/-- where place j of a row of 13 came from, when k of m + 1 was taken out -/
def wf_ (k m j : Nat) : Nat := if j = m then k else if k ≤ j ∧ j < m then j + 1 else j
theorem wf_e {α : Type} (f : Nat → α) (k m j : Nat) : va_up (sf_ f k m) m (f k) j = f (wf_ k m j) := by
  unfold va_up sf_ wf_
  by_cases q : j = m
  · rw [if_pos q, if_pos q]
  · rw [if_neg q, if_neg q]
    by_cases q2 : k ≤ j ∧ j < m
    · rw [if_pos q2, if_pos q2]
    · rw [if_neg q2, if_neg q2]
theorem wf_lt {k m j : Nat} (hk : k ≤ m) (hm : m < 13) (hj : j < 13) : wf_ k m j < 13 := by
  unfold wf_
  split
  · omega
  · split <;> omega
theorem wf_inj {k m i j : Nat} (hk : k ≤ m) (e : wf_ k m i = wf_ k m j) : i = j := by
  have h : ∀ j, (j = m ∧ wf_ k m j = k) ∨ (j ≠ m ∧ (k ≤ j ∧ j < m) ∧ wf_ k m j = j + 1) ∨ (j ≠ m ∧ ¬ (k ≤ j ∧ j < m) ∧ wf_ k m j = j) := by
    intro j
    unfold wf_
    by_cases q : j = m
    · exact Or.inl ⟨q, if_pos q⟩
    · rw [if_neg q]
      by_cases q2 : k ≤ j ∧ j < m
      · exact Or.inr (Or.inl ⟨q, q2, if_pos q2⟩)
      · exact Or.inr (Or.inr ⟨q, q2, if_neg q2⟩)
  have h1 := h i
  have h2 := h j
  omega
theorem wf_sf {α : Type} (f : Nat → α) {k m j : Nat} (hj : j < m) : sf_ f k m j = f (wf_ k m j) := by
  unfold sf_ wf_
  rw [if_neg (show ¬ j = m by omega)]
  by_cases q2 : k ≤ j ∧ j < m
  · rw [if_pos q2, if_pos q2]
  · rw [if_neg q2, if_neg q2]
theorem both_lift {g : ax_Y} (x : Int32) : BI g (Rel g) mt_Top_lift mt_Mod_lift [.int x] := by
  intro M hR
  have hR' := hR
  obtain ⟨n, bl, ln, dr, al, ru, si, pa, cm, os, dw, nw, pv, gm, tk, pl, bh, va, iw, od, h0, h143, hT, hL, hA, hF, ⟨sl, pm, un, kd, wh, fi, rz, rb, ls, i1, i2, i3, i4, i5, i6, i7, i8, i9, i10, i11, i12, i13⟩, hO, hU, hC, hX, hz⟩ := hR
  have hs : ∀ j, j < 13 → ∃ y fs, sl j = some y ∧ y ≠ 23 ∧ M.2 y = some (.inr (8, fs)) := by
    intro j hj
    obtain ⟨a, b, c, d, e, r, f, ⟨q1, -⟩, -⟩ := i13 j hj
    exact ⟨_, _, (i3 j hj).2, by omega, q1⟩
  refine c_lift (h := 9) h0 i1 i2 hs i12 (fun q => ?_) (fun k m e1 e2 e3 => ?_)
  · refine ⟨_, rfl, ⟨_, h143⟩, d_lift (h := 9) h143 i5 i6 i7 i8 i9 i10 i11 i12 (fun _ => ⟨rfl, hR'⟩) (fun k m e1 e2 e3 => absurd (in_bi (n := si) (k := k) (by omega) (by omega) e3) (in_no q))⟩
  · subst e1
    refine ⟨_, rfl, ⟨_, h143⟩, d_lift (h := 9) (M := oP (aP M 23 5 13 (va_up (sf_ sl k m) m (sl k))) 22 9 [.ref 23, .int (nI m), .ref 24]) h143 i5 i6 i7 i8 i9 i10 i11 i12 (fun q => absurd (in_bi (n := m + 1) (k := k) (by omega) (by omega) e3) (in_no q)) (fun k' m' d1 d2 d3 => ?_)⟩
    obtain rfl : m = m' := by omega
    obtain rfl : k = k' := nn_eq (e3.symm.trans d3)
    refine ⟨rfl, ?_⟩
    have key : ∀ j, ¬ (j = 22 ∨ j = 23 ∨ j = 143 ∨ (166 ≤ j ∧ j ≤ 172)) → (lf_m (oP (aP M 23 5 13 (va_up (sf_ sl k m) m (sl k))) 22 9 [.ref 23, .int (nI m), .ref 24]) (nI n) (nI bl) (nI ln) (nI dr) (nI al) (nI ru) pv (nI m) (nI pa) (nI cm) (nI os) gm tk pl bh va iw od (sf_ un k m) (sf_ kd k m) (sf_ wh k m) (sf_ fi k m) (sf_ ls k m) (sf_ rz k m) (sg_ rb (20 * k) (20 * m))).2 j = M.2 j := fun j hj => ax_ne (by omega) (ax_ne (by omega) (ax_ne (by omega) (ax_ne (by omega) (ax_ne (by omega) (ax_ne (by omega) (ax_ne (by omega) (ax_ne (by omega) (ax_ne (by omega) (ax_ne (by omega) rfl)))))))))
    refine ⟨n, bl, ln, dr, al, ru, m, pa, cm, os, dw, nw, pv, gm, tk, pl, bh, va, iw, od, h0, rfl, hT.mv ?_, hL.mv ?_, hA.mv ?_, hF.mv ?_, ⟨_, fun j => pm (wf_ k m j), _, _, _, _, _, _, _, rfl, rfl, fun j hj => ?_, fun i j hi hj e => wf_inj e2 (i4 _ _ (wf_lt e2 (by omega) hi) (wf_lt e2 (by omega) hj) e), rfl, rfl, rfl, rfl, rfl, rfl, rfl, by omega, fun j hj => ?_⟩, hO.mv ?_, hU.mv ?_, hC.mv ?_, hX.mv ?_, hz⟩
    case refine_5 =>
      rw [wf_e]
      exact i3 _ (wf_lt e2 (by omega) hj)
    case refine_6 =>
      obtain ⟨a, b, c, d, e, r, f, q1, q2⟩ := i13 (wf_ k m j) (wf_lt e2 (by omega) hj)
      refine ⟨a, b, c, d, e, r, f, q1.mv2 (i3 _ (wf_lt e2 (by omega) hj)).1 (fun k hk => key k (by omega)), fun hjm => ?_⟩
      have hlt : wf_ k m j < m + 1 := by
        unfold wf_
        split
        · omega
        · split <;> omega
      obtain ⟨r1, r2, r3, r4, r5, r6, r7, r8⟩ := q2 hlt
      have hr := q1.2.2.2
      refine ⟨(wf_sf un hjm).trans r1, (wf_sf kd hjm).trans r2, (wf_sf wh hjm).trans r3, (wf_sf fi hjm).trans r4, (wf_sf ls hjm).trans r5, (wf_sf rz hjm).trans r6, r7, fun i hi => ?_⟩
      rw [r8 i hi]
      unfold sg_ wf_
      rw [if_neg (show ¬ j = m by omega)]
      by_cases z : k ≤ j ∧ j < m
      · rw [if_pos z, if_pos (by omega), show 20 * (j + 1) + i = 20 * j + i + 20 by omega]
      · rw [if_neg z, if_neg (by omega)]
    all_goals exact fun k hk => key k (by omega)
