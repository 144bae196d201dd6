/-! What holds at the law's entry. -/
def ax_tm (i : Nat) : Term := match ax_str[i]? with
  | some q => .string q.1 q.2.1
  | none => .int 0
theorem ax_inst : ∀ (ci : Nat) (q : vw_C), ax_cl[ci]? = some q → Cond.instantiable q.1 q.2.2 ∈ ax_tbl := by
  intro ci q h
  match ci, h with
  | 0, h => cases h; exact is_Alarms
  | 1, h => cases h; exact is_Facts
  | 2, h => cases h; exact is_Lines
  | 3, h => cases h; exact is_Lists
  | 4, h => cases h; exact is_Matching
  | 5, h => cases h; exact is_Parts
  | 6, h => cases h; exact is_Ranks
  | 7, h => cases h; exact is_Row
  | 8, h => cases h; exact is_Silence
  | 9, h => cases h; exact is_Silences
  | 10, h => cases h; exact is_Tokens
  | 11, h => cases h; exact is_Top
  | 12, h => cases h; exact is_Mod
  | n + 13, h => simp [ax_cl] at h
theorem ax_prim {args : Array Value} {s : State} {ty : FieldType} (hp : ∀ C, ty ≠ .object C) (h : (Cond.arrayClass ty).before args s = true) : ∃ cA : ClassId, ArrOfT s cA ty ∧ va_RA s cA ty := by
  obtain ⟨cA, kA, comp, h1, h2, h3⟩ := Cond.arrayClass_spec h
  refine ⟨cA, fun n z => ⟨fun k h => (by cases h), kA, h2, comp, h3⟩, ?_⟩
  cases ty <;> first | exact absurd rfl (hp _) | exact h1
theorem ax_obj {args : Array Value} {s : State} {C : String} (h : (Cond.arrayOver (.object C)).before args s = true) : ∃ cA : ClassId, ArrOfT s cA (.object C) ∧ va_RA s cA (.object C) := by
  obtain ⟨comp, c, k, h1, h2, h3, h4, h5⟩ := Cond.arrayOver_spec h
  exact ⟨c, fun n z => ⟨fun k h => (by cases h), k, h3, comp, h4⟩, k, comp, h3, h4, h1, h5⟩
abbrev ax_fl : List Cond := flatC (Jvm.Cond.and given_1 narrow_1)
theorem fx_1 : ∀ i, i < 10 → Cond.exactly (ax_tm i) "java/lang/String" ∈ ax_fl := by decide +kernel
theorem fx_2 : ∀ i, i < 10 → Cond.eq (.field (ax_tm i) "java/lang/String" "coder" "B") (.int 0) ∈ ax_fl := by decide +kernel
theorem fx_3 : ∀ i, i < 10 → Cond.arrayOf (.field (ax_tm i) "java/lang/String" "value" "[B") .byte ∈ ax_fl := by decide +kernel
theorem fx_4 : ∀ i, i < 10 → Cond.eq (.length (.field (ax_tm i) "java/lang/String" "value" "[B")) (.int (Int32.ofNat (ax_sln.getD i 0))) ∈ ax_fl := by decide +kernel
theorem fx_5 : ∀ i, i < 10 → ∀ j, j < ax_sln.getD i 0 → Cond.eq (.elem (.field (ax_tm i) "java/lang/String" "value" "[B") (.int (Int32.ofNat j))) (.int ((ax_sby.getD i []).getD j 0)) ∈ ax_fl := by decide +kernel
theorem fx_6 : ∀ i, i < 10 → ∀ j, j < 10 → i ≠ j → (Cond.not (Cond.eq (ax_tm i) (ax_tm j)) ∈ ax_fl ∨ Cond.not (Cond.eq (ax_tm j) (ax_tm i)) ∈ ax_fl) := by decide +kernel
theorem fx_7 : Cond.eq (.static "java/lang/String" "COMPACT_STRINGS" "Z") (.int 1) ∈ ax_fl := by decide +kernel
theorem fx_8 : Cond.laysStatic "java/lang/String" "COMPACT_STRINGS" "Z" ∈ lw_tbl := by decide +kernel
theorem fx_9 : Cond.initialized "java/lang/String" ∈ lw_tbl := by decide +kernel
theorem fx_10 : Cond.isRef (.static "jdk/internal/util/Preconditions" "SIOOBE_FORMATTER" "Ljava/util/function/BiFunction;") ∈ ax_fl := by decide +kernel
theorem fx_11 : Cond.laysStatic "jdk/internal/util/Preconditions" "SIOOBE_FORMATTER" "Ljava/util/function/BiFunction;" ∈ lw_tbl := by decide +kernel
theorem fx_12 : Cond.initialized "jdk/internal/util/Preconditions" ∈ lw_tbl := by decide +kernel
theorem fx_r : ∀ (i : Nat) (q : String × Nat × String), ax_str[i]? = some q → i < 10 ∧ ax_tm i = .string q.1 q.2.1 ∧ Cond.stringRef q.1 q.2.1 q.2.2 ∈ lw_tbl := by
  intro i q h
  have hi : i < 10 := (List.getElem?_eq_some_iff.mp h).1
  refine ⟨hi, by unfold ax_tm; rw [h], ?_⟩
  have key : ∀ i, i < 10 → ∀ q ∈ ax_str[i]?, Cond.stringRef q.1 q.2.1 q.2.2 ∈ lw_tbl := by decide +kernel
  exact key i hi q h
set_option maxRecDepth 100000 in
set_option maxHeartbeats 4000000 in
theorem ax_g0 {args : Array Value} {s : State} (l : Launch) {b L : Nat} {xs : Nat → Int32} (hts : ∀ w ∈ lw_tbl, w.before args s = true) (hgv : (Jvm.Cond.and given_1 narrow_1).before args s = true) (hX : va_X b L xs s s.heap) (hbl : b < s.heap.size) :
    ∃ g : ax_Y, g.1 = l ∧ g.2.1 = s.heap.size ∧ g.2.2.2.2.1 10 = b ∧ g.2.2.2.2.2.2.1 = L ∧ g.2.2.2.2.2.2.2 = xs ∧ ax_K g s ∧ ax_X g s s.heap := by
  have htb : ∀ w ∈ ax_tbl, w.before args s = true := fun w hw => hts w (List.mem_filter.mp hw).1
  have hk : ∀ ci : Nat, ∃ x : ClassId × (Nat → Nat), ∀ q, ax_cl[ci]? = some q → u_Kn s q.1 q.2.1 q.2.2 x.1 x.2 := by
    intro ci
    cases hc : ax_cl[ci]? with
    | none => exact ⟨(0, fun _ => 0), fun q h => by cases h⟩
    | some q0 =>
      obtain ⟨cC, iS, h⟩ := u_known (C := q0.1) (T := q0.2.1) (N := q0.2.2) (n := q0.2.2) htb (ax_cks ci q0 hc).1 (htb _ (ax_inst ci q0 hc))
      exact ⟨(cC, iS), fun q hq => by cases hq; exact h⟩
  obtain ⟨D0, hD⟩ := Classical.axiomOfChoice hk
  obtain ⟨cI, aI⟩ := ax_prim (ty := .int) (fun _ h => by cases h) (htb _ ac_int)
  obtain ⟨cB, aB⟩ := ax_prim (ty := .byte) (fun _ h => by cases h) (htb _ ac_byte)
  obtain ⟨cZ, aZ⟩ := ax_prim (ty := .boolean) (fun _ h => by cases h) (htb _ ac_boolean)
  obtain ⟨cJ, aJ⟩ := ax_prim (ty := .long) (fun _ h => by cases h) (htb _ ac_long)
  have oP : (Cond.arrayOver (.object "AlarmGroups$Parts")).before args s = true := hts _ (by decide +kernel)
  have oS : (Cond.arrayOver (.object "AlarmGroups$Silence")).before args s = true := hts _ (by decide +kernel)
  obtain ⟨cP, aP⟩ := ax_obj oP
  obtain ⟨cS, aS⟩ := ax_obj oS
  have hs := flat_of_before _ hgv
  have hA : ∀ a : Nat, a < s.heap.size → ¬ (fun q : Nat => s.heap.size ≤ q) a := fun a h q => absurd h (Nat.not_lt.mpr q)
  obtain ⟨adK, adV, hS, hev⟩ := vk_Sof (args := args) (s := s) (N := 10) (tm := ax_tm) (len := ax_sln) (byt := ax_sby) (A := fun q => s.heap.size ≤ q)
    (by decide) (fun i hi => hs _ (fx_1 i hi)) (fun i hi => hs _ (fx_2 i hi)) (fun i hi => hs _ (fx_3 i hi)) (fun i hi => hs _ (fx_4 i hi)) (fun i hi j hj => hs _ (fx_5 i hi j hj))
    (fun i j hi hj hij => (fx_6 i hi j hj hij).elim (fun h => Or.inl (hs _ h)) (fun h => Or.inr (hs _ h))) hA
  have hZ := va_Zof (A := fun q => s.heap.size ≤ q) (hts _ fx_8) (hts _ fx_9) (va_eqi (hs _ fx_7)) hA
  have hZq := va_Zqof (A := fun q => s.heap.size ≤ q) (hts _ fx_11) (hts _ fx_12) (hs _ fx_10) hA
  obtain ⟨t0, hZ2⟩ : ∃ t0 : Nat, va_Z "jdk/internal/util/Preconditions" "SIOOBE_FORMATTER" "Ljava/util/function/BiFunction;" .null (fun q => s.heap.size ≤ q) s s.heap ∨ va_Z "jdk/internal/util/Preconditions" "SIOOBE_FORMATTER" "Ljava/util/function/BiFunction;" (.ref t0) (fun q => s.heap.size ≤ q) s s.heap := hZq.elim (fun q => ⟨0, Or.inl q⟩) (fun ⟨t, q⟩ => ⟨t, Or.inr q⟩)
  have he : ∀ i, i < 10 → (if i = 10 then b else if i = 11 then t0 else if 12 ≤ i then adV (i - 12) else adK i) = adK i := fun i hi => by rw [if_neg (by omega), if_neg (by omega), if_neg (by omega)]
  refine ⟨(l, s.heap.size, (fun c => (D0 c).1, fun c => (D0 c).2), fun t => match t with | 0 => cI | 1 => cB | 2 => cZ | 3 => cJ | 4 => cP | _ => cS, fun i => if i = 10 then b else if i = 11 then t0 else if 12 ≤ i then adV (i - 12) else adK i, adV, L, xs), rfl, rfl, rfl, rfl, rfl, ⟨⟨fun ci q h => hD ci q h, fun k q h => ?_⟩, fun w hw => ?_, fun i q h => ?_, va_AO.of oP, va_AO.of oS⟩, ⟨⟨⟨fun i hi => ?_, fun i j hi hj e => ?_⟩, hZ2, fun i hi => ?_⟩, hZ, hX, hbl⟩⟩
  · match k, h with
    | 0, h => cases h; exact aI
    | 1, h => cases h; exact aB
    | 2, h => cases h; exact aZ
    | 3, h => cases h; exact aJ
    | 4, h => cases h; exact aP
    | 5, h => cases h; exact aS
    | n + 6, h => simp [ax_tys] at h
  · have h2 := (List.mem_filter.mp hw).2
    have h1 := hts w (List.mem_filter.mp hw).1
    cases w <;> first | exact va_Nw.of rfl h1 | (simp [ax_isN] at h2)
  · obtain ⟨hi, h1, h2⟩ := fx_r i q h
    have h3 := hev i hi
    rw [h1] at h3
    show vk_R _ _ _ (if i = 10 then b else if i = 11 then t0 else if 12 ≤ i then adV (i - 12) else adK i) s
    rw [he i hi]
    exact vk_R.of (hts _ h2) h3
  · show va_O _ (if i = 10 then b else if i = 11 then t0 else if 12 ≤ i then adV (i - 12) else adK i) _ _ _ ∧ _
    have := hS.1 i hi
    rw [← he i hi] at this
    exact this
  · have e : (if i = 10 then b else if i = 11 then t0 else if 12 ≤ i then adV (i - 12) else adK i) = (if j = 10 then b else if j = 11 then t0 else if 12 ≤ j then adV (j - 12) else adK j) := e
    rw [he i hi, he j hj] at e
    exact hS.2 i j hi hj e
  · show (if 12 + i = 10 then b else if 12 + i = 11 then t0 else if 12 ≤ 12 + i then adV (12 + i - 12) else adK (12 + i)) = adV i
    rw [if_neg (by omega), if_neg (by omega), if_pos (by omega), Nat.add_sub_cancel_left]
