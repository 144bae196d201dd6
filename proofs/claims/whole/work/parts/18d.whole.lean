/-! The law as a whole. -/
theorem dc_use {b : ByteArray} {lo n : Nat} {t : Nat → Option (Instr × Nat)} (h : ax_cr b lo n t = true) : ∀ pc, lo ≤ pc → pc < lo + n → ∀ (i : Instr) (m : Nat), t pc = some (i, m) → decode b pc = .ok (i, m) := by
  intro pc h1 h2 i m hq
  have h3 := List.all_eq_true.mp h (pc - lo) (List.mem_range.mpr (by omega))
  rw [show lo + (pc - lo) = pc by omega] at h3
  simp only [hq] at h3
  exact of_decide_eq_true h3
theorem dc_Law : ∀ (pc : Nat) (i : Instr) (n : Nat), mt_Law_law.2.2.2.2 pc = some (i, n) → decode code pc = .ok (i, n) := by
  intro pc i n hq
  have hq : ax_tr 1117 tr_Law_law pc = some (i, n) := hq
  unfold ax_tr at hq
  cases hb : Nat.blt pc 1117 with
  | false => rw [hb] at hq; cases hq
  | true =>
    rw [hb] at hq
    have hq : tr_Law_law pc = some (i, n) := hq
    have hl : pc < 1117 := by simpa using hb
    rcases Nat.lt_or_ge pc 32 with q0 | q0
    · exact dc_use dc_Law0 pc (by omega) (by omega) i n hq
    rcases Nat.lt_or_ge pc 195 with q1 | q1
    · exact dc_use dc_Law1 pc (by omega) (by omega) i n hq
    rcases Nat.lt_or_ge pc 220 with q2 | q2
    · exact dc_use dc_Law2 pc (by omega) (by omega) i n hq
    rcases Nat.lt_or_ge pc 248 with q3 | q3
    · exact dc_use dc_Law3 pc (by omega) (by omega) i n hq
    rcases Nat.lt_or_ge pc 272 with q4 | q4
    · exact dc_use dc_Law4 pc (by omega) (by omega) i n hq
    rcases Nat.lt_or_ge pc 300 with q5 | q5
    · exact dc_use dc_Law5 pc (by omega) (by omega) i n hq
    rcases Nat.lt_or_ge pc 330 with q6 | q6
    · exact dc_use dc_Law6 pc (by omega) (by omega) i n hq
    rcases Nat.lt_or_ge pc 350 with q7 | q7
    · exact dc_use dc_Law7 pc (by omega) (by omega) i n hq
    rcases Nat.lt_or_ge pc 372 with q8 | q8
    · exact dc_use dc_Law8 pc (by omega) (by omega) i n hq
    rcases Nat.lt_or_ge pc 396 with q9 | q9
    · exact dc_use dc_Law9 pc (by omega) (by omega) i n hq
    rcases Nat.lt_or_ge pc 418 with q10 | q10
    · exact dc_use dc_Law10 pc (by omega) (by omega) i n hq
    rcases Nat.lt_or_ge pc 444 with q11 | q11
    · exact dc_use dc_Law11 pc (by omega) (by omega) i n hq
    rcases Nat.lt_or_ge pc 468 with q12 | q12
    · exact dc_use dc_Law12 pc (by omega) (by omega) i n hq
    rcases Nat.lt_or_ge pc 494 with q13 | q13
    · exact dc_use dc_Law13 pc (by omega) (by omega) i n hq
    rcases Nat.lt_or_ge pc 520 with q14 | q14
    · exact dc_use dc_Law14 pc (by omega) (by omega) i n hq
    rcases Nat.lt_or_ge pc 548 with q15 | q15
    · exact dc_use dc_Law15 pc (by omega) (by omega) i n hq
    rcases Nat.lt_or_ge pc 574 with q16 | q16
    · exact dc_use dc_Law16 pc (by omega) (by omega) i n hq
    rcases Nat.lt_or_ge pc 602 with q17 | q17
    · exact dc_use dc_Law17 pc (by omega) (by omega) i n hq
    rcases Nat.lt_or_ge pc 628 with q18 | q18
    · exact dc_use dc_Law18 pc (by omega) (by omega) i n hq
    rcases Nat.lt_or_ge pc 658 with q19 | q19
    · exact dc_use dc_Law19 pc (by omega) (by omega) i n hq
    rcases Nat.lt_or_ge pc 680 with q20 | q20
    · exact dc_use dc_Law20 pc (by omega) (by omega) i n hq
    rcases Nat.lt_or_ge pc 708 with q21 | q21
    · exact dc_use dc_Law21 pc (by omega) (by omega) i n hq
    rcases Nat.lt_or_ge pc 732 with q22 | q22
    · exact dc_use dc_Law22 pc (by omega) (by omega) i n hq
    rcases Nat.lt_or_ge pc 758 with q23 | q23
    · exact dc_use dc_Law23 pc (by omega) (by omega) i n hq
    rcases Nat.lt_or_ge pc 784 with q24 | q24
    · exact dc_use dc_Law24 pc (by omega) (by omega) i n hq
    rcases Nat.lt_or_ge pc 814 with q25 | q25
    · exact dc_use dc_Law25 pc (by omega) (by omega) i n hq
    rcases Nat.lt_or_ge pc 840 with q26 | q26
    · exact dc_use dc_Law26 pc (by omega) (by omega) i n hq
    rcases Nat.lt_or_ge pc 866 with q27 | q27
    · exact dc_use dc_Law27 pc (by omega) (by omega) i n hq
    rcases Nat.lt_or_ge pc 890 with q28 | q28
    · exact dc_use dc_Law28 pc (by omega) (by omega) i n hq
    rcases Nat.lt_or_ge pc 918 with q29 | q29
    · exact dc_use dc_Law29 pc (by omega) (by omega) i n hq
    rcases Nat.lt_or_ge pc 938 with q30 | q30
    · exact dc_use dc_Law30 pc (by omega) (by omega) i n hq
    rcases Nat.lt_or_ge pc 960 with q31 | q31
    · exact dc_use dc_Law31 pc (by omega) (by omega) i n hq
    rcases Nat.lt_or_ge pc 986 with q32 | q32
    · exact dc_use dc_Law32 pc (by omega) (by omega) i n hq
    rcases Nat.lt_or_ge pc 1016 with q33 | q33
    · exact dc_use dc_Law33 pc (by omega) (by omega) i n hq
    rcases Nat.lt_or_ge pc 1042 with q34 | q34
    · exact dc_use dc_Law34 pc (by omega) (by omega) i n hq
    rcases Nat.lt_or_ge pc 1064 with q35 | q35
    · exact dc_use dc_Law35 pc (by omega) (by omega) i n hq
    rcases Nat.lt_or_ge pc 1096 with q36 | q36
    · exact dc_use dc_Law36 pc (by omega) (by omega) i n hq
    exact dc_use dc_Law37 pc (by omega) (by omega) i n hq
set_option maxRecDepth 100000 in
set_option maxHeartbeats 4000000 in
theorem law_all {g : ax_Y} {Rel : ax_M → Prop} {Q : Option Value → ax_M → Prop} (hL : g.2.2.2.2.2.2.1 ≤ 3072) (hR0 : ∀ M, Rel M → ∃ fs, M.2 0 = some (.inr (11, fs))) (hB : BA g Rel) (hI : ∀ M : ax_M, M.1 = 184 → wt_q M 0 184 → wt_r M 23 5 13 30 3 → wt_r M 75 4 6 87 4 → wt_r M 76 4 8 111 4 → Rel M) (hq : ∀ M, Rel M → Q (some (.int 1)) M) : ax_G g mt_Law_law 12 184 10718 0 [.retAddr 10, .float 0, .float 0, .float 0] [] ax_0 Q := by
  refine s_new (mc := 183) (ms := 10702) 11 (fs := [.null, .null, .null, .null, .null, .null, .null, .null, .null, .null, .null, .null, .null, .null, .int 0, .int 0]) t_Top 3 rfl rfl rfl cl_Law_7 is_Top in_Top t_Top_ok (by decide) rfl ?_
  show ax_G _ _ _ _ _ _ _ [.ref 0] _ _
  refine s_dup 4 rfl rfl rfl ?_
  refine s_callI0 (mc := 41) (ms := 5345) (mc2 := 142) (ms2 := 5357) 4 7 rfl rfl mv_Law_9 (by decide) (Nat.le_of_ble_eq_true rfl) (Nat.le_of_ble_eq_true rfl) ?_
  refine init_Top (fun M h1 h2 h3 h4 h5 => ?_)
  obtain ⟨m, f⟩ := M
  have h1 : m = 143 := h1
  subst h1
  show ax_G _ _ _ _ _ _ _ [.ref 0] _ _
  refine s_ast1 8 rfl rfl rfl ?_
  refine s_new (mc := 40) (ms := 5287) 12 (fs := [.null, .int 0, .int 0, .int 0, .null, .null, .null, .int 0, .null, .null, .null, .null, .null, .null, .null, .int 0, .null, .null, .null, .null, .null, .null, .null, .int 0, .null, .null, .int 0, .null, .null, .int 0, .int 0, .null, .null, .null, .null, .null, .null, .null, .int 0, .int 0, .int 0, .long 0, .int 0, .null, .null, .int 0, .null, .null, .null, .null, .null, .int 0, .null, .int 0, .null, .null, .int 0, .null]) t_Mod 11 rfl rfl rfl cl_Law_10 is_Mod in_Mod t_Mod_ok (by decide) rfl ?_
  show ax_G _ _ _ _ _ _ _ [.ref 143] _ _
  refine s_dup 12 rfl rfl rfl ?_
  refine s_callI0 (mc := 0) (ms := 0) (mc2 := 40) (ms2 := 5287) 4 15 rfl rfl mv_Law_12 (by decide) (Nat.le_of_ble_eq_true rfl) (Nat.le_of_ble_eq_true rfl) ?_
  refine init_Mod f (fun M k1 k2 k3 => ?_)
  show ax_G _ _ _ _ _ _ _ [.ref 143] _ _
  refine s_ast2 16 rfl rfl rfl ?_
  refine s_iconst 0 17 rfl rfl (by decide) ?_
  refine s_ist3 18 rfl rfl rfl ?_
  have tr : ∀ (a t n b d : Nat), a < 143 → wt_r ((143, f) : ax_M) a t n b d → wt_r M a t n b d := fun a t n b d ha ⟨z, z1, z2⟩ => ⟨z, (k2 a ha).trans z1, z2⟩
  refine law_loop hL hR0 hB hq 514 0 M (hI M k1 (fun k hk h0 q1 q2 q3 => ?_) (tr _ _ _ _ _ (by decide) h3) (tr _ _ _ _ _ (by decide) h4) (tr _ _ _ _ _ (by decide) h5)) ⟨by omega, by omega⟩
  rcases Nat.lt_or_ge k 143 with z | z
  · exact (k2 k z).trans (h2 k z h0 q1 q2 q3)
  · exact k3 k hk z q1 q2 q3
set_option maxRecDepth 100000 in
set_option maxHeartbeats 4000000 in
theorem whole_of (Rel : ax_Y → ax_M → Prop) (hR0 : ∀ g M, Rel g M → ∃ fs, M.2 0 = some (.inr (11, fs))) (hB : ∀ g, BA g (Rel g)) (hI : ∀ g (M : ax_M), M.1 = 184 → wt_q M 0 184 → wt_r M 23 5 13 30 3 → wt_r M 75 4 6 87 4 → wt_r M 76 4 8 111 4 → Rel g M)
    {p : Program} {e : Env} {s : State} {m : MethodId} {below : List Frame} {meth : Method} {c : Code} (l : Launch) {b L : Nat} {xs : Nat → Int32} (hL : L ≤ 3072) (C0 : lw_At p s m meth c b L xs) : W p l e room_1 s m #[Value.ref b] below meth c s.heap [] 0 0 (lw_Z below #[Value.ref b] s) (entryFrame m ([Value.ref b] : List Value).toArray 4) := by
  obtain ⟨hx, hb, hr, hml, hown, hts, hX, hbl, hlocks, hgv⟩ := id C0
  obtain ⟨g, g1, g2, g3, g4, g5, hK, hXX⟩ := ax_g0 l hts hgv hX hbl
  have ev : ([Value.ref b] : List Value) = [Value.retAddr 10].map (ax_v g) := by
    show _ = [Value.ref (g.2.2.2.2.1 10)]
    rw [g3]
  have ef : entryFrame m ([Value.ref b] : List Value).toArray 4 = F0 m 0 ((lg_sl ([Value.retAddr 10].map (ax_v g)) ++ List.replicate (4 - (lg_sl ([Value.retAddr 10].map (ax_v g))).length) Slot.unset).toArray) [] := by
    rw [ev]
    exact lg_entry_eq m _ 4
  refine W.eq ef ?_
  have hC : ax_C g mt_Law_law p s m #[Value.ref b] meth c := ⟨hx, hb, hr, hml, hown, fun w hw => hts w (List.mem_filter.mp hw).1, hlocks, (fun z => absurd z (by decide)), dc_Law, hK, hXX, by rw [g2]; exact Nat.le_refl _⟩
  have hR : ax_R g ax_0 s.heap := ⟨by rw [g2]; rfl, fun k => ⟨fun h => absurd h (Nat.not_lt_zero k), fun ⟨e, h⟩ => by cases h⟩, fun k q h => by simp [ax_ws, ax_0] at h⟩
  have hG := law_all (g := g) (Rel := Rel g) (Q := fun v _ => v = some (.int 1)) (by rw [g4]; exact hL) (hR0 g) (hB g) (hI g) (fun _ _ => rfl)
  subst g1
  refine hG p e room_1 s m #[Value.ref b] below meth c s.heap [] 0 0 _ _ hC ⟨by decide, by decide⟩ ⟨by decide, by decide⟩ ⟨ax_entry g [.retAddr 10] (n := 4) (by decide), rfl⟩ hR va_S.rf ?_
  intro v M' H' locs' cells' slots' pc' ls' hq hR' hS' hcs hrt
  subst hq
  rcases hrt with ⟨h1, -⟩ | ⟨x, h1, -, h2⟩ | ⟨x, h1, -⟩
  · cases h1
  · cases h1
    refine va_forget (fun q hq => by have := hS'.2.2 q hq; rw [← g2]; exact this) ?_
    refine W.widen (k := 600000) (n := 7302250) (by omega) (by omega) ?_
    exact lw_ret hx hb hr hlocks h2
  · cases h1
