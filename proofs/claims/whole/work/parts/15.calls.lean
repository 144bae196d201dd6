/-! Calls. -/
theorem ax_goodw (P : ax_P) (ok : ax_ok P) : GoodIn ax_tbl (ax_w P) := by
  intro w hw
  have key : ∀ w, w ∈ ax_tbl → w ∈ ax_tbl ∧ ((w.onTables && w.keeps) = true ∨ ∃ ty, w = .arrayClass ty) := fun w hw => ⟨hw, good_of_word (List.mem_filter.mp hw).2⟩
  rcases List.mem_cons.mp hw with rfl | h
  · exact key _ ok.2.1
  · exact key _ h
theorem ax_blind (g : ax_Y) (vs : List Value) (M : ax_M) : FrameBlind (ax_Pc g vs M) := by
  intro a U f mk q
  obtain ⟨q1, q2, q3, q4⟩ := q
  exact ⟨q1, q2, ax_K.same (u := U) (U := U.calling f mk a) rfl q3, ax_X.moved (u := U) (U := U.calling f mk a) (Vm.Alike.refl U.vm) q4⟩
theorem ax_pn.use {P : ax_P} {n : Nat} (h : ax_pn P n) : ∀ sig, parseMethodDescriptor P.1.desc = some sig → n = sig.parameters.length := by
  intro sig hs
  unfold ax_pn at h
  rw [hs] at h
  exact (Option.some.inj h).symm
section AXC
variable {g : ax_Y} {P P2 : ax_P} {h h2 mc ms mc2 ms2 pc : Nat} {lv st : List Value} {M : ax_M} {Q : Option Value → ax_M → Prop}
theorem ax_room {m : MethodId} {ls : Array Slot} {rest st : List Value} (hw : (st.map fun v => v.category).sum ≤ 8) : 2 * (F0 m pc ls rest).monitorRoom + ((st.map (ax_v g)).map fun v => v.category).sum ≤ 8 := by
  refine lv_room ?_
  rw [List.map_map]
  rw [show ((fun v : Value => v.category) ∘ ax_v g) = (fun v : Value => v.category) from funext (fun v => ax_cat g v)]
  exact hw
/-- behind a call -/
theorem ax_run {p : Program} {e : Env} {R : Room} {s : State} {m : MethodId} {args : Array Value} {below : List Frame} {meth : Method} {c : Code} {H : Heap} {locs : List Loc} {cells slots : Nat} {ls : Array Slot} {QQ : State → Prop} {st0 : List Value} {a : Array Value} {Q2 : Option Value → ax_M → Prop}
    (hr : va_Run p g.1 e R s m args below meth c H locs cells slots mc2 ms2 (F0 m pc ls st0) (st.map (ax_v g)) (ax_Qc g Q2 a) (ax_A g)) (hS : va_S (ax_A g) s.heap H locs)
    (kk : ∀ (v : Option Value) (M' : ax_M) (H' : Heap) (locs' : List Loc), Q2 v M' → ax_R g M' H' → va_S (ax_A g) s.heap H' locs' → W p g.1 e R s m args below meth c H' locs' (cells + mc2) (slots + ms2) QQ (F0 m (pc + 3) ls ((ax_rs v st).map (ax_v g)))) : W p g.1 e R s m args below meth c H locs cells slots QQ (F0 m pc ls st0) := by
  intro T hT X
  obtain ⟨v, st₀, t, T', L, h0, X', hL', e1, e2, ⟨v2, M', hv, hq, hR', hz, hF⟩, hst⟩ := hr T hT X
  cases hv
  rw [h0] at hz hF
  have hS' : va_S (ax_A g) s.heap T'.heap (locs ++ L) := ⟨Nat.le_trans hS.1 (by rw [e1]; exact hz), fun q h1 h2 => by rw [e1, hF q (Nat.lt_of_lt_of_le h1 hS.1) h2]; exact hS.2.1 q h1 h2, fun q hq => by
      rcases List.mem_append.mp hq with h | h
      · exact hS.2.2 q h
      · exact hL' q h⟩
  obtain ⟨t2, a1, b1⟩ := kk v2 M' T'.heap (locs ++ L) hq (by rw [e1]; exact hR') hS' T' rfl X'
  refine ⟨t2, hst t2 ?_, b1⟩
  have he : (ax_rs v2 st).map (ax_v g) = (v2.map (ax_v g)).toList ++ st.map (ax_v g) := by cases v2 <;> rfl
  rw [he] at a1
  exact a1
theorem ax_post {p : Program} {e : Env} {R : Room} {s : State} {m : MethodId} {args : Array Value} {below : List Frame} {meth : Method} {c : Code} {cells slots : Nat} {ls : Array Slot} {QQ : State → Prop} {mc' ms' : Nat}
    (C : ax_C g P p s m args meth c) (hh : h ≤ R.frames ∧ 30 * h ≤ R.locals) (hr : cells + (mc + mc') ≤ R.cells ∧ slots + (ms + ms') ≤ R.slots) (hL : ax_L g lv ls ∧ lv.length = P.2.2.1)
    (hK : ∀ (v : Option Value) (M' : ax_M) (H' : Heap) (locs' : List Loc) (cells' slots' pc' : Nat) (ls' : Array Slot), Q v M' → ax_R g M' H' → va_S (ax_A g) s.heap H' locs' → cells' ≤ cells + (mc + mc') ∧ slots' ≤ slots + (ms + ms') → ax_rt P pc' v → W p g.1 e R s m args below meth c H' locs' cells' slots' QQ (F0 m pc' ls' ((ax_rs v []).map (ax_v g))))
    {v : Option Value} {M' : ax_M} {H' : Heap} {locs' : List Loc} {pc2 : Nat} (hq : ax_G g P h mc ms pc2 lv (ax_rs v st) M' Q) (hR : ax_R g M' H') (hS : va_S (ax_A g) s.heap H' locs') : W p g.1 e R s m args below meth c H' locs' (cells + mc') (slots + ms') QQ (F0 m pc2 ls ((ax_rs v st).map (ax_v g))) :=
  hq p e R s m args below meth c H' locs' (cells + mc') (slots + ms') ls QQ C hh ⟨by omega, by omega⟩ hL hR hS (fun v M' H' locs' cells' slots' pc' ls' q1 q2 q3 q4 => hK v M' H' locs' cells' slots' pc' ls' q1 q2 q3 ⟨by omega, by omega⟩)
theorem g_callV {idx a n ci : Nat} {fs stk : List Value} {q0 : vw_C} (vs : List Value) (pc2 : Nat) (hi : P.2.2.2.2 pc = some (.invokevirtual idx, 3)) (hp : pc + 3 = pc2) (hm : ax_MV P.1.cls idx P2 n) (hn : vs.length = n) (hs : stk = vs.reverse ++ .ref a :: st) (hh2 : h2 + 1 ≤ h) (hw : (st.map fun v => v.category).sum ≤ 8) (hen : (ax_ls (.ref a :: vs)).length ≤ P2.2.2.1)
    (hc : ax_cl[ci]? = some q0) (hq0 : q0.1 = P2.1.cls) (hM : M.2 a = some (.inr (ci, fs)))
    (k : ax_G g P2 h2 mc2 ms2 0 (ax_en P2.2.2.1 (.ref a :: vs)) [] M (fun v M' => ax_G g P h mc ms pc2 lv (ax_rs v st) M' Q)) : ax_G g P h (mc + mc2) (ms + ms2) pc lv stk M Q := by
  subst hp
  subst hs
  intro p e R s m args below meth c H locs cells slots ls QQ C hh hr hL hR hS hK
  obtain ⟨ok, pn, w1, w2, w3⟩ := hm
  have hts := C.2.2.2.2.2.1
  have hK0 := C.2.2.2.2.2.2.2.2.2.1
  have hX0 := (C.2.2.2.2.2.2.2.2.2.2.1).kept hS.2.1
  have hMet := ax_met ok hen k
  have hml : ls.size = P.2.2.1 := hL.1.1.trans hL.2
  have ok6 := ok.2.2.2.2.2
  refine ax_run (va_runV (As := vs.map (ax_v g)) (b := g.2.1 + a) (rest := st.map (ax_v g)) (C := P2.1.cls) (nL := P.2.2.1) (Ts := ax_tbl) (own := P.1.cls) (n := n) ⟨C.1, C.2.1, C.2.2.2.1, C.2.2.2.2.1, hts⟩ hMet
    ⟨⟨rfl, rfl, by show h2 + 1 ≤ _; omega, by show 8 + (P2.2.2.1 + 11) + 30 * h2 ≤ _; omega, pay_in hts (ax_goodw P2 ok), List.mem_cons_self, hts _ ok.2.1, hts _ ok.2.2.2.1, ok.2.2.2.2.1, pn.use, hts _ w1⟩, hts _ w2, hts _ w3⟩
    ⟨ax_blind g _ M, by rw [← hq0]; exact va_recv hK0.1 hR.2.2 hc (hR.at hM), fun U hU hW => ⟨rfl, by rw [hU]; exact hR, hK0.warm hW, by rw [hU]; exact hX0.moved hW.alike⟩⟩ rfl (by rw [List.length_map]; exact hn) hml (by simp [ax_v]) (ax_room hw) (C.2.2.2.2.2.2.2.2.1 _ _ _ hi) ⟨by omega, by omega⟩) hS ?_
  exact fun v M' H' locs' hq hR' hS' => ax_post C hh hr hL hK hq hR' hS'
theorem g_callS {idx n : Nat} {stk : List Value} (vs : List Value) (pc2 : Nat) (hi : P.2.2.2.2 pc = some (.invokestatic idx, 3)) (hp : pc + 3 = pc2) (hm : ax_MS P.1.cls idx P2 n) (hn : vs.length = n) (hs : stk = vs.reverse ++ st) (hh2 : h2 + 1 ≤ h) (hw : (st.map fun v => v.category).sum ≤ 8) (hen : (ax_ls vs).length ≤ P2.2.2.1)
    (k : ax_G g P2 h2 mc2 ms2 0 (ax_en P2.2.2.1 vs) [] M (fun v M' => ax_G g P h mc ms pc2 lv (ax_rs v st) M' Q)) : ax_G g P h (mc + mc2) (ms + ms2) pc lv stk M Q := by
  subst hp
  subst hs
  intro p e R s m args below meth c H locs cells slots ls QQ C hh hr hL hR hS hK
  obtain ⟨ok, pn, w1, w2⟩ := hm
  have hts := C.2.2.2.2.2.1
  have hK0 := C.2.2.2.2.2.2.2.2.2.1
  have hX0 := (C.2.2.2.2.2.2.2.2.2.2.1).kept hS.2.1
  have hMet := ax_met ok hen k
  have hml : ls.size = P.2.2.1 := hL.1.1.trans hL.2
  have ok6 := ok.2.2.2.2.2
  refine ax_run (va_runS (As := vs.map (ax_v g)) (rest := st.map (ax_v g)) (nL := P.2.2.1) (Ts := ax_tbl) (own := P.1.cls) (n := n) ⟨C.1, C.2.1, C.2.2.2.1, C.2.2.2.2.1, hts⟩ hMet
    ⟨⟨rfl, rfl, by show h2 + 1 ≤ _; omega, by show 8 + (P2.2.2.1 + 11) + 30 * h2 ≤ _; omega, pay_in hts (ax_goodw P2 ok), List.mem_cons_self, hts _ ok.2.1, hts _ ok.2.2.2.1, ok.2.2.2.2.1, pn.use, hts _ w1⟩, hts _ w2⟩
    ⟨ax_blind g _ M, fun U hU hW => ⟨rfl, by rw [hU]; exact hR, hK0.warm hW, by rw [hU]; exact hX0.moved hW.alike⟩⟩ rfl (by rw [List.length_map]; exact hn) hml (by simp) (ax_room hw) (C.2.2.2.2.2.2.2.2.1 _ _ _ hi) ⟨by omega, by omega⟩) hS ?_
  exact fun v M' H' locs' hq hR' hS' => ax_post C hh hr hL hK hq hR' hS'
theorem g_callSN {idx n : Nat} {stk : List Value} (vs : List Value) (pc2 : Nat) (hi : P.2.2.2.2 pc = some (.invokestatic idx, 3)) (hp : pc + 3 = pc2) (hm : ax_MSN P.1.cls idx P2 n) (hn : vs.length = n) (hs : stk = vs.reverse ++ st) (hh2 : h2 + 1 ≤ h) (hw : (st.map fun v => v.category).sum ≤ 8) (hen : (ax_ls vs).length ≤ P2.2.2.1)
    (k : ax_G g P2 h2 mc2 ms2 0 (ax_en P2.2.2.1 vs) [] M (fun v M' => ax_G g P h mc ms pc2 lv (ax_rs v st) M' Q)) : ax_G g P h (mc + mc2) (ms + ms2) pc lv stk M Q := by
  subst hp
  subst hs
  intro p e R s m args below meth c H locs cells slots ls QQ C hh hr hL hR hS hK
  obtain ⟨ok, pn, w1, w2⟩ := hm
  have hts := C.2.2.2.2.2.1
  have hK0 := C.2.2.2.2.2.2.2.2.2.1
  have hX0 := (C.2.2.2.2.2.2.2.2.2.2.1).kept hS.2.1
  have hMet := ax_met ok hen k
  have hml : ls.size = P.2.2.1 := hL.1.1.trans hL.2
  have ok6 := ok.2.2.2.2.2
  refine ax_run (va_runSN (As := vs.map (ax_v g)) (rest := st.map (ax_v g)) (nL := P.2.2.1) (Ts := ax_tbl) (own := P.1.cls) (host := "AlarmGroups") (n := n) ⟨C.1, C.2.1, C.2.2.2.1, C.2.2.2.2.1, hts⟩ hMet
    ⟨⟨⟨rfl, rfl, by show h2 + 1 ≤ _; omega, by show 8 + (P2.2.2.1 + 11) + 30 * h2 ≤ _; omega, pay_in hts (ax_goodw P2 ok), List.mem_cons_self⟩, hts _ ok.2.1, hts _ ok.2.2.2.1, ok.2.2.2.2.1, pn.use, va_Nw.use rfl (hK0.2.1 _ w1)⟩, hts _ w2, trivial⟩
    ⟨ax_blind g _ M, fun U hU hW => ⟨rfl, by rw [hU]; exact hR, hK0.warm hW, by rw [hU]; exact hX0.moved hW.alike⟩⟩ rfl (by rw [List.length_map]; exact hn) hml (by simp) (ax_room hw) (C.2.2.2.2.2.2.2.2.1 _ _ _ hi) ⟨by omega, by omega⟩) hS ?_
  exact fun v M' H' locs' hq hR' hS' => ax_post C hh hr hL hK hq hR' hS'
theorem g_callI {idx a n : Nat} {stk : List Value} (vs : List Value) (pc2 : Nat) (hi : P.2.2.2.2 pc = some (.invokespecial idx, 3)) (hp : pc + 3 = pc2) (hm : ax_MI P.1.cls idx P2 n) (hn : vs.length = n) (hs : stk = vs.reverse ++ .ref a :: st) (hh2 : h2 + 1 ≤ h) (hw : (st.map fun v => v.category).sum ≤ 8) (hen : (ax_ls (.ref a :: vs)).length ≤ P2.2.2.1)
    (k : ax_G g P2 h2 mc2 ms2 0 (ax_en P2.2.2.1 (.ref a :: vs)) [] M (fun v M' => ax_G g P h mc ms pc2 lv (ax_rs v st) M' Q)) : ax_G g P h (mc + mc2) (ms + ms2) pc lv stk M Q := by
  subst hp
  subst hs
  intro p e R s m args below meth c H locs cells slots ls QQ C hh hr hL hR hS hK
  obtain ⟨ok, pn, w1, w2, w3, w4⟩ := hm
  have hts := C.2.2.2.2.2.1
  have hK0 := C.2.2.2.2.2.2.2.2.2.1
  have hX0 := (C.2.2.2.2.2.2.2.2.2.2.1).kept hS.2.1
  have hMet := ax_met ok hen k
  have hml : ls.size = P.2.2.1 := hL.1.1.trans hL.2
  have ok6 := ok.2.2.2.2.2
  refine ax_run (va_runI (As := vs.map (ax_v g)) (b := g.2.1 + a) (rest := st.map (ax_v g)) (bytes := P2.2.1) (maxL := P2.2.2.1) (nL := P.2.2.1) (Ts := ax_tbl) (own := P.1.cls) (n := n) ⟨C.1, C.2.1, C.2.2.2.1, C.2.2.2.2.1, hts⟩ hMet
    ⟨⟨rfl, rfl, by show h2 + 1 ≤ _; omega, by show 8 + (P2.2.2.1 + 11) + 30 * h2 ≤ _; omega, pay_in hts (ax_goodw P2 ok), by rw [← w4]; exact List.mem_cons_self, by rw [← w4]; exact hts _ ok.2.1, hts _ ok.2.2.2.1, ok.2.2.2.2.1, pn.use, hts _ w1⟩, w3, hts _ w2⟩
    ⟨ax_blind g _ M, fun U hU hW => ⟨rfl, by rw [hU]; exact hR, hK0.warm hW, by rw [hU]; exact hX0.moved hW.alike⟩⟩ rfl (by rw [List.length_map]; exact hn) hml (by simp [ax_v]) (ax_room hw) (C.2.2.2.2.2.2.2.2.1 _ _ _ hi) ⟨by omega, by omega⟩) hS ?_
  exact fun v M' H' locs' hq hR' hS' => ax_post C hh hr hL hK hq hR' hS'
theorem g_callIN {idx a n : Nat} {stk : List Value} (vs : List Value) (pc2 : Nat) (hi : P.2.2.2.2 pc = some (.invokespecial idx, 3)) (hp : pc + 3 = pc2) (hm : ax_MIN P.1.cls idx P2 n) (hn : vs.length = n) (hs : stk = vs.reverse ++ .ref a :: st) (hh2 : h2 + 1 ≤ h) (hw : (st.map fun v => v.category).sum ≤ 8) (hen : (ax_ls (.ref a :: vs)).length ≤ P2.2.2.1)
    (k : ax_G g P2 h2 mc2 ms2 0 (ax_en P2.2.2.1 (.ref a :: vs)) [] M (fun v M' => ax_G g P h mc ms pc2 lv (ax_rs v st) M' Q)) : ax_G g P h (mc + mc2) (ms + ms2) pc lv stk M Q := by
  subst hp
  subst hs
  intro p e R s m args below meth c H locs cells slots ls QQ C hh hr hL hR hS hK
  obtain ⟨ok, pn, w1, w2, w3, w4⟩ := hm
  have hts := C.2.2.2.2.2.1
  have hK0 := C.2.2.2.2.2.2.2.2.2.1
  have hX0 := (C.2.2.2.2.2.2.2.2.2.2.1).kept hS.2.1
  have hMet := ax_met ok hen k
  have hml : ls.size = P.2.2.1 := hL.1.1.trans hL.2
  have ok6 := ok.2.2.2.2.2
  refine ax_run (va_runIN (As := vs.map (ax_v g)) (b := g.2.1 + a) (rest := st.map (ax_v g)) (bytes := P2.2.1) (maxL := P2.2.2.1) (nL := P.2.2.1) (Ts := ax_tbl) (own := P.1.cls) (host := "AlarmGroups") (n := n) ⟨C.1, C.2.1, C.2.2.2.1, C.2.2.2.2.1, hts⟩ hMet
    ⟨⟨⟨rfl, rfl, by show h2 + 1 ≤ _; omega, by show 8 + (P2.2.2.1 + 11) + 30 * h2 ≤ _; omega, pay_in hts (ax_goodw P2 ok), by rw [← w4]; exact List.mem_cons_self⟩, by rw [← w4]; exact hts _ ok.2.1, hts _ ok.2.2.2.1, ok.2.2.2.2.1, pn.use, va_Nw.use rfl (hK0.2.1 _ w1)⟩, w3, hts _ w2⟩
    ⟨ax_blind g _ M, fun U hU hW => ⟨rfl, by rw [hU]; exact hR, hK0.warm hW, by rw [hU]; exact hX0.moved hW.alike⟩⟩ rfl (by rw [List.length_map]; exact hn) hml (by simp [ax_v]) (ax_room hw) (C.2.2.2.2.2.2.2.2.1 _ _ _ hi) ⟨by omega, by omega⟩) hS ?_
  exact fun v M' H' locs' hq hR' hS' => ax_post C hh hr hL hK hq hR' hS'
theorem s_objInit {idx a : Nat} (pc2 : Nat) (hi : P.2.2.2.2 pc = some (.invokespecial idx, 3)) (hp : pc + 3 = pc2) (w1 : Cond.methodLink P.1.cls idx objectInit ∈ ax_tbl) (w2 : Cond.instanceMethod objectInit ∈ ax_tbl) (w3 : Cond.code objectInit ⟨#[0xb1]⟩ 1 none ∈ ax_tbl) (hh1 : 1 ≤ h) (hw : (st.map fun v => v.category).sum ≤ 8) (k : ax_G g P h mc ms pc2 lv st M Q) : ax_G g P h mc ms pc lv (.ref a :: st) M Q := by
  subst hp
  intro p e R s m args below meth c H locs cells slots ls QQ C hh hr hL hR hS hK
  have hts := C.2.2.2.2.2.1
  have hrm := ax_room (g := g) (pc := pc) (m := m) (ls := ls) (rest := []) hw
  exact W.objInit C.1 C.2.1 C.2.2.2.2.1 (hts _ w1) (hts _ w2) (hts _ w3) rfl (by rw [C.2.2.2.1]; exact hL.1.1.trans hL.2) rfl (C.2.2.2.2.2.2.2.2.1 _ _ _ hi) (by omega) (Nat.le_trans (Nat.add_le_add_right hrm 12) (by omega)) (k p e R s m args below meth c H locs cells slots ls QQ C hh hr hL hR hS hK)
end AXC
