/-! String.charAt and String.length over the constant texts -/
def tr_String_checkIndex (pc : Nat) : Option (Instr × Nat) := (bif Nat.blt pc 5 then (bif Nat.blt pc 1 then (bif Nat.beq pc 0 then some (.iload_n 0, 1) else none) else (bif Nat.blt pc 2 then (bif Nat.beq pc 1 then some (.iload_n 1, 1) else none) else (bif Nat.beq pc 2 then some (.getstatic 1053, 3) else none))) else (bif Nat.blt pc 8 then (bif Nat.beq pc 5 then some (.invokestatic 1059, 3) else none) else (bif Nat.blt pc 9 then (bif Nat.beq pc 8 then some (.pop, 1) else none) else (bif Nat.beq pc 9 then some (.return_, 1) else none))))
def mt_String_checkIndex : ax_P := (⟨"java/lang/String", "checkIndex", "(II)V"⟩, prog_17_method_155_code, 2, none, ax_tr 10 tr_String_checkIndex)
theorem ok_String_checkIndex : ax_ok mt_String_checkIndex := ⟨ax_dc (b := prog_17_method_155_code) (N := 10) (t := tr_String_checkIndex) (by decide +kernel), ax_in (by decide +kernel) rfl, by decide, ax_in (by decide +kernel) rfl, by decide, by decide⟩
def tr_Pre_checkIndex (pc : Nat) : Option (Instr × Nat) := (bif Nat.blt pc 10 then (bif Nat.blt pc 5 then (bif Nat.blt pc 1 then (bif Nat.beq pc 0 then some (.iload_n 0, 1) else none) else (bif Nat.blt pc 4 then (bif Nat.beq pc 1 then some (.ifCond .lt 8, 3) else none) else (bif Nat.beq pc 4 then some (.iload_n 0, 1) else none))) else (bif Nat.blt pc 6 then (bif Nat.beq pc 5 then some (.iload_n 1, 1) else none) else (bif Nat.blt pc 9 then (bif Nat.beq pc 6 then some (.if_icmp .lt 10, 3) else none) else (bif Nat.beq pc 9 then some (.aload_n 2, 1) else none)))) else (bif Nat.blt pc 15 then (bif Nat.blt pc 11 then (bif Nat.beq pc 10 then some (.iload_n 0, 1) else none) else (bif Nat.blt pc 12 then (bif Nat.beq pc 11 then some (.iload_n 1, 1) else none) else (bif Nat.beq pc 12 then some (.invokestatic 95, 3) else none))) else (bif Nat.blt pc 16 then (bif Nat.beq pc 15 then some (.athrow, 1) else none) else (bif Nat.blt pc 17 then (bif Nat.beq pc 16 then some (.iload_n 0, 1) else none) else (bif Nat.beq pc 17 then some (.ireturn, 1) else none)))))
def mt_Pre_checkIndex : ax_P := (⟨"jdk/internal/util/Preconditions", "checkIndex", "(IILjava/util/function/BiFunction;)I"⟩, prog_21_method_11_code, 3, (some .int), ax_tr 18 tr_Pre_checkIndex)
theorem ok_Pre_checkIndex : ax_ok mt_Pre_checkIndex := ⟨ax_dc (b := prog_21_method_11_code) (N := 18) (t := tr_Pre_checkIndex) (by decide +kernel), ax_in (by decide +kernel) rfl, by decide, ax_in (by decide +kernel) rfl, by decide, by decide⟩
theorem mv_String_335 : ax_MV "java/lang/String" 335 mt_String_coder 0 := ⟨ok_String_coder, by unfold ax_pn; decide +kernel, ax_in (by decide +kernel) rfl, ax_in (by decide +kernel) rfl, ax_in (by decide +kernel) rfl⟩
theorem mv_String_492 : ax_MV "java/lang/String" 492 mt_String_isLatin1 0 := ⟨ok_String_isLatin1, by unfold ax_pn; decide +kernel, ax_in (by decide +kernel) rfl, ax_in (by decide +kernel) rfl, ax_in (by decide +kernel) rfl⟩
theorem mv_String_495 : ax_MS "java/lang/String" 495 mt_StringLatin1_charAt 2 := ⟨ok_StringLatin1_charAt, by unfold ax_pn; decide +kernel, ax_in (by decide +kernel) rfl, ax_in (by decide +kernel) rfl⟩
theorem mv_StringLatin1_9 : ax_MS "java/lang/StringLatin1" 9 mt_String_checkIndex 2 := ⟨ok_String_checkIndex, by unfold ax_pn; decide +kernel, ax_in (by decide +kernel) rfl, ax_in (by decide +kernel) rfl⟩
theorem mv_String_1059 : ax_MS "java/lang/String" 1059 mt_Pre_checkIndex 3 := ⟨ok_Pre_checkIndex, by unfold ax_pn; decide +kernel, ax_in (by decide +kernel) rfl, ax_in (by decide +kernel) rfl⟩
theorem sf_String_38 : Cond.fieldLink "java/lang/String" 38 "java/lang/String" "COMPACT_STRINGS" "Z" ∈ ax_tbl := ax_in (by decide +kernel) rfl
theorem sf_String_15 : Cond.fieldLink "java/lang/String" 15 "java/lang/String" "coder" "B" ∈ ax_tbl := ax_in (by decide +kernel) rfl
theorem sf_String_9 : Cond.fieldLink "java/lang/String" 9 "java/lang/String" "value" "[B" ∈ ax_tbl := ax_in (by decide +kernel) rfl
theorem sf_String_1053 : Cond.fieldLink "java/lang/String" 1053 "jdk/internal/util/Preconditions" "SIOOBE_FORMATTER" "Ljava/util/function/BiFunction;" ∈ ax_tbl := ax_in (by decide +kernel) rfl
/-- byte j of text i -/
def sb_ (i j : Nat) : Int32 := (ax_sby.getD i []).getD j 0
section TXT
variable {g : ax_Y} {P P2 : ax_P} {h h2 mc ms mc2 ms2 pc : Nat} {lv st : List Value} {M : ax_M} {Q : Option Value → ax_M → Prop}
theorem s_getsZ (pc2 : Nat) (hi : P.2.2.2.2 pc = some (.getstatic 38, 3)) (hp : pc + 3 = pc2) (hc : P.1.cls = "java/lang/String") (kk : ax_G g P h mc ms pc2 lv (.int 1 :: st) M Q) : ax_G g P h mc ms pc lv st M Q := by
  subst hp
  intro p e R s m args below meth c H locs cells slots ls QQ C hh hr hL hR hS hK
  obtain ⟨-, -, -, -, hf, hts, -, -, hd, -, hX, -⟩ := id C
  rw [hc] at hf
  exact va_gets (A := ax_A g) C.1 C.2.1 hX.2.1 hS hf (hts _ sf_String_38) (fun _ h9 => h9) (hd _ _ _ hi) (kk p e R s m args below meth c H locs cells slots ls QQ C hh hr hL hR hS hK)
theorem s_getsF (pc2 : Nat) (hi : P.2.2.2.2 pc = some (.getstatic 1053, 3)) (hp : pc + 3 = pc2) (hc : P.1.cls = "java/lang/String") (kk : ∀ v, (v = .null ∨ v = .retAddr 11) → ax_G g P h mc ms pc2 lv (v :: st) M Q) : ax_G g P h mc ms pc lv st M Q := by
  subst hp
  intro p e R s m args below meth c H locs cells slots ls QQ C hh hr hL hR hS hK
  obtain ⟨-, -, -, -, hf, hts, -, -, hd, -, hX, -⟩ := id C
  rw [hc] at hf
  rcases hX.1.2.1 with hZ | hZ
  · exact va_gets (A := ax_A g) C.1 C.2.1 hZ hS hf (hts _ sf_String_1053) (fun _ h9 => h9) (hd _ _ _ hi) (kk _ (Or.inl rfl) p e R s m args below meth c H locs cells slots ls QQ C hh hr hL hR hS hK)
  · exact va_gets (A := ax_A g) C.1 C.2.1 hZ hS hf (hts _ sf_String_1053) (fun _ h9 => h9) (hd _ _ _ hi) (kk _ (Or.inr rfl) p e R s m args below meth c H locs cells slots ls QQ C hh hr hL hR hS hK)
theorem s_getfC {i : Nat} (pc2 : Nat) (hi : P.2.2.2.2 pc = some (.getfield 15, 3)) (hp : pc + 3 = pc2) (hc : P.1.cls = "java/lang/String") (h10 : i < 10) (kk : ax_G g P h mc ms pc2 lv (.int 0 :: st) M Q) : ax_G g P h mc ms pc lv (.retAddr i :: st) M Q := by
  subst hp
  intro p e R s m args below meth c H locs cells slots ls QQ C hh hr hL hR hS hK
  obtain ⟨-, -, -, -, hf, hts, -, -, hd, -, hX, -⟩ := id C
  rw [hc] at hf
  exact vk_getf (A := ax_A g) C.1 C.2.1 (hX.1.1.1 i h10).2.1 hS hf (hts _ sf_String_15) (fun _ h9 => h9) (hd _ _ _ hi) (kk p e R s m args below meth c H locs cells slots ls QQ C hh hr hL hR hS hK)
theorem s_getfV {i : Nat} (pc2 : Nat) (hi : P.2.2.2.2 pc = some (.getfield 9, 3)) (hp : pc + 3 = pc2) (hc : P.1.cls = "java/lang/String") (h10 : i < 10) (kk : ax_G g P h mc ms pc2 lv (.retAddr (12 + i) :: st) M Q) : ax_G g P h mc ms pc lv (.retAddr i :: st) M Q := by
  subst hp
  intro p e R s m args below meth c H locs cells slots ls QQ C hh hr hL hR hS hK
  obtain ⟨-, -, -, -, hf, hts, -, -, hd, -, hX, -⟩ := id C
  rw [hc] at hf
  have hE := (hX.1.1.1 i h10).2.2.1
  rw [← hX.1.2.2 i h10] at hE
  exact vk_getf (A := ax_A g) C.1 C.2.1 hE hS hf (hts _ sf_String_9) (fun _ h9 => h9) (hd _ _ _ hi) (kk p e R s m args below meth c H locs cells slots ls QQ C hh hr hL hR hS hK)
theorem s_tlen {i : Nat} (pc2 : Nat) (hi : P.2.2.2.2 pc = some (.arraylength, 1)) (hp : pc + 1 = pc2) (h10 : i < 10) (kk : ax_G g P h mc ms pc2 lv (.int (nI (ax_sln.getD i 0)) :: st) M Q) : ax_G g P h mc ms pc lv (.retAddr (12 + i) :: st) M Q := by
  subst hp
  intro p e R s m args below meth c H locs cells slots ls QQ C hh hr hL hR hS hK
  obtain ⟨-, -, -, -, -, -, -, -, hd, -, hX, -⟩ := id C
  have hT := (hX.1.1.1 i h10).2.2.2
  rw [← hX.1.2.2 i h10] at hT
  exact va_tlen (A := ax_A g) C.1 C.2.1 hT hS rfl (hd _ _ _ hi) (kk p e R s m args below meth c H locs cells slots ls QQ C hh hr hL hR hS hK)
theorem s_tload {i j : Nat} {x : Int32} (pc2 : Nat) (hi : P.2.2.2.2 pc = some (.baload, 1)) (hp : pc + 1 = pc2) (h10 : i < 10) (hx : x = nI j) (hj : j < ax_sln.getD i 0) (hn : ax_sln.getD i 0 < 2147483648) (kk : ax_G g P h mc ms pc2 lv (.int (sb_ i j) :: st) M Q) : ax_G g P h mc ms pc lv (.int x :: .retAddr (12 + i) :: st) M Q := by
  subst hp
  intro p e R s m args below meth c H locs cells slots ls QQ C hh hr hL hR hS hK
  obtain ⟨-, -, -, -, -, -, -, -, hd, -, hX, -⟩ := id C
  have hT := (hX.1.1.1 i h10).2.2.2
  rw [← hX.1.2.2 i h10] at hT
  obtain ⟨v1, v2⟩ := ax_in_nI hx hj hn
  exact va_tb (A := ax_A g) C.1 C.2.1 hT hS v1 (v := .int (sb_ i j)) (by rw [v2]; rfl) (hd _ _ _ hi) (kk p e R s m args below meth c H locs cells slots ls QQ C hh hr hL hR hS hK)
theorem g_callVS {idx i n : Nat} {stk : List Value} (vs : List Value) (pc2 : Nat) (hi : P.2.2.2.2 pc = some (.invokevirtual idx, 3)) (hp : pc + 3 = pc2) (hm : ax_MV P.1.cls idx P2 n) (hn : vs.length = n) (hs : stk = vs.reverse ++ .retAddr i :: st) (hh2 : h2 + 1 ≤ h) (hw : (st.map fun v => v.category).sum ≤ 8) (hen : (ax_ls (.retAddr i :: vs)).length ≤ P2.2.2.1) (h10 : i < 10) (hcl : P2.1.cls = "java/lang/String") (k : ax_G g P2 h2 mc2 ms2 0 (ax_en P2.2.2.1 (.retAddr i :: vs)) [] M (fun v M' => ax_G g P h mc ms pc2 lv (ax_rs v st) M' Q)) : ax_G g P h (mc + mc2) (ms + ms2) pc lv stk M Q := by
  subst hp
  subst hs
  intro p e R s m args below meth c H locs cells slots ls QQ C hh hr hL hR hS hK
  obtain ⟨ok, pn, w1, w2, w3⟩ := hm
  have hts := C.2.2.2.2.2.1
  have hK0 := C.2.2.2.2.2.2.2.2.2.1
  have hX1 := C.2.2.2.2.2.2.2.2.2.2.1
  have hX0 := (C.2.2.2.2.2.2.2.2.2.2.1).kept hS.2.1
  have hMet := ax_met ok hen k
  have hml : ls.size = P.2.2.1 := hL.1.1.trans hL.2
  have ok6 := ok.2.2.2.2.2
  refine ax_run (va_runV (As := vs.map (ax_v g)) (b := g.2.2.2.2.1 i) (rest := st.map (ax_v g)) (C := P2.1.cls) (nL := P.2.2.1) (Ts := ax_tbl) (own := P.1.cls) (n := n) ⟨C.1, C.2.1, C.2.2.2.1, C.2.2.2.2.1, hts⟩ hMet
    ⟨⟨rfl, rfl, by show h2 + 1 ≤ _; omega, by show 8 + (P2.2.2.1 + 11) + 30 * h2 ≤ _; omega, pay_in hts (ax_goodw P2 ok), List.mem_cons_self, hts _ ok.2.1, hts _ ok.2.2.2.1, ok.2.2.2.2.1, pn.use, hts _ w1⟩, hts _ w2, hts _ w3⟩
    ⟨ax_blind g _ M, by rw [hcl]; exact vk_recv hX1.1.1 h10 hS, fun U hU hW => ⟨rfl, by rw [hU]; exact hR, hK0.warm hW, by rw [hU]; exact hX0.moved hW.alike⟩⟩ rfl (by rw [List.length_map]; exact hn) hml (by simp [ax_v]) (ax_room hw) (C.2.2.2.2.2.2.2.2.1 _ _ _ hi) ⟨by omega, by omega⟩) hS ?_
  exact fun v M' H' locs' hq hR' hS' => ax_post C hh hr hL hK hq hR' hS'
theorem c_text0 {idx i : Nat} (h2 pc2 : Nat) (hi : P.2.2.2.2 pc = some (.invokevirtual idx, 3)) (hp : pc + 3 = pc2) (hm : ax_MV P.1.cls idx P2 0) (hh2 : h2 + 1 ≤ h) (hw : (st.map fun v => v.category).sum ≤ 8) (hen : (ax_ls [.retAddr i]).length ≤ P2.2.2.1) (h10 : i < 10) (hcl : P2.1.cls = "java/lang/String") (k : ax_G g P2 h2 0 0 0 (ax_en P2.2.2.1 [.retAddr i]) [] M (fun v M' => ax_G g P h 0 0 pc2 lv (ax_rs v st) M' Q)) : ax_G g P h 0 0 pc lv (.retAddr i :: st) M Q := g_callVS (mc := 0) (ms := 0) (mc2 := 0) (ms2 := 0) (h2 := h2) [] pc2 hi hp hm rfl rfl hh2 hw hen h10 hcl k
theorem c_text1 {idx i : Nat} {v1 : Value} (h2 pc2 : Nat) (hi : P.2.2.2.2 pc = some (.invokevirtual idx, 3)) (hp : pc + 3 = pc2) (hm : ax_MV P.1.cls idx P2 1) (hh2 : h2 + 1 ≤ h) (hw : (st.map fun v => v.category).sum ≤ 8) (hen : (ax_ls [.retAddr i, v1]).length ≤ P2.2.2.1) (h10 : i < 10) (hcl : P2.1.cls = "java/lang/String") (k : ax_G g P2 h2 0 0 0 (ax_en P2.2.2.1 [.retAddr i, v1]) [] M (fun v M' => ax_G g P h 0 0 pc2 lv (ax_rs v st) M' Q)) : ax_G g P h 0 0 pc lv (v1 :: .retAddr i :: st) M Q := g_callVS (mc := 0) (ms := 0) (mc2 := 0) (ms2 := 0) (h2 := h2) [v1] pc2 hi hp hm rfl rfl hh2 hw hen h10 hcl k
theorem m_Pre_checkIndex {j n : Nat} {v : Value} (hj : j < n) (hn : n < 65536) (hq : Q (some (.int (nI j))) M) : ax_G g mt_Pre_checkIndex h 0 0 0 [.int (nI j), .int (nI n), v] [] M Q := by
  refine s_iload_n 1 rfl rfl rfl ?_
  refine s_if_lt 9 4 rfl rfl (by decide) (fun c1 => ?_) (fun c1 => ?_)
  · exact absurd c1 (nI_pos (by omega))
  · refine s_iload_n 5 rfl rfl rfl ?_
    refine s_iload_n 6 rfl rfl rfl ?_
    refine s_icmp_lt 16 9 rfl rfl (by decide) (fun c2 => ?_) (fun c2 => ?_)
    · refine s_iload_n 17 rfl rfl rfl ?_
      exact s_ireturn rfl .int rfl rfl hq
    · exact absurd ((nI_ltI (by omega) (by omega)).mpr hj) c2
theorem m_String_checkIndex {j n : Nat} (hj : j < n) (hn : n < 65536) (hq : Q none M) : ax_G g mt_String_checkIndex (h + 1) 0 0 0 [.int (nI j), .int (nI n)] [] M Q := by
  refine s_iload_n 1 rfl rfl rfl ?_
  refine s_iload_n 2 rfl rfl rfl ?_
  refine s_getsF 5 rfl rfl rfl (fun v hv => ?_)
  have cv : (ax_ls [.int (nI j), .int (nI n), v]).length ≤ 3 ∧ ax_en 3 [.int (nI j), .int (nI n), v] = [.int (nI j), .int (nI n), v] := by
    rcases hv with rfl | rfl
    · exact ⟨Nat.le_refl 3, rfl⟩
    · exact ⟨Nat.le_refl 3, rfl⟩
  refine g_callS (mc := 0) (ms := 0) (mc2 := 0) (ms2 := 0) (h2 := h) (P2 := mt_Pre_checkIndex) (st := []) [.int (nI j), .int (nI n), v] 8 rfl rfl mv_String_1059 rfl rfl (by omega) (by decide) cv.1 ?_
  show ax_G g mt_Pre_checkIndex h 0 0 0 (ax_en 3 [.int (nI j), .int (nI n), v]) [] M _
  rw [cv.2]
  refine m_Pre_checkIndex hj hn ?_
  dsimp only [ax_rs]
  refine s_pop 9 rfl rfl rfl ?_
  exact s_return rfl rfl hq
theorem sb_c : ∀ i, i < 10 → ∀ j, j < ax_sln.getD i 0 → ((sb_ i j &&& 255).toUInt32 % 65536).toInt32 = sb_ i j ∧ narrow .char (.int (sb_ i j)) = .int (sb_ i j) := by decide +kernel
theorem sl_c : ∀ i, i < 10 → ax_sln.getD i 0 < 8 ∧ nI (ax_sln.getD i 0) >>> ((0 : Int32) &&& 31) = nI (ax_sln.getD i 0) := by decide +kernel
theorem m_StringLatin1_charAt {i j : Nat} (h10 : i < 10) (hj : j < ax_sln.getD i 0) (hq : Q (some (.int (sb_ i j))) M) : ax_G g mt_StringLatin1_charAt (h + 2) 0 0 0 [.retAddr (12 + i), .int (nI j)] [] M Q := by
  have l8 := (sl_c i h10).1
  obtain ⟨e1, e2⟩ := sb_c i h10 j hj
  refine s_iload_n 1 rfl rfl rfl ?_
  refine s_xload_n 2 rfl rfl rfl ?_
  refine s_tlen 3 rfl rfl h10 ?_
  refine c_callS2 (h + 1) 6 rfl rfl mv_StringLatin1_9 (by omega) (Nat.le_of_ble_eq_true rfl) (Nat.le_of_ble_eq_true rfl) ?_
  refine m_String_checkIndex hj (by omega) ?_
  dsimp only [ax_rs]
  refine s_xload_n 7 rfl rfl rfl ?_
  refine s_iload_n 8 rfl rfl rfl ?_
  refine s_tload 9 rfl rfl h10 rfl hj (by omega) ?_
  refine s_sipush 255 12 rfl rfl (by decide) ?_
  refine s_iand 13 rfl rfl ?_
  refine s_i2c 14 rfl rfl ?_
  rw [e1]
  exact s_ireturn rfl .char rfl e2 hq
theorem m_String_isLatin1 {i : Nat} (h10 : i < 10) (hq : Q (some (.int 1)) M) : ax_G g mt_String_isLatin1 h 0 0 0 [.retAddr i] [] M Q := by
  refine s_getsZ 3 rfl rfl rfl ?_
  refine s_if_eq 17 6 rfl rfl (by decide) (fun c1 => absurd c1 (by decide)) (fun c1 => ?_)
  refine s_xload_n 7 rfl rfl rfl ?_
  refine s_getfC 10 rfl rfl rfl h10 ?_
  refine s_if_ne 17 13 rfl rfl (by decide) (fun c2 => absurd rfl c2) (fun c2 => ?_)
  refine s_iconst 1 14 rfl rfl (by decide) ?_
  refine s_goto 18 rfl (by decide) ?_
  exact s_ireturn rfl .boolean rfl rfl hq
theorem m_String_charAt {i j : Nat} (h10 : i < 10) (hj : j < ax_sln.getD i 0) (hq : Q (some (.int (sb_ i j))) M) : ax_G g mt_String_charAt (h + 3) 0 0 0 [.retAddr i, .int (nI j)] [] M Q := by
  obtain ⟨e1, e2⟩ := sb_c i h10 j hj
  refine s_xload_n 1 rfl rfl rfl ?_
  refine c_text0 (h + 2) 4 rfl rfl mv_String_492 (by omega) (Nat.le_of_ble_eq_true rfl) (Nat.le_of_ble_eq_true rfl) h10 rfl ?_
  refine m_String_isLatin1 h10 ?_
  dsimp only [ax_rs]
  refine s_if_eq 16 7 rfl rfl (by decide) (fun c1 => absurd c1 (by decide)) (fun c1 => ?_)
  refine s_xload_n 8 rfl rfl rfl ?_
  refine s_getfV 11 rfl rfl rfl h10 ?_
  refine s_iload_n 12 rfl rfl rfl ?_
  refine c_callS2 (h + 2) 15 rfl rfl mv_String_495 (by omega) (Nat.le_of_ble_eq_true rfl) (Nat.le_of_ble_eq_true rfl) ?_
  refine m_StringLatin1_charAt (h := h) h10 hj ?_
  dsimp only [ax_rs]
  exact s_ireturn rfl .char rfl e2 hq
theorem m_String_coder {i : Nat} (h10 : i < 10) (hq : Q (some (.int 0)) M) : ax_G g mt_String_coder h 0 0 0 [.retAddr i] [] M Q := by
  refine s_getsZ 3 rfl rfl rfl ?_
  refine s_if_eq 13 6 rfl rfl (by decide) (fun c1 => absurd c1 (by decide)) (fun c1 => ?_)
  refine s_xload_n 7 rfl rfl rfl ?_
  refine s_getfC 10 rfl rfl rfl h10 ?_
  refine s_goto 14 rfl (by decide) ?_
  exact s_ireturn rfl .byte rfl rfl hq
theorem m_String_length {i : Nat} (h10 : i < 10) (hq : Q (some (.int (nI (ax_sln.getD i 0)))) M) : ax_G g mt_String_length (h + 1) 0 0 0 [.retAddr i] [] M Q := by
  refine s_xload_n 1 rfl rfl rfl ?_
  refine s_getfV 4 rfl rfl rfl h10 ?_
  refine s_tlen 5 rfl rfl h10 ?_
  refine s_xload_n 6 rfl rfl rfl ?_
  refine c_text0 h 9 rfl rfl mv_String_335 (by omega) (Nat.le_of_ble_eq_true rfl) (Nat.le_of_ble_eq_true rfl) h10 rfl ?_
  refine m_String_coder h10 ?_
  dsimp only [ax_rs]
  refine s_ishr 10 rfl rfl ?_
  rw [(sl_c i h10).2]
  exact s_ireturn rfl .int rfl rfl hq
end TXT
