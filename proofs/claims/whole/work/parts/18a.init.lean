/-! The two constructors. -/
/-- the cells behind both constructors (23, 75, 76 apart) -/
def wt_0 : List ax_E := [.inr (11, [.ref 1, .ref 3, .ref 5, .ref 9, .ref 16, .ref 22, .ref 69, .ref 73, .ref 75, .ref 76, .ref 77, .ref 78, .ref 79, .ref 83, .int 0, .int 0]), .inr (7, [.ref 2, .int 0]), .inl (1, 160, .inl (fun _ => 0)), .inr (7, [.ref 4, .int 0]), .inl (1, 800, .inl (fun _ => 0)), .inr (4, [.ref 6, .ref 7, .ref 8, .int 0, .int 0]), .inl (0, 40, .inl (fun _ => 0)), .inl (0, 40, .inl (fun _ => 0)), .inl (0, 1681, .inl (fun _ => 0)), .inr (0, [.ref 10, .ref 11, .ref 12, .ref 13, .ref 14, .ref 15, .int 0]), .inl (0, 50, .inl (fun _ => 0)), .inl (0, 50, .inl (fun _ => 0)), .inl (0, 50, .inl (fun _ => 0)), .inl (0, 50, .inl (fun _ => 0)), .inl (0, 50, .inl (fun _ => 0)), .inl (0, 50, .inl (fun _ => 0)), .inr (1, [.ref 17, .ref 18, .int 0, .int 0, .ref 19, .ref 20, .ref 21, .int 0]), .inl (0, 17, .inl (fun _ => 0)), .inl (3, 17, .inr (.inl (fun _ => 0))), .inl (0, 20, .inl (fun _ => 0)), .inl (0, 20, .inl (fun _ => 0)), .inl (3, 16, .inr (.inl (fun _ => 0))), .inr (9, [.ref 23, .int 0, .ref 24])]
def wt_1 : List ax_E := [.inr (0, []), .inr (10, [.ref 25, .ref 27, .ref 28, .ref 29, .int 0, .int 0]), .inr (7, [.ref 26, .int 0]), .inl (1, 160, .inl (fun _ => 0)), .inl (0, 161, .inl (fun _ => 0)), .inl (0, 161, .inl (fun _ => 0)), .inl (0, 161, .inl (fun _ => 0)), .inr (8, [.int 0, .int 0, .int 0, .int 0, .long 0, .ref 31]), .inr (7, [.ref 32, .int 0]), .inl (1, 20, .inl (fun _ => 0)), .inr (8, [.int 0, .int 0, .int 0, .int 0, .long 0, .ref 34]), .inr (7, [.ref 35, .int 0]), .inl (1, 20, .inl (fun _ => 0)), .inr (8, [.int 0, .int 0, .int 0, .int 0, .long 0, .ref 37]), .inr (7, [.ref 38, .int 0]), .inl (1, 20, .inl (fun _ => 0)), .inr (8, [.int 0, .int 0, .int 0, .int 0, .long 0, .ref 40]), .inr (7, [.ref 41, .int 0]), .inl (1, 20, .inl (fun _ => 0)), .inr (8, [.int 0, .int 0, .int 0, .int 0, .long 0, .ref 43]), .inr (7, [.ref 44, .int 0]), .inl (1, 20, .inl (fun _ => 0)), .inr (8, [.int 0, .int 0, .int 0, .int 0, .long 0, .ref 46])]
def wt_2 : List ax_E := [.inr (7, [.ref 47, .int 0]), .inl (1, 20, .inl (fun _ => 0)), .inr (8, [.int 0, .int 0, .int 0, .int 0, .long 0, .ref 49]), .inr (7, [.ref 50, .int 0]), .inl (1, 20, .inl (fun _ => 0)), .inr (8, [.int 0, .int 0, .int 0, .int 0, .long 0, .ref 52]), .inr (7, [.ref 53, .int 0]), .inl (1, 20, .inl (fun _ => 0)), .inr (8, [.int 0, .int 0, .int 0, .int 0, .long 0, .ref 55]), .inr (7, [.ref 56, .int 0]), .inl (1, 20, .inl (fun _ => 0)), .inr (8, [.int 0, .int 0, .int 0, .int 0, .long 0, .ref 58]), .inr (7, [.ref 59, .int 0]), .inl (1, 20, .inl (fun _ => 0)), .inr (8, [.int 0, .int 0, .int 0, .int 0, .long 0, .ref 61]), .inr (7, [.ref 62, .int 0]), .inl (1, 20, .inl (fun _ => 0)), .inr (8, [.int 0, .int 0, .int 0, .int 0, .long 0, .ref 64]), .inr (7, [.ref 65, .int 0]), .inl (1, 20, .inl (fun _ => 0)), .inr (8, [.int 0, .int 0, .int 0, .int 0, .long 0, .ref 67]), .inr (7, [.ref 68, .int 0]), .inl (1, 20, .inl (fun _ => 0))]
def wt_3 : List ax_E := [.inr (6, [.ref 70, .ref 71, .int 0, .int 0, .ref 72]), .inl (0, 50, .inl (fun _ => 0)), .inl (0, 50, .inl (fun _ => 0)), .inl (0, 6, .inl (fun _ => 0)), .inr (3, [.ref 74, .int 0]), .inl (0, 4, .inl (fun _ => 0)), .inr (0, []), .inr (0, []), .inl (0, 8, .inl (fun _ => 0)), .inl (3, 48, .inr (.inl (fun _ => 0))), .inr (2, [.ref 80, .ref 81, .ref 82, .int 0]), .inl (0, 40, .inl (fun _ => 0)), .inl (0, 40, .inl (fun _ => 0)), .inl (0, 40, .inl (fun _ => 0)), .inr (2, [.ref 84, .ref 85, .ref 86, .int 0]), .inl (0, 40, .inl (fun _ => 0)), .inl (0, 40, .inl (fun _ => 0)), .inl (0, 40, .inl (fun _ => 0)), .inr (5, [.ref 88, .ref 90, .int 0]), .inr (7, [.ref 89, .int 0]), .inl (1, 24, .inl (fun _ => 0)), .inl (0, 25, .inl (fun _ => 0)), .inr (5, [.ref 92, .ref 94, .int 0])]
def wt_4 : List ax_E := [.inr (7, [.ref 93, .int 0]), .inl (1, 24, .inl (fun _ => 0)), .inl (0, 25, .inl (fun _ => 0)), .inr (5, [.ref 96, .ref 98, .int 0]), .inr (7, [.ref 97, .int 0]), .inl (1, 24, .inl (fun _ => 0)), .inl (0, 25, .inl (fun _ => 0)), .inr (5, [.ref 100, .ref 102, .int 0]), .inr (7, [.ref 101, .int 0]), .inl (1, 24, .inl (fun _ => 0)), .inl (0, 25, .inl (fun _ => 0)), .inr (5, [.ref 104, .ref 106, .int 0]), .inr (7, [.ref 105, .int 0]), .inl (1, 24, .inl (fun _ => 0)), .inl (0, 25, .inl (fun _ => 0)), .inr (5, [.ref 108, .ref 110, .int 0]), .inr (7, [.ref 109, .int 0]), .inl (1, 24, .inl (fun _ => 0)), .inl (0, 25, .inl (fun _ => 0)), .inr (5, [.ref 112, .ref 114, .int 0]), .inr (7, [.ref 113, .int 0]), .inl (1, 24, .inl (fun _ => 0)), .inl (0, 25, .inl (fun _ => 0))]
def wt_5 : List ax_E := [.inr (5, [.ref 116, .ref 118, .int 0]), .inr (7, [.ref 117, .int 0]), .inl (1, 24, .inl (fun _ => 0)), .inl (0, 25, .inl (fun _ => 0)), .inr (5, [.ref 120, .ref 122, .int 0]), .inr (7, [.ref 121, .int 0]), .inl (1, 24, .inl (fun _ => 0)), .inl (0, 25, .inl (fun _ => 0)), .inr (5, [.ref 124, .ref 126, .int 0]), .inr (7, [.ref 125, .int 0]), .inl (1, 24, .inl (fun _ => 0)), .inl (0, 25, .inl (fun _ => 0)), .inr (5, [.ref 128, .ref 130, .int 0]), .inr (7, [.ref 129, .int 0]), .inl (1, 24, .inl (fun _ => 0)), .inl (0, 25, .inl (fun _ => 0)), .inr (5, [.ref 132, .ref 134, .int 0]), .inr (7, [.ref 133, .int 0]), .inl (1, 24, .inl (fun _ => 0)), .inl (0, 25, .inl (fun _ => 0)), .inr (5, [.ref 136, .ref 138, .int 0]), .inr (7, [.ref 137, .int 0]), .inl (1, 24, .inl (fun _ => 0))]
def wt_6 : List ax_E := [.inl (0, 25, .inl (fun _ => 0)), .inr (5, [.ref 140, .ref 142, .int 0]), .inr (7, [.ref 141, .int 0]), .inl (1, 24, .inl (fun _ => 0)), .inl (0, 25, .inl (fun _ => 0)), .inr (12, [.ref 144, .int 0, .int 0, .int 0, .ref 145, .ref 146, .ref 147, .int 0, .ref 148, .ref 149, .ref 150, .ref 151, .ref 152, .ref 153, .ref 154, .int 0, .ref 155, .ref 156, .ref 157, .ref 158, .ref 159, .ref 160, .ref 161, .int 0, .ref 162, .ref 163, .int 0, .ref 164, .ref 165, .int 0, .int 0, .ref 166, .ref 167, .ref 168, .ref 169, .ref 170, .ref 171, .ref 172, .int 0, .int 0, .int 0, .long 0, .int 0, .ref 173, .ref 174, .int 0, .ref 175, .ref 176, .ref 177, .ref 178, .ref 179, .int 0, .ref 180, .int 0, .ref 181, .ref 182, .int 0, .ref 183]), .inl (0, 160, .inl (fun _ => 0)), .inl (0, 40, .inl (fun _ => 0)), .inl (0, 40, .inl (fun _ => 0)), .inl (0, 40, .inl (fun _ => 0)), .inl (0, 40, .inl (fun _ => 0)), .inl (0, 40, .inl (fun _ => 0)), .inl (0, 40, .inl (fun _ => 0)), .inl (0, 40, .inl (fun _ => 0)), .inl (0, 40, .inl (fun _ => 0)), .inl (0, 1681, .inl (fun _ => 0)), .inl (0, 48, .inl (fun _ => 0)), .inl (0, 50, .inl (fun _ => 0)), .inl (0, 50, .inl (fun _ => 0)), .inl (0, 50, .inl (fun _ => 0)), .inl (0, 50, .inl (fun _ => 0)), .inl (0, 50, .inl (fun _ => 0)), .inl (0, 50, .inl (fun _ => 0))]
def wt_7 : List ax_E := [.inl (0, 50, .inl (fun _ => 0)), .inl (0, 20, .inl (fun _ => 0)), .inl (0, 20, .inl (fun _ => 0)), .inl (0, 50, .inl (fun _ => 0)), .inl (0, 18, .inl (fun _ => 0)), .inl (0, 26, .inl (fun _ => 0)), .inl (0, 26, .inl (fun _ => 0)), .inl (0, 26, .inl (fun _ => 0)), .inl (0, 26, .inl (fun _ => 0)), .inl (3, 26, .inr (.inl (fun _ => 0))), .inl (0, 26, .inl (fun _ => 0)), .inl (0, 520, .inl (fun _ => 0)), .inl (0, 144, .inl (fun _ => 0)), .inl (0, 6, .inl (fun _ => 0)), .inl (0, 192, .inl (fun _ => 0)), .inl (0, 8, .inl (fun _ => 0)), .inl (0, 8, .inl (fun _ => 0)), .inl (2, 676, .inl (fun _ => 0)), .inl (0, 50, .inl (fun _ => 0)), .inl (0, 50, .inl (fun _ => 0)), .inl (0, 6, .inl (fun _ => 0)), .inl (0, 800, .inl (fun _ => 0)), .inl (0, 4, .inl (fun _ => 0))]
def wt_ : List ax_E := wt_0 ++ wt_1 ++ wt_2 ++ wt_3 ++ wt_4 ++ wt_5 ++ wt_6 ++ wt_7
def ax_0 : ax_M := (0, fun _ => none)
def wt_q (M : ax_M) (lo hi : Nat) : Prop := ∀ k, k < hi → (lo ≤ k → k ≠ 23 → k ≠ 75 → k ≠ 76 → M.2 k = wt_[k]?)
def wt_r (M : ax_M) (a t n b d : Nat) : Prop := ∃ f : Nat → Option Nat, M.2 a = some (.inl (t, n, .inr (.inr (.inr (.inr f))))) ∧ ∀ i, i < n → f i = some (b + d * i)
set_option maxRecDepth 100000 in
set_option maxHeartbeats 8000000 in
theorem init_Top {g : ax_Y} {Q : Option Value → ax_M → Prop} (hq : ∀ M : ax_M, M.1 = 143 → wt_q M 0 143 → wt_r M 23 5 13 30 3 → wt_r M 75 4 6 87 4 → wt_r M 76 4 8 111 4 → Q none M) : ax_G g mt_Top_init 4 142 5357 0 [.ref 0, .float 0] [] (ax_new ax_0 (.inr (11, [.null, .null, .null, .null, .null, .null, .null, .null, .null, .null, .null, .null, .null, .null, .int 0, .int 0]))) Q := by
  refine s_aload_n 1 rfl rfl rfl ?_
  refine s_objInit 4 rfl rfl oi_Top_1 oi_2 oi_3 (by decide) (Nat.le_of_ble_eq_true rfl) ?_
  refine s_aload_n 5 rfl rfl rfl ?_
  refine s_new (mc := 141) (ms := 5355) 7 (fs := [.null, .int 0]) t_Row 8 rfl rfl rfl cl_Top_7 is_Row in_Row t_Row_ok (by decide) rfl ?_
  show ax_G _ _ _ _ _ _ _ [.ref 1, .ref 0] _ _
  refine s_dup 9 rfl rfl rfl ?_
  refine s_sipush 160 12 rfl rfl (by decide) ?_
  refine s_callI1 (mc := 140) (ms := 5195) (mc2 := 1) (ms2 := 160) 3 15 rfl rfl mv_Top_11 (by decide) (Nat.le_of_ble_eq_true rfl) (Nat.le_of_ble_eq_true rfl) ?_
  refine s_aload_n 1 rfl rfl rfl ?_
  refine s_objInit 4 rfl rfl oi_Row_3 oi_2 oi_3 (by decide) (Nat.le_of_ble_eq_true rfl) ?_
  refine s_aload_n 5 rfl rfl rfl ?_
  refine s_iload_n 6 rfl rfl rfl ?_
  refine s_iconst 0 7 rfl rfl (by decide) ?_
  refine s_mmax 10 rfl rfl mm_Row_9 (by decide) (Nat.le_of_ble_eq_true rfl) ?_
  show ax_G _ _ _ _ _ _ _ [.int 160, .ref 1] _ _
  refine s_newarray (mc := 0) (ms := 0) 1 160 (a0 := (160, .inl (fun _ => 0))) 12 rfl rfl rfl ac_byte (fun _ h => by cases h) (fun _ => rfl) (by decide) (by decide) (by decide) ?_
  show ax_G _ _ _ _ _ _ _ [.ref 2, .ref 1] _ _
  refine s_putfield 7 0 (.array .byte) 15 rfl rfl fp_Row_15 rfl (by decide) ⟨rfl, rfl⟩ (fun _ => rfl) ?_
  refine s_return rfl rfl ?_
  show ax_G _ _ _ _ _ _ _ [.ref 1, .ref 0] _ _
  refine s_putfield 11 0 (.object "AlarmGroups$Row") 18 rfl rfl fp_Top_14 rfl (by decide) ⟨rfl, rfl⟩ (fun _ => rfl) ?_
  refine s_aload_n 19 rfl rfl rfl ?_
  refine s_new (mc := 139) (ms := 5193) 7 (fs := [.null, .int 0]) t_Row 22 rfl rfl rfl cl_Top_7 is_Row in_Row t_Row_ok (by decide) rfl ?_
  show ax_G _ _ _ _ _ _ _ [.ref 3, .ref 0] _ _
  refine s_dup 23 rfl rfl rfl ?_
  refine s_sipush 800 26 rfl rfl (by decide) ?_
  refine s_callI1 (mc := 138) (ms := 4393) (mc2 := 1) (ms2 := 800) 3 29 rfl rfl mv_Top_11 (by decide) (Nat.le_of_ble_eq_true rfl) (Nat.le_of_ble_eq_true rfl) ?_
  refine s_aload_n 1 rfl rfl rfl ?_
  refine s_objInit 4 rfl rfl oi_Row_3 oi_2 oi_3 (by decide) (Nat.le_of_ble_eq_true rfl) ?_
  refine s_aload_n 5 rfl rfl rfl ?_
  refine s_iload_n 6 rfl rfl rfl ?_
  refine s_iconst 0 7 rfl rfl (by decide) ?_
  refine s_mmax 10 rfl rfl mm_Row_9 (by decide) (Nat.le_of_ble_eq_true rfl) ?_
  show ax_G _ _ _ _ _ _ _ [.int 800, .ref 3] _ _
  refine s_newarray (mc := 0) (ms := 0) 1 800 (a0 := (800, .inl (fun _ => 0))) 12 rfl rfl rfl ac_byte (fun _ h => by cases h) (fun _ => rfl) (by decide) (by decide) (by decide) ?_
  show ax_G _ _ _ _ _ _ _ [.ref 4, .ref 3] _ _
  refine s_putfield 7 0 (.array .byte) 15 rfl rfl fp_Row_15 rfl (by decide) ⟨rfl, rfl⟩ (fun _ => rfl) ?_
  refine s_return rfl rfl ?_
  show ax_G _ _ _ _ _ _ _ [.ref 3, .ref 0] _ _
  refine s_putfield 11 1 (.object "AlarmGroups$Row") 32 rfl rfl fp_Top_18 rfl (by decide) ⟨rfl, rfl⟩ (fun _ => rfl) ?_
  refine s_aload_n 33 rfl rfl rfl ?_
  refine s_new (mc := 137) (ms := 4388) 4 (fs := [.null, .null, .null, .int 0, .int 0]) t_Matching 36 rfl rfl rfl cl_Top_21 is_Matching in_Matching t_Matching_ok (by decide) rfl ?_
  show ax_G _ _ _ _ _ _ _ [.ref 5, .ref 0] _ _
  refine s_dup 37 rfl rfl rfl ?_
  refine s_callIN0 (mc := 134) (ms := 2627) (mc2 := 3) (ms2 := 1761) 3 40 rfl rfl mv_Top_23 (by decide) (Nat.le_of_ble_eq_true rfl) (Nat.le_of_ble_eq_true rfl) ?_
  refine s_aload_n 1 rfl rfl rfl ?_
  refine s_objInit 4 rfl rfl oi_Matching_3 oi_2 oi_3 (by decide) (Nat.le_of_ble_eq_true rfl) ?_
  refine s_aload_n 5 rfl rfl rfl ?_
  refine s_bipush 40 7 rfl rfl (by decide) ?_
  refine s_newarray (mc := 2) (ms := 1721) 0 40 (a0 := (40, .inl (fun _ => 0))) 9 rfl rfl rfl ac_int (fun _ h => by cases h) (fun _ => rfl) (by decide) (by decide) (by decide) ?_
  show ax_G _ _ _ _ _ _ _ [.ref 6, .ref 5] _ _
  refine s_putfield 4 0 (.array .int) 12 rfl rfl fp_Matching_9 rfl (by decide) ⟨rfl, rfl⟩ (fun _ => rfl) ?_
  refine s_aload_n 13 rfl rfl rfl ?_
  refine s_bipush 40 15 rfl rfl (by decide) ?_
  refine s_newarray (mc := 1) (ms := 1681) 0 40 (a0 := (40, .inl (fun _ => 0))) 17 rfl rfl rfl ac_int (fun _ h => by cases h) (fun _ => rfl) (by decide) (by decide) (by decide) ?_
  show ax_G _ _ _ _ _ _ _ [.ref 7, .ref 5] _ _
  refine s_putfield 4 1 (.array .int) 20 rfl rfl fp_Matching_15 rfl (by decide) ⟨rfl, rfl⟩ (fun _ => rfl) ?_
  refine s_aload_n 21 rfl rfl rfl ?_
  refine s_sipush 1681 24 rfl rfl (by decide) ?_
  refine s_newarray (mc := 0) (ms := 0) 0 1681 (a0 := (1681, .inl (fun _ => 0))) 26 rfl rfl rfl ac_int (fun _ h => by cases h) (fun _ => rfl) (by decide) (by decide) (by decide) ?_
  show ax_G _ _ _ _ _ _ _ [.ref 8, .ref 5] _ _
  refine s_putfield 4 2 (.array .int) 29 rfl rfl fp_Matching_18 rfl (by decide) ⟨rfl, rfl⟩ (fun _ => rfl) ?_
  refine s_return rfl rfl ?_
  show ax_G _ _ _ _ _ _ _ [.ref 5, .ref 0] _ _
  refine s_putfield 11 2 (.object "AlarmGroups$Matching") 43 rfl rfl fp_Top_24 rfl (by decide) ⟨rfl, rfl⟩ (fun _ => rfl) ?_
  refine s_aload_n 44 rfl rfl rfl ?_
  refine s_new (mc := 133) (ms := 2620) 0 (fs := [.null, .null, .null, .null, .null, .null, .int 0]) t_Alarms 47 rfl rfl rfl cl_Top_28 is_Alarms in_Alarms t_Alarms_ok (by decide) rfl ?_
  show ax_G _ _ _ _ _ _ _ [.ref 9, .ref 0] _ _
  refine s_dup 48 rfl rfl rfl ?_
  refine s_callIN0 (mc := 127) (ms := 2320) (mc2 := 6) (ms2 := 300) 3 51 rfl rfl mv_Top_30 (by decide) (Nat.le_of_ble_eq_true rfl) (Nat.le_of_ble_eq_true rfl) ?_
  refine s_aload_n 1 rfl rfl rfl ?_
  refine s_objInit 4 rfl rfl oi_Alarms_3 oi_2 oi_3 (by decide) (Nat.le_of_ble_eq_true rfl) ?_
  refine s_aload_n 5 rfl rfl rfl ?_
  refine s_bipush 50 7 rfl rfl (by decide) ?_
  refine s_newarray (mc := 5) (ms := 250) 0 50 (a0 := (50, .inl (fun _ => 0))) 9 rfl rfl rfl ac_int (fun _ h => by cases h) (fun _ => rfl) (by decide) (by decide) (by decide) ?_
  show ax_G _ _ _ _ _ _ _ [.ref 10, .ref 9] _ _
  refine s_putfield 0 0 (.array .int) 12 rfl rfl fp_Alarms_9 rfl (by decide) ⟨rfl, rfl⟩ (fun _ => rfl) ?_
  refine s_aload_n 13 rfl rfl rfl ?_
  refine s_bipush 50 15 rfl rfl (by decide) ?_
  refine s_newarray (mc := 4) (ms := 200) 0 50 (a0 := (50, .inl (fun _ => 0))) 17 rfl rfl rfl ac_int (fun _ h => by cases h) (fun _ => rfl) (by decide) (by decide) (by decide) ?_
  show ax_G _ _ _ _ _ _ _ [.ref 11, .ref 9] _ _
  refine s_putfield 0 1 (.array .int) 20 rfl rfl fp_Alarms_15 rfl (by decide) ⟨rfl, rfl⟩ (fun _ => rfl) ?_
  refine s_aload_n 21 rfl rfl rfl ?_
  refine s_bipush 50 23 rfl rfl (by decide) ?_
  refine s_newarray (mc := 3) (ms := 150) 0 50 (a0 := (50, .inl (fun _ => 0))) 25 rfl rfl rfl ac_int (fun _ h => by cases h) (fun _ => rfl) (by decide) (by decide) (by decide) ?_
  show ax_G _ _ _ _ _ _ _ [.ref 12, .ref 9] _ _
  refine s_putfield 0 2 (.array .int) 28 rfl rfl fp_Alarms_18 rfl (by decide) ⟨rfl, rfl⟩ (fun _ => rfl) ?_
  refine s_aload_n 29 rfl rfl rfl ?_
  refine s_bipush 50 31 rfl rfl (by decide) ?_
  refine s_newarray (mc := 2) (ms := 100) 0 50 (a0 := (50, .inl (fun _ => 0))) 33 rfl rfl rfl ac_int (fun _ h => by cases h) (fun _ => rfl) (by decide) (by decide) (by decide) ?_
  show ax_G _ _ _ _ _ _ _ [.ref 13, .ref 9] _ _
  refine s_putfield 0 3 (.array .int) 36 rfl rfl fp_Alarms_21 rfl (by decide) ⟨rfl, rfl⟩ (fun _ => rfl) ?_
  refine s_aload_n 37 rfl rfl rfl ?_
  refine s_bipush 50 39 rfl rfl (by decide) ?_
  refine s_newarray (mc := 1) (ms := 50) 0 50 (a0 := (50, .inl (fun _ => 0))) 41 rfl rfl rfl ac_int (fun _ h => by cases h) (fun _ => rfl) (by decide) (by decide) (by decide) ?_
  show ax_G _ _ _ _ _ _ _ [.ref 14, .ref 9] _ _
  refine s_putfield 0 4 (.array .int) 44 rfl rfl fp_Alarms_24 rfl (by decide) ⟨rfl, rfl⟩ (fun _ => rfl) ?_
  refine s_aload_n 45 rfl rfl rfl ?_
  refine s_bipush 50 47 rfl rfl (by decide) ?_
  refine s_newarray (mc := 0) (ms := 0) 0 50 (a0 := (50, .inl (fun _ => 0))) 49 rfl rfl rfl ac_int (fun _ h => by cases h) (fun _ => rfl) (by decide) (by decide) (by decide) ?_
  show ax_G _ _ _ _ _ _ _ [.ref 15, .ref 9] _ _
  refine s_putfield 0 5 (.array .int) 52 rfl rfl fp_Alarms_27 rfl (by decide) ⟨rfl, rfl⟩ (fun _ => rfl) ?_
  refine s_return rfl rfl ?_
  show ax_G _ _ _ _ _ _ _ [.ref 9, .ref 0] _ _
  refine s_putfield 11 3 (.object "AlarmGroups$Alarms") 54 rfl rfl fp_Top_31 rfl (by decide) ⟨rfl, rfl⟩ (fun _ => rfl) ?_
  refine s_aload_n 55 rfl rfl rfl ?_
  refine s_new (mc := 126) (ms := 2312) 1 (fs := [.null, .null, .int 0, .int 0, .null, .null, .null, .int 0]) t_Facts 58 rfl rfl rfl cl_Top_35 is_Facts in_Facts t_Facts_ok (by decide) rfl ?_
  show ax_G _ _ _ _ _ _ _ [.ref 16, .ref 0] _ _
  refine s_dup 59 rfl rfl rfl ?_
  refine s_callIN0 (mc := 121) (ms := 2222) (mc2 := 5) (ms2 := 90) 3 62 rfl rfl mv_Top_37 (by decide) (Nat.le_of_ble_eq_true rfl) (Nat.le_of_ble_eq_true rfl) ?_
  refine s_aload_n 1 rfl rfl rfl ?_
  refine s_objInit 4 rfl rfl oi_Facts_3 oi_2 oi_3 (by decide) (Nat.le_of_ble_eq_true rfl) ?_
  refine s_aload_n 5 rfl rfl rfl ?_
  refine s_bipush 17 7 rfl rfl (by decide) ?_
  refine s_newarray (mc := 4) (ms := 73) 0 17 (a0 := (17, .inl (fun _ => 0))) 9 rfl rfl rfl ac_int (fun _ h => by cases h) (fun _ => rfl) (by decide) (by decide) (by decide) ?_
  show ax_G _ _ _ _ _ _ _ [.ref 17, .ref 16] _ _
  refine s_putfield 1 0 (.array .int) 12 rfl rfl fp_Facts_9 rfl (by decide) ⟨rfl, rfl⟩ (fun _ => rfl) ?_
  refine s_aload_n 13 rfl rfl rfl ?_
  refine s_bipush 17 15 rfl rfl (by decide) ?_
  refine s_newarray (mc := 3) (ms := 56) 3 17 (a0 := (17, .inr (.inl (fun _ => 0)))) 17 rfl rfl rfl ac_long (fun _ h => by cases h) (fun _ => rfl) (by decide) (by decide) (by decide) ?_
  show ax_G _ _ _ _ _ _ _ [.ref 18, .ref 16] _ _
  refine s_putfield 1 1 (.array .long) 20 rfl rfl fp_Facts_15 rfl (by decide) ⟨rfl, rfl⟩ (fun _ => rfl) ?_
  refine s_aload_n 21 rfl rfl rfl ?_
  refine s_bipush 20 23 rfl rfl (by decide) ?_
  refine s_newarray (mc := 2) (ms := 36) 0 20 (a0 := (20, .inl (fun _ => 0))) 25 rfl rfl rfl ac_int (fun _ h => by cases h) (fun _ => rfl) (by decide) (by decide) (by decide) ?_
  show ax_G _ _ _ _ _ _ _ [.ref 19, .ref 16] _ _
  refine s_putfield 1 4 (.array .int) 28 rfl rfl fp_Facts_19 rfl (by decide) ⟨rfl, rfl⟩ (fun _ => rfl) ?_
  refine s_aload_n 29 rfl rfl rfl ?_
  refine s_bipush 20 31 rfl rfl (by decide) ?_
  refine s_newarray (mc := 1) (ms := 16) 0 20 (a0 := (20, .inl (fun _ => 0))) 33 rfl rfl rfl ac_int (fun _ h => by cases h) (fun _ => rfl) (by decide) (by decide) (by decide) ?_
  show ax_G _ _ _ _ _ _ _ [.ref 20, .ref 16] _ _
  refine s_putfield 1 5 (.array .int) 36 rfl rfl fp_Facts_22 rfl (by decide) ⟨rfl, rfl⟩ (fun _ => rfl) ?_
  refine s_aload_n 37 rfl rfl rfl ?_
  refine s_bipush 16 39 rfl rfl (by decide) ?_
  refine s_newarray (mc := 0) (ms := 0) 3 16 (a0 := (16, .inr (.inl (fun _ => 0)))) 41 rfl rfl rfl ac_long (fun _ h => by cases h) (fun _ => rfl) (by decide) (by decide) (by decide) ?_
  show ax_G _ _ _ _ _ _ _ [.ref 21, .ref 16] _ _
  refine s_putfield 1 6 (.array .long) 44 rfl rfl fp_Facts_25 rfl (by decide) ⟨rfl, rfl⟩ (fun _ => rfl) ?_
  refine s_return rfl rfl ?_
  show ax_G _ _ _ _ _ _ _ [.ref 16, .ref 0] _ _
  refine s_putfield 11 4 (.object "AlarmGroups$Facts") 65 rfl rfl fp_Top_38 rfl (by decide) ⟨rfl, rfl⟩ (fun _ => rfl) ?_
  refine s_aload_n 66 rfl rfl rfl ?_
  refine s_new (mc := 120) (ms := 2219) 9 (fs := [.null, .int 0, .null]) t_Silences 69 rfl rfl rfl cl_Top_42 is_Silences in_Silences t_Silences_ok (by decide) rfl ?_
  show ax_G _ _ _ _ _ _ _ [.ref 22, .ref 0] _ _
  refine s_dup 70 rfl rfl rfl ?_
  refine s_callI0 (mc := 74) (ms := 1191) (mc2 := 46) (ms2 := 1028) 3 73 rfl rfl mv_Top_44 (by decide) (Nat.le_of_ble_eq_true rfl) (Nat.le_of_ble_eq_true rfl) ?_
  refine s_aload_n 1 rfl rfl rfl ?_
  refine s_objInit 4 rfl rfl oi_Silences_3 oi_2 oi_3 (by decide) (Nat.le_of_ble_eq_true rfl) ?_
  refine s_aload_n 5 rfl rfl rfl ?_
  refine s_bipush 13 7 rfl rfl (by decide) ?_
  refine s_anewq (mc := 45) (ms := 1015) 5 13 "AlarmGroups$Silence" 10 rfl rfl rfl cl_Silences_9 (Or.inr rfl) (by decide) (by decide) ?_
  show ax_G _ _ _ _ _ _ _ [.ref 23, .ref 22] _ _
  refine s_putfield 9 0 (.array (.object "AlarmGroups$Silence")) 13 rfl rfl fp_Silences_11 rfl (by decide) ⟨rfl, rfl⟩ (fun _ => rfl) ?_
  refine s_aload_n 14 rfl rfl rfl ?_
  refine s_new (mc := 44) (ms := 1009) 10 (fs := [.null, .null, .null, .null, .int 0, .int 0]) t_Tokens 17 rfl rfl rfl cl_Silences_17 is_Tokens in_Tokens t_Tokens_ok (by decide) rfl ?_
  show ax_G _ _ _ _ _ _ _ [.ref 24, .ref 22] _ _
  refine s_dup 18 rfl rfl rfl ?_
  refine s_callIN0 (mc := 39) (ms := 364) (mc2 := 5) (ms2 := 645) 2 21 rfl rfl mv_Silences_19 (by decide) (Nat.le_of_ble_eq_true rfl) (Nat.le_of_ble_eq_true rfl) ?_
  refine s_aload_n 1 rfl rfl rfl ?_
  refine s_objInit 4 rfl rfl oi_Tokens_3 oi_2 oi_3 (by decide) (Nat.le_of_ble_eq_true rfl) ?_
  refine s_aload_n 5 rfl rfl rfl ?_
  refine s_new (mc := 4) (ms := 643) 7 (fs := [.null, .int 0]) t_Row 8 rfl rfl rfl cl_Tokens_9 is_Row in_Row t_Row_ok (by decide) rfl ?_
  show ax_G _ _ _ _ _ _ _ [.ref 25, .ref 24] _ _
  refine s_dup 9 rfl rfl rfl ?_
  refine s_sipush 160 12 rfl rfl (by decide) ?_
  refine s_callI1 (mc := 3) (ms := 483) (mc2 := 1) (ms2 := 160) 1 15 rfl rfl mv_Tokens_11 (by decide) (Nat.le_of_ble_eq_true rfl) (Nat.le_of_ble_eq_true rfl) ?_
  refine s_aload_n 1 rfl rfl rfl ?_
  refine s_objInit 4 rfl rfl oi_Row_3 oi_2 oi_3 (by decide) (Nat.le_of_ble_eq_true rfl) ?_
  refine s_aload_n 5 rfl rfl rfl ?_
  refine s_iload_n 6 rfl rfl rfl ?_
  refine s_iconst 0 7 rfl rfl (by decide) ?_
  refine s_mmax 10 rfl rfl mm_Row_9 (by decide) (Nat.le_of_ble_eq_true rfl) ?_
  show ax_G _ _ _ _ _ _ _ [.int 160, .ref 25] _ _
  refine s_newarray (mc := 0) (ms := 0) 1 160 (a0 := (160, .inl (fun _ => 0))) 12 rfl rfl rfl ac_byte (fun _ h => by cases h) (fun _ => rfl) (by decide) (by decide) (by decide) ?_
  show ax_G _ _ _ _ _ _ _ [.ref 26, .ref 25] _ _
  refine s_putfield 7 0 (.array .byte) 15 rfl rfl fp_Row_15 rfl (by decide) ⟨rfl, rfl⟩ (fun _ => rfl) ?_
  refine s_return rfl rfl ?_
  show ax_G _ _ _ _ _ _ _ [.ref 25, .ref 24] _ _
  refine s_putfield 10 0 (.object "AlarmGroups$Row") 18 rfl rfl fp_Tokens_14 rfl (by decide) ⟨rfl, rfl⟩ (fun _ => rfl) ?_
  refine s_aload_n 19 rfl rfl rfl ?_
  refine s_sipush 161 22 rfl rfl (by decide) ?_
  refine s_newarray (mc := 2) (ms := 322) 0 161 (a0 := (161, .inl (fun _ => 0))) 24 rfl rfl rfl ac_int (fun _ h => by cases h) (fun _ => rfl) (by decide) (by decide) (by decide) ?_
  show ax_G _ _ _ _ _ _ _ [.ref 27, .ref 24] _ _
  refine s_putfield 10 1 (.array .int) 27 rfl rfl fp_Tokens_20 rfl (by decide) ⟨rfl, rfl⟩ (fun _ => rfl) ?_
  refine s_aload_n 28 rfl rfl rfl ?_
  refine s_sipush 161 31 rfl rfl (by decide) ?_
  refine s_newarray (mc := 1) (ms := 161) 0 161 (a0 := (161, .inl (fun _ => 0))) 33 rfl rfl rfl ac_int (fun _ h => by cases h) (fun _ => rfl) (by decide) (by decide) (by decide) ?_
  show ax_G _ _ _ _ _ _ _ [.ref 28, .ref 24] _ _
  refine s_putfield 10 2 (.array .int) 36 rfl rfl fp_Tokens_24 rfl (by decide) ⟨rfl, rfl⟩ (fun _ => rfl) ?_
  refine s_aload_n 37 rfl rfl rfl ?_
  refine s_sipush 161 40 rfl rfl (by decide) ?_
  refine s_newarray (mc := 0) (ms := 0) 0 161 (a0 := (161, .inl (fun _ => 0))) 42 rfl rfl rfl ac_int (fun _ h => by cases h) (fun _ => rfl) (by decide) (by decide) (by decide) ?_
  show ax_G _ _ _ _ _ _ _ [.ref 29, .ref 24] _ _
  refine s_putfield 10 3 (.array .int) 45 rfl rfl fp_Tokens_27 rfl (by decide) ⟨rfl, rfl⟩ (fun _ => rfl) ?_
  refine s_return rfl rfl ?_
  show ax_G _ _ _ _ _ _ _ [.ref 24, .ref 22] _ _
  refine s_putfield 9 2 (.object "AlarmGroups$Tokens") 24 rfl rfl fp_Silences_20 rfl (by decide) ⟨rfl, rfl⟩ (fun _ => rfl) ?_
  refine s_iconst 0 25 rfl rfl (by decide) ?_
  refine s_ist1 26 rfl rfl rfl ?_
  refine s_iload_n 27 rfl rfl rfl ?_
  refine s_bipush 12 29 rfl rfl (by decide) ?_
  refine s_icmp_gt 51 32 rfl rfl (by decide) (fun c => absurd c (by decide)) (fun _ => ?_)
  refine s_aload_n 33 rfl rfl rfl ?_
  refine s_getfield 9 0 36 rfl rfl fl_Silences_11 rfl rfl ?_
  refine s_iload_n 37 rfl rfl rfl ?_
  refine s_new (mc := 38) (ms := 358) 8 (fs := [.int 0, .int 0, .int 0, .int 0, .long 0, .null]) t_Silence 40 rfl rfl rfl cl_Silences_9 is_Silence in_Silence t_Silence_ok (by decide) rfl ?_
  show ax_G _ _ _ _ _ _ _ [.ref 30, .int 0, .ref 23] _ _
  refine s_dup 41 rfl rfl rfl ?_
  refine s_callIN0 (mc := 36) (ms := 336) (mc2 := 2) (ms2 := 22) 2 44 rfl rfl mv_Silences_24 (by decide) (Nat.le_of_ble_eq_true rfl) (Nat.le_of_ble_eq_true rfl) ?_
  refine s_aload_n 1 rfl rfl rfl ?_
  refine s_objInit 4 rfl rfl oi_Silence_3 oi_2 oi_3 (by decide) (Nat.le_of_ble_eq_true rfl) ?_
  refine s_aload_n 5 rfl rfl rfl ?_
  refine s_new (mc := 1) (ms := 20) 7 (fs := [.null, .int 0]) t_Row 8 rfl rfl rfl cl_Silence_9 is_Row in_Row t_Row_ok (by decide) rfl ?_
  show ax_G _ _ _ _ _ _ _ [.ref 31, .ref 30] _ _
  refine s_dup 9 rfl rfl rfl ?_
  refine s_bipush 20 11 rfl rfl (by decide) ?_
  refine s_callI1 (mc := 0) (ms := 0) (mc2 := 1) (ms2 := 20) 1 14 rfl rfl mv_Silence_11 (by decide) (Nat.le_of_ble_eq_true rfl) (Nat.le_of_ble_eq_true rfl) ?_
  refine s_aload_n 1 rfl rfl rfl ?_
  refine s_objInit 4 rfl rfl oi_Row_3 oi_2 oi_3 (by decide) (Nat.le_of_ble_eq_true rfl) ?_
  refine s_aload_n 5 rfl rfl rfl ?_
  refine s_iload_n 6 rfl rfl rfl ?_
  refine s_iconst 0 7 rfl rfl (by decide) ?_
  refine s_mmax 10 rfl rfl mm_Row_9 (by decide) (Nat.le_of_ble_eq_true rfl) ?_
  show ax_G _ _ _ _ _ _ _ [.int 20, .ref 31] _ _
  refine s_newarray (mc := 0) (ms := 0) 1 20 (a0 := (20, .inl (fun _ => 0))) 12 rfl rfl rfl ac_byte (fun _ h => by cases h) (fun _ => rfl) (by decide) (by decide) (by decide) ?_
  show ax_G _ _ _ _ _ _ _ [.ref 32, .ref 31] _ _
  refine s_putfield 7 0 (.array .byte) 15 rfl rfl fp_Row_15 rfl (by decide) ⟨rfl, rfl⟩ (fun _ => rfl) ?_
  refine s_return rfl rfl ?_
  show ax_G _ _ _ _ _ _ _ [.ref 31, .ref 30] _ _
  refine s_putfield 8 5 (.object "AlarmGroups$Row") 17 rfl rfl fp_Silence_14 rfl (by decide) ⟨rfl, rfl⟩ (fun _ => rfl) ?_
  refine s_return rfl rfl ?_
  show ax_G _ _ _ _ _ _ _ [.ref 30, .int 0, .ref 23] _ _
  refine s_aastore 5 8 0 45 rfl rfl rfl rfl rfl rfl (by decide) (by decide) (by decide) ?_
  refine s_inc1 1 48 rfl rfl (by decide) rfl ?_
  refine s_goto 26 rfl (by decide) ?_
  refine s_iload_n 27 rfl rfl rfl ?_
  refine s_bipush 12 29 rfl rfl (by decide) ?_
  refine s_icmp_gt 51 32 rfl rfl (by decide) (fun c => absurd c (by decide)) (fun _ => ?_)
  refine s_aload_n 33 rfl rfl rfl ?_
  refine s_getfield 9 0 36 rfl rfl fl_Silences_11 rfl rfl ?_
  refine s_iload_n 37 rfl rfl rfl ?_
  refine s_new (mc := 35) (ms := 330) 8 (fs := [.int 0, .int 0, .int 0, .int 0, .long 0, .null]) t_Silence 40 rfl rfl rfl cl_Silences_9 is_Silence in_Silence t_Silence_ok (by decide) rfl ?_
  show ax_G _ _ _ _ _ _ _ [.ref 33, .int 1, .ref 23] _ _
  refine s_dup 41 rfl rfl rfl ?_
  refine s_callIN0 (mc := 33) (ms := 308) (mc2 := 2) (ms2 := 22) 2 44 rfl rfl mv_Silences_24 (by decide) (Nat.le_of_ble_eq_true rfl) (Nat.le_of_ble_eq_true rfl) ?_
  refine s_aload_n 1 rfl rfl rfl ?_
  refine s_objInit 4 rfl rfl oi_Silence_3 oi_2 oi_3 (by decide) (Nat.le_of_ble_eq_true rfl) ?_
  refine s_aload_n 5 rfl rfl rfl ?_
  refine s_new (mc := 1) (ms := 20) 7 (fs := [.null, .int 0]) t_Row 8 rfl rfl rfl cl_Silence_9 is_Row in_Row t_Row_ok (by decide) rfl ?_
  show ax_G _ _ _ _ _ _ _ [.ref 34, .ref 33] _ _
  refine s_dup 9 rfl rfl rfl ?_
  refine s_bipush 20 11 rfl rfl (by decide) ?_
  refine s_callI1 (mc := 0) (ms := 0) (mc2 := 1) (ms2 := 20) 1 14 rfl rfl mv_Silence_11 (by decide) (Nat.le_of_ble_eq_true rfl) (Nat.le_of_ble_eq_true rfl) ?_
  refine s_aload_n 1 rfl rfl rfl ?_
  refine s_objInit 4 rfl rfl oi_Row_3 oi_2 oi_3 (by decide) (Nat.le_of_ble_eq_true rfl) ?_
  refine s_aload_n 5 rfl rfl rfl ?_
  refine s_iload_n 6 rfl rfl rfl ?_
  refine s_iconst 0 7 rfl rfl (by decide) ?_
  refine s_mmax 10 rfl rfl mm_Row_9 (by decide) (Nat.le_of_ble_eq_true rfl) ?_
  show ax_G _ _ _ _ _ _ _ [.int 20, .ref 34] _ _
  refine s_newarray (mc := 0) (ms := 0) 1 20 (a0 := (20, .inl (fun _ => 0))) 12 rfl rfl rfl ac_byte (fun _ h => by cases h) (fun _ => rfl) (by decide) (by decide) (by decide) ?_
  show ax_G _ _ _ _ _ _ _ [.ref 35, .ref 34] _ _
  refine s_putfield 7 0 (.array .byte) 15 rfl rfl fp_Row_15 rfl (by decide) ⟨rfl, rfl⟩ (fun _ => rfl) ?_
  refine s_return rfl rfl ?_
  show ax_G _ _ _ _ _ _ _ [.ref 34, .ref 33] _ _
  refine s_putfield 8 5 (.object "AlarmGroups$Row") 17 rfl rfl fp_Silence_14 rfl (by decide) ⟨rfl, rfl⟩ (fun _ => rfl) ?_
  refine s_return rfl rfl ?_
  show ax_G _ _ _ _ _ _ _ [.ref 33, .int 1, .ref 23] _ _
  refine s_aastore 5 8 1 45 rfl rfl rfl rfl rfl rfl (by decide) (by decide) (by decide) ?_
  refine s_inc1 2 48 rfl rfl (by decide) rfl ?_
  refine s_goto 26 rfl (by decide) ?_
  refine s_iload_n 27 rfl rfl rfl ?_
  refine s_bipush 12 29 rfl rfl (by decide) ?_
  refine s_icmp_gt 51 32 rfl rfl (by decide) (fun c => absurd c (by decide)) (fun _ => ?_)
  refine s_aload_n 33 rfl rfl rfl ?_
  refine s_getfield 9 0 36 rfl rfl fl_Silences_11 rfl rfl ?_
  refine s_iload_n 37 rfl rfl rfl ?_
  refine s_new (mc := 32) (ms := 302) 8 (fs := [.int 0, .int 0, .int 0, .int 0, .long 0, .null]) t_Silence 40 rfl rfl rfl cl_Silences_9 is_Silence in_Silence t_Silence_ok (by decide) rfl ?_
  show ax_G _ _ _ _ _ _ _ [.ref 36, .int 2, .ref 23] _ _
  refine s_dup 41 rfl rfl rfl ?_
  refine s_callIN0 (mc := 30) (ms := 280) (mc2 := 2) (ms2 := 22) 2 44 rfl rfl mv_Silences_24 (by decide) (Nat.le_of_ble_eq_true rfl) (Nat.le_of_ble_eq_true rfl) ?_
  refine s_aload_n 1 rfl rfl rfl ?_
  refine s_objInit 4 rfl rfl oi_Silence_3 oi_2 oi_3 (by decide) (Nat.le_of_ble_eq_true rfl) ?_
  refine s_aload_n 5 rfl rfl rfl ?_
  refine s_new (mc := 1) (ms := 20) 7 (fs := [.null, .int 0]) t_Row 8 rfl rfl rfl cl_Silence_9 is_Row in_Row t_Row_ok (by decide) rfl ?_
  show ax_G _ _ _ _ _ _ _ [.ref 37, .ref 36] _ _
  refine s_dup 9 rfl rfl rfl ?_
  refine s_bipush 20 11 rfl rfl (by decide) ?_
  refine s_callI1 (mc := 0) (ms := 0) (mc2 := 1) (ms2 := 20) 1 14 rfl rfl mv_Silence_11 (by decide) (Nat.le_of_ble_eq_true rfl) (Nat.le_of_ble_eq_true rfl) ?_
  refine s_aload_n 1 rfl rfl rfl ?_
  refine s_objInit 4 rfl rfl oi_Row_3 oi_2 oi_3 (by decide) (Nat.le_of_ble_eq_true rfl) ?_
  refine s_aload_n 5 rfl rfl rfl ?_
  refine s_iload_n 6 rfl rfl rfl ?_
  refine s_iconst 0 7 rfl rfl (by decide) ?_
  refine s_mmax 10 rfl rfl mm_Row_9 (by decide) (Nat.le_of_ble_eq_true rfl) ?_
  show ax_G _ _ _ _ _ _ _ [.int 20, .ref 37] _ _
  refine s_newarray (mc := 0) (ms := 0) 1 20 (a0 := (20, .inl (fun _ => 0))) 12 rfl rfl rfl ac_byte (fun _ h => by cases h) (fun _ => rfl) (by decide) (by decide) (by decide) ?_
  show ax_G _ _ _ _ _ _ _ [.ref 38, .ref 37] _ _
  refine s_putfield 7 0 (.array .byte) 15 rfl rfl fp_Row_15 rfl (by decide) ⟨rfl, rfl⟩ (fun _ => rfl) ?_
  refine s_return rfl rfl ?_
  show ax_G _ _ _ _ _ _ _ [.ref 37, .ref 36] _ _
  refine s_putfield 8 5 (.object "AlarmGroups$Row") 17 rfl rfl fp_Silence_14 rfl (by decide) ⟨rfl, rfl⟩ (fun _ => rfl) ?_
  refine s_return rfl rfl ?_
  show ax_G _ _ _ _ _ _ _ [.ref 36, .int 2, .ref 23] _ _
  refine s_aastore 5 8 2 45 rfl rfl rfl rfl rfl rfl (by decide) (by decide) (by decide) ?_
  refine s_inc1 3 48 rfl rfl (by decide) rfl ?_
  refine s_goto 26 rfl (by decide) ?_
  refine s_iload_n 27 rfl rfl rfl ?_
  refine s_bipush 12 29 rfl rfl (by decide) ?_
  refine s_icmp_gt 51 32 rfl rfl (by decide) (fun c => absurd c (by decide)) (fun _ => ?_)
  refine s_aload_n 33 rfl rfl rfl ?_
  refine s_getfield 9 0 36 rfl rfl fl_Silences_11 rfl rfl ?_
  refine s_iload_n 37 rfl rfl rfl ?_
  refine s_new (mc := 29) (ms := 274) 8 (fs := [.int 0, .int 0, .int 0, .int 0, .long 0, .null]) t_Silence 40 rfl rfl rfl cl_Silences_9 is_Silence in_Silence t_Silence_ok (by decide) rfl ?_
  show ax_G _ _ _ _ _ _ _ [.ref 39, .int 3, .ref 23] _ _
  refine s_dup 41 rfl rfl rfl ?_
  refine s_callIN0 (mc := 27) (ms := 252) (mc2 := 2) (ms2 := 22) 2 44 rfl rfl mv_Silences_24 (by decide) (Nat.le_of_ble_eq_true rfl) (Nat.le_of_ble_eq_true rfl) ?_
  refine s_aload_n 1 rfl rfl rfl ?_
  refine s_objInit 4 rfl rfl oi_Silence_3 oi_2 oi_3 (by decide) (Nat.le_of_ble_eq_true rfl) ?_
  refine s_aload_n 5 rfl rfl rfl ?_
  refine s_new (mc := 1) (ms := 20) 7 (fs := [.null, .int 0]) t_Row 8 rfl rfl rfl cl_Silence_9 is_Row in_Row t_Row_ok (by decide) rfl ?_
  show ax_G _ _ _ _ _ _ _ [.ref 40, .ref 39] _ _
  refine s_dup 9 rfl rfl rfl ?_
  refine s_bipush 20 11 rfl rfl (by decide) ?_
  refine s_callI1 (mc := 0) (ms := 0) (mc2 := 1) (ms2 := 20) 1 14 rfl rfl mv_Silence_11 (by decide) (Nat.le_of_ble_eq_true rfl) (Nat.le_of_ble_eq_true rfl) ?_
  refine s_aload_n 1 rfl rfl rfl ?_
  refine s_objInit 4 rfl rfl oi_Row_3 oi_2 oi_3 (by decide) (Nat.le_of_ble_eq_true rfl) ?_
  refine s_aload_n 5 rfl rfl rfl ?_
  refine s_iload_n 6 rfl rfl rfl ?_
  refine s_iconst 0 7 rfl rfl (by decide) ?_
  refine s_mmax 10 rfl rfl mm_Row_9 (by decide) (Nat.le_of_ble_eq_true rfl) ?_
  show ax_G _ _ _ _ _ _ _ [.int 20, .ref 40] _ _
  refine s_newarray (mc := 0) (ms := 0) 1 20 (a0 := (20, .inl (fun _ => 0))) 12 rfl rfl rfl ac_byte (fun _ h => by cases h) (fun _ => rfl) (by decide) (by decide) (by decide) ?_
  show ax_G _ _ _ _ _ _ _ [.ref 41, .ref 40] _ _
  refine s_putfield 7 0 (.array .byte) 15 rfl rfl fp_Row_15 rfl (by decide) ⟨rfl, rfl⟩ (fun _ => rfl) ?_
  refine s_return rfl rfl ?_
  show ax_G _ _ _ _ _ _ _ [.ref 40, .ref 39] _ _
  refine s_putfield 8 5 (.object "AlarmGroups$Row") 17 rfl rfl fp_Silence_14 rfl (by decide) ⟨rfl, rfl⟩ (fun _ => rfl) ?_
  refine s_return rfl rfl ?_
  show ax_G _ _ _ _ _ _ _ [.ref 39, .int 3, .ref 23] _ _
  refine s_aastore 5 8 3 45 rfl rfl rfl rfl rfl rfl (by decide) (by decide) (by decide) ?_
  refine s_inc1 4 48 rfl rfl (by decide) rfl ?_
  refine s_goto 26 rfl (by decide) ?_
  refine s_iload_n 27 rfl rfl rfl ?_
  refine s_bipush 12 29 rfl rfl (by decide) ?_
  refine s_icmp_gt 51 32 rfl rfl (by decide) (fun c => absurd c (by decide)) (fun _ => ?_)
  refine s_aload_n 33 rfl rfl rfl ?_
  refine s_getfield 9 0 36 rfl rfl fl_Silences_11 rfl rfl ?_
  refine s_iload_n 37 rfl rfl rfl ?_
  refine s_new (mc := 26) (ms := 246) 8 (fs := [.int 0, .int 0, .int 0, .int 0, .long 0, .null]) t_Silence 40 rfl rfl rfl cl_Silences_9 is_Silence in_Silence t_Silence_ok (by decide) rfl ?_
  show ax_G _ _ _ _ _ _ _ [.ref 42, .int 4, .ref 23] _ _
  refine s_dup 41 rfl rfl rfl ?_
  refine s_callIN0 (mc := 24) (ms := 224) (mc2 := 2) (ms2 := 22) 2 44 rfl rfl mv_Silences_24 (by decide) (Nat.le_of_ble_eq_true rfl) (Nat.le_of_ble_eq_true rfl) ?_
  refine s_aload_n 1 rfl rfl rfl ?_
  refine s_objInit 4 rfl rfl oi_Silence_3 oi_2 oi_3 (by decide) (Nat.le_of_ble_eq_true rfl) ?_
  refine s_aload_n 5 rfl rfl rfl ?_
  refine s_new (mc := 1) (ms := 20) 7 (fs := [.null, .int 0]) t_Row 8 rfl rfl rfl cl_Silence_9 is_Row in_Row t_Row_ok (by decide) rfl ?_
  show ax_G _ _ _ _ _ _ _ [.ref 43, .ref 42] _ _
  refine s_dup 9 rfl rfl rfl ?_
  refine s_bipush 20 11 rfl rfl (by decide) ?_
  refine s_callI1 (mc := 0) (ms := 0) (mc2 := 1) (ms2 := 20) 1 14 rfl rfl mv_Silence_11 (by decide) (Nat.le_of_ble_eq_true rfl) (Nat.le_of_ble_eq_true rfl) ?_
  refine s_aload_n 1 rfl rfl rfl ?_
  refine s_objInit 4 rfl rfl oi_Row_3 oi_2 oi_3 (by decide) (Nat.le_of_ble_eq_true rfl) ?_
  refine s_aload_n 5 rfl rfl rfl ?_
  refine s_iload_n 6 rfl rfl rfl ?_
  refine s_iconst 0 7 rfl rfl (by decide) ?_
  refine s_mmax 10 rfl rfl mm_Row_9 (by decide) (Nat.le_of_ble_eq_true rfl) ?_
  show ax_G _ _ _ _ _ _ _ [.int 20, .ref 43] _ _
  refine s_newarray (mc := 0) (ms := 0) 1 20 (a0 := (20, .inl (fun _ => 0))) 12 rfl rfl rfl ac_byte (fun _ h => by cases h) (fun _ => rfl) (by decide) (by decide) (by decide) ?_
  show ax_G _ _ _ _ _ _ _ [.ref 44, .ref 43] _ _
  refine s_putfield 7 0 (.array .byte) 15 rfl rfl fp_Row_15 rfl (by decide) ⟨rfl, rfl⟩ (fun _ => rfl) ?_
  refine s_return rfl rfl ?_
  show ax_G _ _ _ _ _ _ _ [.ref 43, .ref 42] _ _
  refine s_putfield 8 5 (.object "AlarmGroups$Row") 17 rfl rfl fp_Silence_14 rfl (by decide) ⟨rfl, rfl⟩ (fun _ => rfl) ?_
  refine s_return rfl rfl ?_
  show ax_G _ _ _ _ _ _ _ [.ref 42, .int 4, .ref 23] _ _
  refine s_aastore 5 8 4 45 rfl rfl rfl rfl rfl rfl (by decide) (by decide) (by decide) ?_
  refine s_inc1 5 48 rfl rfl (by decide) rfl ?_
  refine s_goto 26 rfl (by decide) ?_
  refine s_iload_n 27 rfl rfl rfl ?_
  refine s_bipush 12 29 rfl rfl (by decide) ?_
  refine s_icmp_gt 51 32 rfl rfl (by decide) (fun c => absurd c (by decide)) (fun _ => ?_)
  refine s_aload_n 33 rfl rfl rfl ?_
  refine s_getfield 9 0 36 rfl rfl fl_Silences_11 rfl rfl ?_
  refine s_iload_n 37 rfl rfl rfl ?_
  refine s_new (mc := 23) (ms := 218) 8 (fs := [.int 0, .int 0, .int 0, .int 0, .long 0, .null]) t_Silence 40 rfl rfl rfl cl_Silences_9 is_Silence in_Silence t_Silence_ok (by decide) rfl ?_
  show ax_G _ _ _ _ _ _ _ [.ref 45, .int 5, .ref 23] _ _
  refine s_dup 41 rfl rfl rfl ?_
  refine s_callIN0 (mc := 21) (ms := 196) (mc2 := 2) (ms2 := 22) 2 44 rfl rfl mv_Silences_24 (by decide) (Nat.le_of_ble_eq_true rfl) (Nat.le_of_ble_eq_true rfl) ?_
  refine s_aload_n 1 rfl rfl rfl ?_
  refine s_objInit 4 rfl rfl oi_Silence_3 oi_2 oi_3 (by decide) (Nat.le_of_ble_eq_true rfl) ?_
  refine s_aload_n 5 rfl rfl rfl ?_
  refine s_new (mc := 1) (ms := 20) 7 (fs := [.null, .int 0]) t_Row 8 rfl rfl rfl cl_Silence_9 is_Row in_Row t_Row_ok (by decide) rfl ?_
  show ax_G _ _ _ _ _ _ _ [.ref 46, .ref 45] _ _
  refine s_dup 9 rfl rfl rfl ?_
  refine s_bipush 20 11 rfl rfl (by decide) ?_
  refine s_callI1 (mc := 0) (ms := 0) (mc2 := 1) (ms2 := 20) 1 14 rfl rfl mv_Silence_11 (by decide) (Nat.le_of_ble_eq_true rfl) (Nat.le_of_ble_eq_true rfl) ?_
  refine s_aload_n 1 rfl rfl rfl ?_
  refine s_objInit 4 rfl rfl oi_Row_3 oi_2 oi_3 (by decide) (Nat.le_of_ble_eq_true rfl) ?_
  refine s_aload_n 5 rfl rfl rfl ?_
  refine s_iload_n 6 rfl rfl rfl ?_
  refine s_iconst 0 7 rfl rfl (by decide) ?_
  refine s_mmax 10 rfl rfl mm_Row_9 (by decide) (Nat.le_of_ble_eq_true rfl) ?_
  show ax_G _ _ _ _ _ _ _ [.int 20, .ref 46] _ _
  refine s_newarray (mc := 0) (ms := 0) 1 20 (a0 := (20, .inl (fun _ => 0))) 12 rfl rfl rfl ac_byte (fun _ h => by cases h) (fun _ => rfl) (by decide) (by decide) (by decide) ?_
  show ax_G _ _ _ _ _ _ _ [.ref 47, .ref 46] _ _
  refine s_putfield 7 0 (.array .byte) 15 rfl rfl fp_Row_15 rfl (by decide) ⟨rfl, rfl⟩ (fun _ => rfl) ?_
  refine s_return rfl rfl ?_
  show ax_G _ _ _ _ _ _ _ [.ref 46, .ref 45] _ _
  refine s_putfield 8 5 (.object "AlarmGroups$Row") 17 rfl rfl fp_Silence_14 rfl (by decide) ⟨rfl, rfl⟩ (fun _ => rfl) ?_
  refine s_return rfl rfl ?_
  show ax_G _ _ _ _ _ _ _ [.ref 45, .int 5, .ref 23] _ _
  refine s_aastore 5 8 5 45 rfl rfl rfl rfl rfl rfl (by decide) (by decide) (by decide) ?_
  refine s_inc1 6 48 rfl rfl (by decide) rfl ?_
  refine s_goto 26 rfl (by decide) ?_
  refine s_iload_n 27 rfl rfl rfl ?_
  refine s_bipush 12 29 rfl rfl (by decide) ?_
  refine s_icmp_gt 51 32 rfl rfl (by decide) (fun c => absurd c (by decide)) (fun _ => ?_)
  refine s_aload_n 33 rfl rfl rfl ?_
  refine s_getfield 9 0 36 rfl rfl fl_Silences_11 rfl rfl ?_
  refine s_iload_n 37 rfl rfl rfl ?_
  refine s_new (mc := 20) (ms := 190) 8 (fs := [.int 0, .int 0, .int 0, .int 0, .long 0, .null]) t_Silence 40 rfl rfl rfl cl_Silences_9 is_Silence in_Silence t_Silence_ok (by decide) rfl ?_
  show ax_G _ _ _ _ _ _ _ [.ref 48, .int 6, .ref 23] _ _
  refine s_dup 41 rfl rfl rfl ?_
  refine s_callIN0 (mc := 18) (ms := 168) (mc2 := 2) (ms2 := 22) 2 44 rfl rfl mv_Silences_24 (by decide) (Nat.le_of_ble_eq_true rfl) (Nat.le_of_ble_eq_true rfl) ?_
  refine s_aload_n 1 rfl rfl rfl ?_
  refine s_objInit 4 rfl rfl oi_Silence_3 oi_2 oi_3 (by decide) (Nat.le_of_ble_eq_true rfl) ?_
  refine s_aload_n 5 rfl rfl rfl ?_
  refine s_new (mc := 1) (ms := 20) 7 (fs := [.null, .int 0]) t_Row 8 rfl rfl rfl cl_Silence_9 is_Row in_Row t_Row_ok (by decide) rfl ?_
  show ax_G _ _ _ _ _ _ _ [.ref 49, .ref 48] _ _
  refine s_dup 9 rfl rfl rfl ?_
  refine s_bipush 20 11 rfl rfl (by decide) ?_
  refine s_callI1 (mc := 0) (ms := 0) (mc2 := 1) (ms2 := 20) 1 14 rfl rfl mv_Silence_11 (by decide) (Nat.le_of_ble_eq_true rfl) (Nat.le_of_ble_eq_true rfl) ?_
  refine s_aload_n 1 rfl rfl rfl ?_
  refine s_objInit 4 rfl rfl oi_Row_3 oi_2 oi_3 (by decide) (Nat.le_of_ble_eq_true rfl) ?_
  refine s_aload_n 5 rfl rfl rfl ?_
  refine s_iload_n 6 rfl rfl rfl ?_
  refine s_iconst 0 7 rfl rfl (by decide) ?_
  refine s_mmax 10 rfl rfl mm_Row_9 (by decide) (Nat.le_of_ble_eq_true rfl) ?_
  show ax_G _ _ _ _ _ _ _ [.int 20, .ref 49] _ _
  refine s_newarray (mc := 0) (ms := 0) 1 20 (a0 := (20, .inl (fun _ => 0))) 12 rfl rfl rfl ac_byte (fun _ h => by cases h) (fun _ => rfl) (by decide) (by decide) (by decide) ?_
  show ax_G _ _ _ _ _ _ _ [.ref 50, .ref 49] _ _
  refine s_putfield 7 0 (.array .byte) 15 rfl rfl fp_Row_15 rfl (by decide) ⟨rfl, rfl⟩ (fun _ => rfl) ?_
  refine s_return rfl rfl ?_
  show ax_G _ _ _ _ _ _ _ [.ref 49, .ref 48] _ _
  refine s_putfield 8 5 (.object "AlarmGroups$Row") 17 rfl rfl fp_Silence_14 rfl (by decide) ⟨rfl, rfl⟩ (fun _ => rfl) ?_
  refine s_return rfl rfl ?_
  show ax_G _ _ _ _ _ _ _ [.ref 48, .int 6, .ref 23] _ _
  refine s_aastore 5 8 6 45 rfl rfl rfl rfl rfl rfl (by decide) (by decide) (by decide) ?_
  refine s_inc1 7 48 rfl rfl (by decide) rfl ?_
  refine s_goto 26 rfl (by decide) ?_
  refine s_iload_n 27 rfl rfl rfl ?_
  refine s_bipush 12 29 rfl rfl (by decide) ?_
  refine s_icmp_gt 51 32 rfl rfl (by decide) (fun c => absurd c (by decide)) (fun _ => ?_)
  refine s_aload_n 33 rfl rfl rfl ?_
  refine s_getfield 9 0 36 rfl rfl fl_Silences_11 rfl rfl ?_
  refine s_iload_n 37 rfl rfl rfl ?_
  refine s_new (mc := 17) (ms := 162) 8 (fs := [.int 0, .int 0, .int 0, .int 0, .long 0, .null]) t_Silence 40 rfl rfl rfl cl_Silences_9 is_Silence in_Silence t_Silence_ok (by decide) rfl ?_
  show ax_G _ _ _ _ _ _ _ [.ref 51, .int 7, .ref 23] _ _
  refine s_dup 41 rfl rfl rfl ?_
  refine s_callIN0 (mc := 15) (ms := 140) (mc2 := 2) (ms2 := 22) 2 44 rfl rfl mv_Silences_24 (by decide) (Nat.le_of_ble_eq_true rfl) (Nat.le_of_ble_eq_true rfl) ?_
  refine s_aload_n 1 rfl rfl rfl ?_
  refine s_objInit 4 rfl rfl oi_Silence_3 oi_2 oi_3 (by decide) (Nat.le_of_ble_eq_true rfl) ?_
  refine s_aload_n 5 rfl rfl rfl ?_
  refine s_new (mc := 1) (ms := 20) 7 (fs := [.null, .int 0]) t_Row 8 rfl rfl rfl cl_Silence_9 is_Row in_Row t_Row_ok (by decide) rfl ?_
  show ax_G _ _ _ _ _ _ _ [.ref 52, .ref 51] _ _
  refine s_dup 9 rfl rfl rfl ?_
  refine s_bipush 20 11 rfl rfl (by decide) ?_
  refine s_callI1 (mc := 0) (ms := 0) (mc2 := 1) (ms2 := 20) 1 14 rfl rfl mv_Silence_11 (by decide) (Nat.le_of_ble_eq_true rfl) (Nat.le_of_ble_eq_true rfl) ?_
  refine s_aload_n 1 rfl rfl rfl ?_
  refine s_objInit 4 rfl rfl oi_Row_3 oi_2 oi_3 (by decide) (Nat.le_of_ble_eq_true rfl) ?_
  refine s_aload_n 5 rfl rfl rfl ?_
  refine s_iload_n 6 rfl rfl rfl ?_
  refine s_iconst 0 7 rfl rfl (by decide) ?_
  refine s_mmax 10 rfl rfl mm_Row_9 (by decide) (Nat.le_of_ble_eq_true rfl) ?_
  show ax_G _ _ _ _ _ _ _ [.int 20, .ref 52] _ _
  refine s_newarray (mc := 0) (ms := 0) 1 20 (a0 := (20, .inl (fun _ => 0))) 12 rfl rfl rfl ac_byte (fun _ h => by cases h) (fun _ => rfl) (by decide) (by decide) (by decide) ?_
  show ax_G _ _ _ _ _ _ _ [.ref 53, .ref 52] _ _
  refine s_putfield 7 0 (.array .byte) 15 rfl rfl fp_Row_15 rfl (by decide) ⟨rfl, rfl⟩ (fun _ => rfl) ?_
  refine s_return rfl rfl ?_
  show ax_G _ _ _ _ _ _ _ [.ref 52, .ref 51] _ _
  refine s_putfield 8 5 (.object "AlarmGroups$Row") 17 rfl rfl fp_Silence_14 rfl (by decide) ⟨rfl, rfl⟩ (fun _ => rfl) ?_
  refine s_return rfl rfl ?_
  show ax_G _ _ _ _ _ _ _ [.ref 51, .int 7, .ref 23] _ _
  refine s_aastore 5 8 7 45 rfl rfl rfl rfl rfl rfl (by decide) (by decide) (by decide) ?_
  refine s_inc1 8 48 rfl rfl (by decide) rfl ?_
  refine s_goto 26 rfl (by decide) ?_
  refine s_iload_n 27 rfl rfl rfl ?_
  refine s_bipush 12 29 rfl rfl (by decide) ?_
  refine s_icmp_gt 51 32 rfl rfl (by decide) (fun c => absurd c (by decide)) (fun _ => ?_)
  refine s_aload_n 33 rfl rfl rfl ?_
  refine s_getfield 9 0 36 rfl rfl fl_Silences_11 rfl rfl ?_
  refine s_iload_n 37 rfl rfl rfl ?_
  refine s_new (mc := 14) (ms := 134) 8 (fs := [.int 0, .int 0, .int 0, .int 0, .long 0, .null]) t_Silence 40 rfl rfl rfl cl_Silences_9 is_Silence in_Silence t_Silence_ok (by decide) rfl ?_
  show ax_G _ _ _ _ _ _ _ [.ref 54, .int 8, .ref 23] _ _
  refine s_dup 41 rfl rfl rfl ?_
  refine s_callIN0 (mc := 12) (ms := 112) (mc2 := 2) (ms2 := 22) 2 44 rfl rfl mv_Silences_24 (by decide) (Nat.le_of_ble_eq_true rfl) (Nat.le_of_ble_eq_true rfl) ?_
  refine s_aload_n 1 rfl rfl rfl ?_
  refine s_objInit 4 rfl rfl oi_Silence_3 oi_2 oi_3 (by decide) (Nat.le_of_ble_eq_true rfl) ?_
  refine s_aload_n 5 rfl rfl rfl ?_
  refine s_new (mc := 1) (ms := 20) 7 (fs := [.null, .int 0]) t_Row 8 rfl rfl rfl cl_Silence_9 is_Row in_Row t_Row_ok (by decide) rfl ?_
  show ax_G _ _ _ _ _ _ _ [.ref 55, .ref 54] _ _
  refine s_dup 9 rfl rfl rfl ?_
  refine s_bipush 20 11 rfl rfl (by decide) ?_
  refine s_callI1 (mc := 0) (ms := 0) (mc2 := 1) (ms2 := 20) 1 14 rfl rfl mv_Silence_11 (by decide) (Nat.le_of_ble_eq_true rfl) (Nat.le_of_ble_eq_true rfl) ?_
  refine s_aload_n 1 rfl rfl rfl ?_
  refine s_objInit 4 rfl rfl oi_Row_3 oi_2 oi_3 (by decide) (Nat.le_of_ble_eq_true rfl) ?_
  refine s_aload_n 5 rfl rfl rfl ?_
  refine s_iload_n 6 rfl rfl rfl ?_
  refine s_iconst 0 7 rfl rfl (by decide) ?_
  refine s_mmax 10 rfl rfl mm_Row_9 (by decide) (Nat.le_of_ble_eq_true rfl) ?_
  show ax_G _ _ _ _ _ _ _ [.int 20, .ref 55] _ _
  refine s_newarray (mc := 0) (ms := 0) 1 20 (a0 := (20, .inl (fun _ => 0))) 12 rfl rfl rfl ac_byte (fun _ h => by cases h) (fun _ => rfl) (by decide) (by decide) (by decide) ?_
  show ax_G _ _ _ _ _ _ _ [.ref 56, .ref 55] _ _
  refine s_putfield 7 0 (.array .byte) 15 rfl rfl fp_Row_15 rfl (by decide) ⟨rfl, rfl⟩ (fun _ => rfl) ?_
  refine s_return rfl rfl ?_
  show ax_G _ _ _ _ _ _ _ [.ref 55, .ref 54] _ _
  refine s_putfield 8 5 (.object "AlarmGroups$Row") 17 rfl rfl fp_Silence_14 rfl (by decide) ⟨rfl, rfl⟩ (fun _ => rfl) ?_
  refine s_return rfl rfl ?_
  show ax_G _ _ _ _ _ _ _ [.ref 54, .int 8, .ref 23] _ _
  refine s_aastore 5 8 8 45 rfl rfl rfl rfl rfl rfl (by decide) (by decide) (by decide) ?_
  refine s_inc1 9 48 rfl rfl (by decide) rfl ?_
  refine s_goto 26 rfl (by decide) ?_
  refine s_iload_n 27 rfl rfl rfl ?_
  refine s_bipush 12 29 rfl rfl (by decide) ?_
  refine s_icmp_gt 51 32 rfl rfl (by decide) (fun c => absurd c (by decide)) (fun _ => ?_)
  refine s_aload_n 33 rfl rfl rfl ?_
  refine s_getfield 9 0 36 rfl rfl fl_Silences_11 rfl rfl ?_
  refine s_iload_n 37 rfl rfl rfl ?_
  refine s_new (mc := 11) (ms := 106) 8 (fs := [.int 0, .int 0, .int 0, .int 0, .long 0, .null]) t_Silence 40 rfl rfl rfl cl_Silences_9 is_Silence in_Silence t_Silence_ok (by decide) rfl ?_
  show ax_G _ _ _ _ _ _ _ [.ref 57, .int 9, .ref 23] _ _
  refine s_dup 41 rfl rfl rfl ?_
  refine s_callIN0 (mc := 9) (ms := 84) (mc2 := 2) (ms2 := 22) 2 44 rfl rfl mv_Silences_24 (by decide) (Nat.le_of_ble_eq_true rfl) (Nat.le_of_ble_eq_true rfl) ?_
  refine s_aload_n 1 rfl rfl rfl ?_
  refine s_objInit 4 rfl rfl oi_Silence_3 oi_2 oi_3 (by decide) (Nat.le_of_ble_eq_true rfl) ?_
  refine s_aload_n 5 rfl rfl rfl ?_
  refine s_new (mc := 1) (ms := 20) 7 (fs := [.null, .int 0]) t_Row 8 rfl rfl rfl cl_Silence_9 is_Row in_Row t_Row_ok (by decide) rfl ?_
  show ax_G _ _ _ _ _ _ _ [.ref 58, .ref 57] _ _
  refine s_dup 9 rfl rfl rfl ?_
  refine s_bipush 20 11 rfl rfl (by decide) ?_
  refine s_callI1 (mc := 0) (ms := 0) (mc2 := 1) (ms2 := 20) 1 14 rfl rfl mv_Silence_11 (by decide) (Nat.le_of_ble_eq_true rfl) (Nat.le_of_ble_eq_true rfl) ?_
  refine s_aload_n 1 rfl rfl rfl ?_
  refine s_objInit 4 rfl rfl oi_Row_3 oi_2 oi_3 (by decide) (Nat.le_of_ble_eq_true rfl) ?_
  refine s_aload_n 5 rfl rfl rfl ?_
  refine s_iload_n 6 rfl rfl rfl ?_
  refine s_iconst 0 7 rfl rfl (by decide) ?_
  refine s_mmax 10 rfl rfl mm_Row_9 (by decide) (Nat.le_of_ble_eq_true rfl) ?_
  show ax_G _ _ _ _ _ _ _ [.int 20, .ref 58] _ _
  refine s_newarray (mc := 0) (ms := 0) 1 20 (a0 := (20, .inl (fun _ => 0))) 12 rfl rfl rfl ac_byte (fun _ h => by cases h) (fun _ => rfl) (by decide) (by decide) (by decide) ?_
  show ax_G _ _ _ _ _ _ _ [.ref 59, .ref 58] _ _
  refine s_putfield 7 0 (.array .byte) 15 rfl rfl fp_Row_15 rfl (by decide) ⟨rfl, rfl⟩ (fun _ => rfl) ?_
  refine s_return rfl rfl ?_
  show ax_G _ _ _ _ _ _ _ [.ref 58, .ref 57] _ _
  refine s_putfield 8 5 (.object "AlarmGroups$Row") 17 rfl rfl fp_Silence_14 rfl (by decide) ⟨rfl, rfl⟩ (fun _ => rfl) ?_
  refine s_return rfl rfl ?_
  show ax_G _ _ _ _ _ _ _ [.ref 57, .int 9, .ref 23] _ _
  refine s_aastore 5 8 9 45 rfl rfl rfl rfl rfl rfl (by decide) (by decide) (by decide) ?_
  refine s_inc1 10 48 rfl rfl (by decide) rfl ?_
  refine s_goto 26 rfl (by decide) ?_
  refine s_iload_n 27 rfl rfl rfl ?_
  refine s_bipush 12 29 rfl rfl (by decide) ?_
  refine s_icmp_gt 51 32 rfl rfl (by decide) (fun c => absurd c (by decide)) (fun _ => ?_)
  refine s_aload_n 33 rfl rfl rfl ?_
  refine s_getfield 9 0 36 rfl rfl fl_Silences_11 rfl rfl ?_
  refine s_iload_n 37 rfl rfl rfl ?_
  refine s_new (mc := 8) (ms := 78) 8 (fs := [.int 0, .int 0, .int 0, .int 0, .long 0, .null]) t_Silence 40 rfl rfl rfl cl_Silences_9 is_Silence in_Silence t_Silence_ok (by decide) rfl ?_
  show ax_G _ _ _ _ _ _ _ [.ref 60, .int 10, .ref 23] _ _
  refine s_dup 41 rfl rfl rfl ?_
  refine s_callIN0 (mc := 6) (ms := 56) (mc2 := 2) (ms2 := 22) 2 44 rfl rfl mv_Silences_24 (by decide) (Nat.le_of_ble_eq_true rfl) (Nat.le_of_ble_eq_true rfl) ?_
  refine s_aload_n 1 rfl rfl rfl ?_
  refine s_objInit 4 rfl rfl oi_Silence_3 oi_2 oi_3 (by decide) (Nat.le_of_ble_eq_true rfl) ?_
  refine s_aload_n 5 rfl rfl rfl ?_
  refine s_new (mc := 1) (ms := 20) 7 (fs := [.null, .int 0]) t_Row 8 rfl rfl rfl cl_Silence_9 is_Row in_Row t_Row_ok (by decide) rfl ?_
  show ax_G _ _ _ _ _ _ _ [.ref 61, .ref 60] _ _
  refine s_dup 9 rfl rfl rfl ?_
  refine s_bipush 20 11 rfl rfl (by decide) ?_
  refine s_callI1 (mc := 0) (ms := 0) (mc2 := 1) (ms2 := 20) 1 14 rfl rfl mv_Silence_11 (by decide) (Nat.le_of_ble_eq_true rfl) (Nat.le_of_ble_eq_true rfl) ?_
  refine s_aload_n 1 rfl rfl rfl ?_
  refine s_objInit 4 rfl rfl oi_Row_3 oi_2 oi_3 (by decide) (Nat.le_of_ble_eq_true rfl) ?_
  refine s_aload_n 5 rfl rfl rfl ?_
  refine s_iload_n 6 rfl rfl rfl ?_
  refine s_iconst 0 7 rfl rfl (by decide) ?_
  refine s_mmax 10 rfl rfl mm_Row_9 (by decide) (Nat.le_of_ble_eq_true rfl) ?_
  show ax_G _ _ _ _ _ _ _ [.int 20, .ref 61] _ _
  refine s_newarray (mc := 0) (ms := 0) 1 20 (a0 := (20, .inl (fun _ => 0))) 12 rfl rfl rfl ac_byte (fun _ h => by cases h) (fun _ => rfl) (by decide) (by decide) (by decide) ?_
  show ax_G _ _ _ _ _ _ _ [.ref 62, .ref 61] _ _
  refine s_putfield 7 0 (.array .byte) 15 rfl rfl fp_Row_15 rfl (by decide) ⟨rfl, rfl⟩ (fun _ => rfl) ?_
  refine s_return rfl rfl ?_
  show ax_G _ _ _ _ _ _ _ [.ref 61, .ref 60] _ _
  refine s_putfield 8 5 (.object "AlarmGroups$Row") 17 rfl rfl fp_Silence_14 rfl (by decide) ⟨rfl, rfl⟩ (fun _ => rfl) ?_
  refine s_return rfl rfl ?_
  show ax_G _ _ _ _ _ _ _ [.ref 60, .int 10, .ref 23] _ _
  refine s_aastore 5 8 10 45 rfl rfl rfl rfl rfl rfl (by decide) (by decide) (by decide) ?_
  refine s_inc1 11 48 rfl rfl (by decide) rfl ?_
  refine s_goto 26 rfl (by decide) ?_
  refine s_iload_n 27 rfl rfl rfl ?_
  refine s_bipush 12 29 rfl rfl (by decide) ?_
  refine s_icmp_gt 51 32 rfl rfl (by decide) (fun c => absurd c (by decide)) (fun _ => ?_)
  refine s_aload_n 33 rfl rfl rfl ?_
  refine s_getfield 9 0 36 rfl rfl fl_Silences_11 rfl rfl ?_
  refine s_iload_n 37 rfl rfl rfl ?_
  refine s_new (mc := 5) (ms := 50) 8 (fs := [.int 0, .int 0, .int 0, .int 0, .long 0, .null]) t_Silence 40 rfl rfl rfl cl_Silences_9 is_Silence in_Silence t_Silence_ok (by decide) rfl ?_
  show ax_G _ _ _ _ _ _ _ [.ref 63, .int 11, .ref 23] _ _
  refine s_dup 41 rfl rfl rfl ?_
  refine s_callIN0 (mc := 3) (ms := 28) (mc2 := 2) (ms2 := 22) 2 44 rfl rfl mv_Silences_24 (by decide) (Nat.le_of_ble_eq_true rfl) (Nat.le_of_ble_eq_true rfl) ?_
  refine s_aload_n 1 rfl rfl rfl ?_
  refine s_objInit 4 rfl rfl oi_Silence_3 oi_2 oi_3 (by decide) (Nat.le_of_ble_eq_true rfl) ?_
  refine s_aload_n 5 rfl rfl rfl ?_
  refine s_new (mc := 1) (ms := 20) 7 (fs := [.null, .int 0]) t_Row 8 rfl rfl rfl cl_Silence_9 is_Row in_Row t_Row_ok (by decide) rfl ?_
  show ax_G _ _ _ _ _ _ _ [.ref 64, .ref 63] _ _
  refine s_dup 9 rfl rfl rfl ?_
  refine s_bipush 20 11 rfl rfl (by decide) ?_
  refine s_callI1 (mc := 0) (ms := 0) (mc2 := 1) (ms2 := 20) 1 14 rfl rfl mv_Silence_11 (by decide) (Nat.le_of_ble_eq_true rfl) (Nat.le_of_ble_eq_true rfl) ?_
  refine s_aload_n 1 rfl rfl rfl ?_
  refine s_objInit 4 rfl rfl oi_Row_3 oi_2 oi_3 (by decide) (Nat.le_of_ble_eq_true rfl) ?_
  refine s_aload_n 5 rfl rfl rfl ?_
  refine s_iload_n 6 rfl rfl rfl ?_
  refine s_iconst 0 7 rfl rfl (by decide) ?_
  refine s_mmax 10 rfl rfl mm_Row_9 (by decide) (Nat.le_of_ble_eq_true rfl) ?_
  show ax_G _ _ _ _ _ _ _ [.int 20, .ref 64] _ _
  refine s_newarray (mc := 0) (ms := 0) 1 20 (a0 := (20, .inl (fun _ => 0))) 12 rfl rfl rfl ac_byte (fun _ h => by cases h) (fun _ => rfl) (by decide) (by decide) (by decide) ?_
  show ax_G _ _ _ _ _ _ _ [.ref 65, .ref 64] _ _
  refine s_putfield 7 0 (.array .byte) 15 rfl rfl fp_Row_15 rfl (by decide) ⟨rfl, rfl⟩ (fun _ => rfl) ?_
  refine s_return rfl rfl ?_
  show ax_G _ _ _ _ _ _ _ [.ref 64, .ref 63] _ _
  refine s_putfield 8 5 (.object "AlarmGroups$Row") 17 rfl rfl fp_Silence_14 rfl (by decide) ⟨rfl, rfl⟩ (fun _ => rfl) ?_
  refine s_return rfl rfl ?_
  show ax_G _ _ _ _ _ _ _ [.ref 63, .int 11, .ref 23] _ _
  refine s_aastore 5 8 11 45 rfl rfl rfl rfl rfl rfl (by decide) (by decide) (by decide) ?_
  refine s_inc1 12 48 rfl rfl (by decide) rfl ?_
  refine s_goto 26 rfl (by decide) ?_
  refine s_iload_n 27 rfl rfl rfl ?_
  refine s_bipush 12 29 rfl rfl (by decide) ?_
  refine s_icmp_gt 51 32 rfl rfl (by decide) (fun c => absurd c (by decide)) (fun _ => ?_)
  refine s_aload_n 33 rfl rfl rfl ?_
  refine s_getfield 9 0 36 rfl rfl fl_Silences_11 rfl rfl ?_
  refine s_iload_n 37 rfl rfl rfl ?_
  refine s_new (mc := 2) (ms := 22) 8 (fs := [.int 0, .int 0, .int 0, .int 0, .long 0, .null]) t_Silence 40 rfl rfl rfl cl_Silences_9 is_Silence in_Silence t_Silence_ok (by decide) rfl ?_
  show ax_G _ _ _ _ _ _ _ [.ref 66, .int 12, .ref 23] _ _
  refine s_dup 41 rfl rfl rfl ?_
  refine s_callIN0 (mc := 0) (ms := 0) (mc2 := 2) (ms2 := 22) 2 44 rfl rfl mv_Silences_24 (by decide) (Nat.le_of_ble_eq_true rfl) (Nat.le_of_ble_eq_true rfl) ?_
  refine s_aload_n 1 rfl rfl rfl ?_
  refine s_objInit 4 rfl rfl oi_Silence_3 oi_2 oi_3 (by decide) (Nat.le_of_ble_eq_true rfl) ?_
  refine s_aload_n 5 rfl rfl rfl ?_
  refine s_new (mc := 1) (ms := 20) 7 (fs := [.null, .int 0]) t_Row 8 rfl rfl rfl cl_Silence_9 is_Row in_Row t_Row_ok (by decide) rfl ?_
  show ax_G _ _ _ _ _ _ _ [.ref 67, .ref 66] _ _
  refine s_dup 9 rfl rfl rfl ?_
  refine s_bipush 20 11 rfl rfl (by decide) ?_
  refine s_callI1 (mc := 0) (ms := 0) (mc2 := 1) (ms2 := 20) 1 14 rfl rfl mv_Silence_11 (by decide) (Nat.le_of_ble_eq_true rfl) (Nat.le_of_ble_eq_true rfl) ?_
  refine s_aload_n 1 rfl rfl rfl ?_
  refine s_objInit 4 rfl rfl oi_Row_3 oi_2 oi_3 (by decide) (Nat.le_of_ble_eq_true rfl) ?_
  refine s_aload_n 5 rfl rfl rfl ?_
  refine s_iload_n 6 rfl rfl rfl ?_
  refine s_iconst 0 7 rfl rfl (by decide) ?_
  refine s_mmax 10 rfl rfl mm_Row_9 (by decide) (Nat.le_of_ble_eq_true rfl) ?_
  show ax_G _ _ _ _ _ _ _ [.int 20, .ref 67] _ _
  refine s_newarray (mc := 0) (ms := 0) 1 20 (a0 := (20, .inl (fun _ => 0))) 12 rfl rfl rfl ac_byte (fun _ h => by cases h) (fun _ => rfl) (by decide) (by decide) (by decide) ?_
  show ax_G _ _ _ _ _ _ _ [.ref 68, .ref 67] _ _
  refine s_putfield 7 0 (.array .byte) 15 rfl rfl fp_Row_15 rfl (by decide) ⟨rfl, rfl⟩ (fun _ => rfl) ?_
  refine s_return rfl rfl ?_
  show ax_G _ _ _ _ _ _ _ [.ref 67, .ref 66] _ _
  refine s_putfield 8 5 (.object "AlarmGroups$Row") 17 rfl rfl fp_Silence_14 rfl (by decide) ⟨rfl, rfl⟩ (fun _ => rfl) ?_
  refine s_return rfl rfl ?_
  show ax_G _ _ _ _ _ _ _ [.ref 66, .int 12, .ref 23] _ _
  refine s_aastore 5 8 12 45 rfl rfl rfl rfl rfl rfl (by decide) (by decide) (by decide) ?_
  refine s_inc1 13 48 rfl rfl (by decide) rfl ?_
  refine s_goto 26 rfl (by decide) ?_
  refine s_iload_n 27 rfl rfl rfl ?_
  refine s_bipush 12 29 rfl rfl (by decide) ?_
  refine s_icmp_gt 51 32 rfl rfl (by decide) (fun _ => ?_) (fun c => absurd (by decide) c)
  refine s_return rfl rfl ?_
  show ax_G _ _ _ _ _ _ _ [.ref 22, .ref 0] _ _
  refine s_putfield 11 5 (.object "AlarmGroups$Silences") 76 rfl rfl fp_Top_45 rfl (by decide) ⟨rfl, rfl⟩ (fun _ => rfl) ?_
  refine s_aload_n 77 rfl rfl rfl ?_
  refine s_new (mc := 73) (ms := 1186) 6 (fs := [.null, .null, .int 0, .int 0, .null]) t_Ranks 80 rfl rfl rfl cl_Top_49 is_Ranks in_Ranks t_Ranks_ok (by decide) rfl ?_
  show ax_G _ _ _ _ _ _ _ [.ref 69, .ref 0] _ _
  refine s_dup 81 rfl rfl rfl ?_
  refine s_callIN0 (mc := 70) (ms := 1080) (mc2 := 3) (ms2 := 106) 3 84 rfl rfl mv_Top_51 (by decide) (Nat.le_of_ble_eq_true rfl) (Nat.le_of_ble_eq_true rfl) ?_
  refine s_aload_n 1 rfl rfl rfl ?_
  refine s_objInit 4 rfl rfl oi_Ranks_3 oi_2 oi_3 (by decide) (Nat.le_of_ble_eq_true rfl) ?_
  refine s_aload_n 5 rfl rfl rfl ?_
  refine s_bipush 50 7 rfl rfl (by decide) ?_
  refine s_newarray (mc := 2) (ms := 56) 0 50 (a0 := (50, .inl (fun _ => 0))) 9 rfl rfl rfl ac_int (fun _ h => by cases h) (fun _ => rfl) (by decide) (by decide) (by decide) ?_
  show ax_G _ _ _ _ _ _ _ [.ref 70, .ref 69] _ _
  refine s_putfield 6 0 (.array .int) 12 rfl rfl fp_Ranks_9 rfl (by decide) ⟨rfl, rfl⟩ (fun _ => rfl) ?_
  refine s_aload_n 13 rfl rfl rfl ?_
  refine s_bipush 50 15 rfl rfl (by decide) ?_
  refine s_newarray (mc := 1) (ms := 6) 0 50 (a0 := (50, .inl (fun _ => 0))) 17 rfl rfl rfl ac_int (fun _ h => by cases h) (fun _ => rfl) (by decide) (by decide) (by decide) ?_
  show ax_G _ _ _ _ _ _ _ [.ref 71, .ref 69] _ _
  refine s_putfield 6 1 (.array .int) 20 rfl rfl fp_Ranks_15 rfl (by decide) ⟨rfl, rfl⟩ (fun _ => rfl) ?_
  refine s_aload_n 21 rfl rfl rfl ?_
  refine s_bipush 6 23 rfl rfl (by decide) ?_
  refine s_newarray (mc := 0) (ms := 0) 0 6 (a0 := (6, .inl (fun _ => 0))) 25 rfl rfl rfl ac_int (fun _ h => by cases h) (fun _ => rfl) (by decide) (by decide) (by decide) ?_
  show ax_G _ _ _ _ _ _ _ [.ref 72, .ref 69] _ _
  refine s_putfield 6 4 (.array .int) 28 rfl rfl fp_Ranks_18 rfl (by decide) ⟨rfl, rfl⟩ (fun _ => rfl) ?_
  refine s_return rfl rfl ?_
  show ax_G _ _ _ _ _ _ _ [.ref 69, .ref 0] _ _
  refine s_putfield 11 6 (.object "AlarmGroups$Ranks") 87 rfl rfl fp_Top_52 rfl (by decide) ⟨rfl, rfl⟩ (fun _ => rfl) ?_
  refine s_aload_n 88 rfl rfl rfl ?_
  refine s_new (mc := 69) (ms := 1078) 3 (fs := [.null, .int 0]) t_Lists 91 rfl rfl rfl cl_Top_56 is_Lists in_Lists t_Lists_ok (by decide) rfl ?_
  show ax_G _ _ _ _ _ _ _ [.ref 73, .ref 0] _ _
  refine s_dup 92 rfl rfl rfl ?_
  refine s_callIN0 (mc := 68) (ms := 1074) (mc2 := 1) (ms2 := 4) 3 95 rfl rfl mv_Top_58 (by decide) (Nat.le_of_ble_eq_true rfl) (Nat.le_of_ble_eq_true rfl) ?_
  refine s_aload_n 1 rfl rfl rfl ?_
  refine s_objInit 4 rfl rfl oi_Lists_3 oi_2 oi_3 (by decide) (Nat.le_of_ble_eq_true rfl) ?_
  refine s_aload_n 5 rfl rfl rfl ?_
  refine s_iconst 4 6 rfl rfl (by decide) ?_
  refine s_newarray (mc := 0) (ms := 0) 0 4 (a0 := (4, .inl (fun _ => 0))) 8 rfl rfl rfl ac_int (fun _ h => by cases h) (fun _ => rfl) (by decide) (by decide) (by decide) ?_
  show ax_G _ _ _ _ _ _ _ [.ref 74, .ref 73] _ _
  refine s_putfield 3 0 (.array .int) 11 rfl rfl fp_Lists_11 rfl (by decide) ⟨rfl, rfl⟩ (fun _ => rfl) ?_
  refine s_return rfl rfl ?_
  show ax_G _ _ _ _ _ _ _ [.ref 73, .ref 0] _ _
  refine s_putfield 11 7 (.object "AlarmGroups$Lists") 98 rfl rfl fp_Top_59 rfl (by decide) ⟨rfl, rfl⟩ (fun _ => rfl) ?_
  refine s_aload_n 99 rfl rfl rfl ?_
  refine s_bipush 6 101 rfl rfl (by decide) ?_
  refine s_anewq (mc := 67) (ms := 1068) 4 6 "AlarmGroups$Parts" 104 rfl rfl rfl cl_Top_63 (Or.inl rfl) (by decide) (by decide) ?_
  show ax_G _ _ _ _ _ _ _ [.ref 75, .ref 0] _ _
  refine s_putfield 11 8 (.array (.object "AlarmGroups$Parts")) 107 rfl rfl fp_Top_65 rfl (by decide) ⟨rfl, rfl⟩ (fun _ => rfl) ?_
  refine s_aload_n 108 rfl rfl rfl ?_
  refine s_bipush 8 110 rfl rfl (by decide) ?_
  refine s_anewq (mc := 66) (ms := 1060) 4 8 "AlarmGroups$Parts" 113 rfl rfl rfl cl_Top_63 (Or.inl rfl) (by decide) (by decide) ?_
  show ax_G _ _ _ _ _ _ _ [.ref 76, .ref 0] _ _
  refine s_putfield 11 9 (.array (.object "AlarmGroups$Parts")) 116 rfl rfl fp_Top_69 rfl (by decide) ⟨rfl, rfl⟩ (fun _ => rfl) ?_
  refine s_aload_n 117 rfl rfl rfl ?_
  refine s_bipush 8 119 rfl rfl (by decide) ?_
  refine s_newarray (mc := 65) (ms := 1052) 0 8 (a0 := (8, .inl (fun _ => 0))) 121 rfl rfl rfl ac_int (fun _ h => by cases h) (fun _ => rfl) (by decide) (by decide) (by decide) ?_
  show ax_G _ _ _ _ _ _ _ [.ref 77, .ref 0] _ _
  refine s_putfield 11 10 (.array .int) 124 rfl rfl fp_Top_72 rfl (by decide) ⟨rfl, rfl⟩ (fun _ => rfl) ?_
  refine s_aload_n 125 rfl rfl rfl ?_
  refine s_bipush 48 127 rfl rfl (by decide) ?_
  refine s_newarray (mc := 64) (ms := 1004) 3 48 (a0 := (48, .inr (.inl (fun _ => 0)))) 129 rfl rfl rfl ac_long (fun _ h => by cases h) (fun _ => rfl) (by decide) (by decide) (by decide) ?_
  show ax_G _ _ _ _ _ _ _ [.ref 78, .ref 0] _ _
  refine s_putfield 11 11 (.array .long) 132 rfl rfl fp_Top_76 rfl (by decide) ⟨rfl, rfl⟩ (fun _ => rfl) ?_
  refine s_aload_n 133 rfl rfl rfl ?_
  refine s_new (mc := 63) (ms := 1000) 2 (fs := [.null, .null, .null, .int 0]) t_Lines 136 rfl rfl rfl cl_Top_80 is_Lines in_Lines t_Lines_ok (by decide) rfl ?_
  show ax_G _ _ _ _ _ _ _ [.ref 79, .ref 0] _ _
  refine s_dup 137 rfl rfl rfl ?_
  refine s_callIN0 (mc := 60) (ms := 880) (mc2 := 3) (ms2 := 120) 3 140 rfl rfl mv_Top_82 (by decide) (Nat.le_of_ble_eq_true rfl) (Nat.le_of_ble_eq_true rfl) ?_
  refine s_aload_n 1 rfl rfl rfl ?_
  refine s_objInit 4 rfl rfl oi_Lines_3 oi_2 oi_3 (by decide) (Nat.le_of_ble_eq_true rfl) ?_
  refine s_aload_n 5 rfl rfl rfl ?_
  refine s_bipush 40 7 rfl rfl (by decide) ?_
  refine s_newarray (mc := 2) (ms := 80) 0 40 (a0 := (40, .inl (fun _ => 0))) 9 rfl rfl rfl ac_int (fun _ h => by cases h) (fun _ => rfl) (by decide) (by decide) (by decide) ?_
  show ax_G _ _ _ _ _ _ _ [.ref 80, .ref 79] _ _
  refine s_putfield 2 0 (.array .int) 12 rfl rfl fp_Lines_9 rfl (by decide) ⟨rfl, rfl⟩ (fun _ => rfl) ?_
  refine s_aload_n 13 rfl rfl rfl ?_
  refine s_bipush 40 15 rfl rfl (by decide) ?_
  refine s_newarray (mc := 1) (ms := 40) 0 40 (a0 := (40, .inl (fun _ => 0))) 17 rfl rfl rfl ac_int (fun _ h => by cases h) (fun _ => rfl) (by decide) (by decide) (by decide) ?_
  show ax_G _ _ _ _ _ _ _ [.ref 81, .ref 79] _ _
  refine s_putfield 2 1 (.array .int) 20 rfl rfl fp_Lines_15 rfl (by decide) ⟨rfl, rfl⟩ (fun _ => rfl) ?_
  refine s_aload_n 21 rfl rfl rfl ?_
  refine s_bipush 40 23 rfl rfl (by decide) ?_
  refine s_newarray (mc := 0) (ms := 0) 0 40 (a0 := (40, .inl (fun _ => 0))) 25 rfl rfl rfl ac_int (fun _ h => by cases h) (fun _ => rfl) (by decide) (by decide) (by decide) ?_
  show ax_G _ _ _ _ _ _ _ [.ref 82, .ref 79] _ _
  refine s_putfield 2 2 (.array .int) 28 rfl rfl fp_Lines_18 rfl (by decide) ⟨rfl, rfl⟩ (fun _ => rfl) ?_
  refine s_return rfl rfl ?_
  show ax_G _ _ _ _ _ _ _ [.ref 79, .ref 0] _ _
  refine s_putfield 11 12 (.object "AlarmGroups$Lines") 143 rfl rfl fp_Top_83 rfl (by decide) ⟨rfl, rfl⟩ (fun h => absurd h (by decide)) ?_
  refine s_aload_n 144 rfl rfl rfl ?_
  refine s_new (mc := 59) (ms := 876) 2 (fs := [.null, .null, .null, .int 0]) t_Lines 147 rfl rfl rfl cl_Top_80 is_Lines in_Lines t_Lines_ok (by decide) rfl ?_
  show ax_G _ _ _ _ _ _ _ [.ref 83, .ref 0] _ _
  refine s_dup 148 rfl rfl rfl ?_
  refine s_callIN0 (mc := 56) (ms := 756) (mc2 := 3) (ms2 := 120) 3 151 rfl rfl mv_Top_82 (by decide) (Nat.le_of_ble_eq_true rfl) (Nat.le_of_ble_eq_true rfl) ?_
  refine s_aload_n 1 rfl rfl rfl ?_
  refine s_objInit 4 rfl rfl oi_Lines_3 oi_2 oi_3 (by decide) (Nat.le_of_ble_eq_true rfl) ?_
  refine s_aload_n 5 rfl rfl rfl ?_
  refine s_bipush 40 7 rfl rfl (by decide) ?_
  refine s_newarray (mc := 2) (ms := 80) 0 40 (a0 := (40, .inl (fun _ => 0))) 9 rfl rfl rfl ac_int (fun _ h => by cases h) (fun _ => rfl) (by decide) (by decide) (by decide) ?_
  show ax_G _ _ _ _ _ _ _ [.ref 84, .ref 83] _ _
  refine s_putfield 2 0 (.array .int) 12 rfl rfl fp_Lines_9 rfl (by decide) ⟨rfl, rfl⟩ (fun _ => rfl) ?_
  refine s_aload_n 13 rfl rfl rfl ?_
  refine s_bipush 40 15 rfl rfl (by decide) ?_
  refine s_newarray (mc := 1) (ms := 40) 0 40 (a0 := (40, .inl (fun _ => 0))) 17 rfl rfl rfl ac_int (fun _ h => by cases h) (fun _ => rfl) (by decide) (by decide) (by decide) ?_
  show ax_G _ _ _ _ _ _ _ [.ref 85, .ref 83] _ _
  refine s_putfield 2 1 (.array .int) 20 rfl rfl fp_Lines_15 rfl (by decide) ⟨rfl, rfl⟩ (fun _ => rfl) ?_
  refine s_aload_n 21 rfl rfl rfl ?_
  refine s_bipush 40 23 rfl rfl (by decide) ?_
  refine s_newarray (mc := 0) (ms := 0) 0 40 (a0 := (40, .inl (fun _ => 0))) 25 rfl rfl rfl ac_int (fun _ h => by cases h) (fun _ => rfl) (by decide) (by decide) (by decide) ?_
  show ax_G _ _ _ _ _ _ _ [.ref 86, .ref 83] _ _
  refine s_putfield 2 2 (.array .int) 28 rfl rfl fp_Lines_18 rfl (by decide) ⟨rfl, rfl⟩ (fun _ => rfl) ?_
  refine s_return rfl rfl ?_
  show ax_G _ _ _ _ _ _ _ [.ref 83, .ref 0] _ _
  refine s_putfield 11 13 (.object "AlarmGroups$Lines") 154 rfl rfl fp_Top_87 rfl (by decide) ⟨rfl, rfl⟩ (fun h => absurd h (by decide)) ?_
  refine s_iconst 0 155 rfl rfl (by decide) ?_
  refine s_ist1 156 rfl rfl rfl ?_
  refine s_iload_n 157 rfl rfl rfl ?_
  refine s_bipush 6 159 rfl rfl (by decide) ?_
  refine s_icmp_ge 181 162 rfl rfl (by decide) (fun c => absurd c (by decide)) (fun _ => ?_)
  refine s_aload_n 163 rfl rfl rfl ?_
  refine s_getfield 11 8 166 rfl rfl fl_Top_65 rfl rfl ?_
  refine s_iload_n 167 rfl rfl rfl ?_
  refine s_new (mc := 55) (ms := 753) 5 (fs := [.null, .null, .int 0]) t_Parts 170 rfl rfl rfl cl_Top_63 is_Parts in_Parts t_Parts_ok (by decide) rfl ?_
  show ax_G _ _ _ _ _ _ _ [.ref 87, .int 0, .ref 75] _ _
  refine s_dup 171 rfl rfl rfl ?_
  refine s_callIN0 (mc := 52) (ms := 702) (mc2 := 3) (ms2 := 51) 3 174 rfl rfl mv_Top_90 (by decide) (Nat.le_of_ble_eq_true rfl) (Nat.le_of_ble_eq_true rfl) ?_
  refine s_aload_n 1 rfl rfl rfl ?_
  refine s_objInit 4 rfl rfl oi_Parts_3 oi_2 oi_3 (by decide) (Nat.le_of_ble_eq_true rfl) ?_
  refine s_aload_n 5 rfl rfl rfl ?_
  refine s_new (mc := 2) (ms := 49) 7 (fs := [.null, .int 0]) t_Row 8 rfl rfl rfl cl_Parts_9 is_Row in_Row t_Row_ok (by decide) rfl ?_
  show ax_G _ _ _ _ _ _ _ [.ref 88, .ref 87] _ _
  refine s_dup 9 rfl rfl rfl ?_
  refine s_bipush 24 11 rfl rfl (by decide) ?_
  refine s_callI1 (mc := 1) (ms := 25) (mc2 := 1) (ms2 := 24) 2 14 rfl rfl mv_Parts_11 (by decide) (Nat.le_of_ble_eq_true rfl) (Nat.le_of_ble_eq_true rfl) ?_
  refine s_aload_n 1 rfl rfl rfl ?_
  refine s_objInit 4 rfl rfl oi_Row_3 oi_2 oi_3 (by decide) (Nat.le_of_ble_eq_true rfl) ?_
  refine s_aload_n 5 rfl rfl rfl ?_
  refine s_iload_n 6 rfl rfl rfl ?_
  refine s_iconst 0 7 rfl rfl (by decide) ?_
  refine s_mmax 10 rfl rfl mm_Row_9 (by decide) (Nat.le_of_ble_eq_true rfl) ?_
  show ax_G _ _ _ _ _ _ _ [.int 24, .ref 88] _ _
  refine s_newarray (mc := 0) (ms := 0) 1 24 (a0 := (24, .inl (fun _ => 0))) 12 rfl rfl rfl ac_byte (fun _ h => by cases h) (fun _ => rfl) (by decide) (by decide) (by decide) ?_
  show ax_G _ _ _ _ _ _ _ [.ref 89, .ref 88] _ _
  refine s_putfield 7 0 (.array .byte) 15 rfl rfl fp_Row_15 rfl (by decide) ⟨rfl, rfl⟩ (fun _ => rfl) ?_
  refine s_return rfl rfl ?_
  show ax_G _ _ _ _ _ _ _ [.ref 88, .ref 87] _ _
  refine s_putfield 5 0 (.object "AlarmGroups$Row") 17 rfl rfl fp_Parts_14 rfl (by decide) ⟨rfl, rfl⟩ (fun _ => rfl) ?_
  refine s_aload_n 18 rfl rfl rfl ?_
  refine s_bipush 25 20 rfl rfl (by decide) ?_
  refine s_newarray (mc := 0) (ms := 0) 0 25 (a0 := (25, .inl (fun _ => 0))) 22 rfl rfl rfl ac_int (fun _ h => by cases h) (fun _ => rfl) (by decide) (by decide) (by decide) ?_
  show ax_G _ _ _ _ _ _ _ [.ref 90, .ref 87] _ _
  refine s_putfield 5 1 (.array .int) 25 rfl rfl fp_Parts_20 rfl (by decide) ⟨rfl, rfl⟩ (fun _ => rfl) ?_
  refine s_return rfl rfl ?_
  show ax_G _ _ _ _ _ _ _ [.ref 87, .int 0, .ref 75] _ _
  refine s_aastore 4 5 0 175 rfl rfl rfl rfl rfl rfl (by decide) (by decide) (by decide) ?_
  refine s_inc1 1 178 rfl rfl (by decide) rfl ?_
  refine s_goto 156 rfl (by decide) ?_
  refine s_iload_n 157 rfl rfl rfl ?_
  refine s_bipush 6 159 rfl rfl (by decide) ?_
  refine s_icmp_ge 181 162 rfl rfl (by decide) (fun c => absurd c (by decide)) (fun _ => ?_)
  refine s_aload_n 163 rfl rfl rfl ?_
  refine s_getfield 11 8 166 rfl rfl fl_Top_65 rfl rfl ?_
  refine s_iload_n 167 rfl rfl rfl ?_
  refine s_new (mc := 51) (ms := 699) 5 (fs := [.null, .null, .int 0]) t_Parts 170 rfl rfl rfl cl_Top_63 is_Parts in_Parts t_Parts_ok (by decide) rfl ?_
  show ax_G _ _ _ _ _ _ _ [.ref 91, .int 1, .ref 75] _ _
  refine s_dup 171 rfl rfl rfl ?_
  refine s_callIN0 (mc := 48) (ms := 648) (mc2 := 3) (ms2 := 51) 3 174 rfl rfl mv_Top_90 (by decide) (Nat.le_of_ble_eq_true rfl) (Nat.le_of_ble_eq_true rfl) ?_
  refine s_aload_n 1 rfl rfl rfl ?_
  refine s_objInit 4 rfl rfl oi_Parts_3 oi_2 oi_3 (by decide) (Nat.le_of_ble_eq_true rfl) ?_
  refine s_aload_n 5 rfl rfl rfl ?_
  refine s_new (mc := 2) (ms := 49) 7 (fs := [.null, .int 0]) t_Row 8 rfl rfl rfl cl_Parts_9 is_Row in_Row t_Row_ok (by decide) rfl ?_
  show ax_G _ _ _ _ _ _ _ [.ref 92, .ref 91] _ _
  refine s_dup 9 rfl rfl rfl ?_
  refine s_bipush 24 11 rfl rfl (by decide) ?_
  refine s_callI1 (mc := 1) (ms := 25) (mc2 := 1) (ms2 := 24) 2 14 rfl rfl mv_Parts_11 (by decide) (Nat.le_of_ble_eq_true rfl) (Nat.le_of_ble_eq_true rfl) ?_
  refine s_aload_n 1 rfl rfl rfl ?_
  refine s_objInit 4 rfl rfl oi_Row_3 oi_2 oi_3 (by decide) (Nat.le_of_ble_eq_true rfl) ?_
  refine s_aload_n 5 rfl rfl rfl ?_
  refine s_iload_n 6 rfl rfl rfl ?_
  refine s_iconst 0 7 rfl rfl (by decide) ?_
  refine s_mmax 10 rfl rfl mm_Row_9 (by decide) (Nat.le_of_ble_eq_true rfl) ?_
  show ax_G _ _ _ _ _ _ _ [.int 24, .ref 92] _ _
  refine s_newarray (mc := 0) (ms := 0) 1 24 (a0 := (24, .inl (fun _ => 0))) 12 rfl rfl rfl ac_byte (fun _ h => by cases h) (fun _ => rfl) (by decide) (by decide) (by decide) ?_
  show ax_G _ _ _ _ _ _ _ [.ref 93, .ref 92] _ _
  refine s_putfield 7 0 (.array .byte) 15 rfl rfl fp_Row_15 rfl (by decide) ⟨rfl, rfl⟩ (fun _ => rfl) ?_
  refine s_return rfl rfl ?_
  show ax_G _ _ _ _ _ _ _ [.ref 92, .ref 91] _ _
  refine s_putfield 5 0 (.object "AlarmGroups$Row") 17 rfl rfl fp_Parts_14 rfl (by decide) ⟨rfl, rfl⟩ (fun _ => rfl) ?_
  refine s_aload_n 18 rfl rfl rfl ?_
  refine s_bipush 25 20 rfl rfl (by decide) ?_
  refine s_newarray (mc := 0) (ms := 0) 0 25 (a0 := (25, .inl (fun _ => 0))) 22 rfl rfl rfl ac_int (fun _ h => by cases h) (fun _ => rfl) (by decide) (by decide) (by decide) ?_
  show ax_G _ _ _ _ _ _ _ [.ref 94, .ref 91] _ _
  refine s_putfield 5 1 (.array .int) 25 rfl rfl fp_Parts_20 rfl (by decide) ⟨rfl, rfl⟩ (fun _ => rfl) ?_
  refine s_return rfl rfl ?_
  show ax_G _ _ _ _ _ _ _ [.ref 91, .int 1, .ref 75] _ _
  refine s_aastore 4 5 1 175 rfl rfl rfl rfl rfl rfl (by decide) (by decide) (by decide) ?_
  refine s_inc1 2 178 rfl rfl (by decide) rfl ?_
  refine s_goto 156 rfl (by decide) ?_
  refine s_iload_n 157 rfl rfl rfl ?_
  refine s_bipush 6 159 rfl rfl (by decide) ?_
  refine s_icmp_ge 181 162 rfl rfl (by decide) (fun c => absurd c (by decide)) (fun _ => ?_)
  refine s_aload_n 163 rfl rfl rfl ?_
  refine s_getfield 11 8 166 rfl rfl fl_Top_65 rfl rfl ?_
  refine s_iload_n 167 rfl rfl rfl ?_
  refine s_new (mc := 47) (ms := 645) 5 (fs := [.null, .null, .int 0]) t_Parts 170 rfl rfl rfl cl_Top_63 is_Parts in_Parts t_Parts_ok (by decide) rfl ?_
  show ax_G _ _ _ _ _ _ _ [.ref 95, .int 2, .ref 75] _ _
  refine s_dup 171 rfl rfl rfl ?_
  refine s_callIN0 (mc := 44) (ms := 594) (mc2 := 3) (ms2 := 51) 3 174 rfl rfl mv_Top_90 (by decide) (Nat.le_of_ble_eq_true rfl) (Nat.le_of_ble_eq_true rfl) ?_
  refine s_aload_n 1 rfl rfl rfl ?_
  refine s_objInit 4 rfl rfl oi_Parts_3 oi_2 oi_3 (by decide) (Nat.le_of_ble_eq_true rfl) ?_
  refine s_aload_n 5 rfl rfl rfl ?_
  refine s_new (mc := 2) (ms := 49) 7 (fs := [.null, .int 0]) t_Row 8 rfl rfl rfl cl_Parts_9 is_Row in_Row t_Row_ok (by decide) rfl ?_
  show ax_G _ _ _ _ _ _ _ [.ref 96, .ref 95] _ _
  refine s_dup 9 rfl rfl rfl ?_
  refine s_bipush 24 11 rfl rfl (by decide) ?_
  refine s_callI1 (mc := 1) (ms := 25) (mc2 := 1) (ms2 := 24) 2 14 rfl rfl mv_Parts_11 (by decide) (Nat.le_of_ble_eq_true rfl) (Nat.le_of_ble_eq_true rfl) ?_
  refine s_aload_n 1 rfl rfl rfl ?_
  refine s_objInit 4 rfl rfl oi_Row_3 oi_2 oi_3 (by decide) (Nat.le_of_ble_eq_true rfl) ?_
  refine s_aload_n 5 rfl rfl rfl ?_
  refine s_iload_n 6 rfl rfl rfl ?_
  refine s_iconst 0 7 rfl rfl (by decide) ?_
  refine s_mmax 10 rfl rfl mm_Row_9 (by decide) (Nat.le_of_ble_eq_true rfl) ?_
  show ax_G _ _ _ _ _ _ _ [.int 24, .ref 96] _ _
  refine s_newarray (mc := 0) (ms := 0) 1 24 (a0 := (24, .inl (fun _ => 0))) 12 rfl rfl rfl ac_byte (fun _ h => by cases h) (fun _ => rfl) (by decide) (by decide) (by decide) ?_
  show ax_G _ _ _ _ _ _ _ [.ref 97, .ref 96] _ _
  refine s_putfield 7 0 (.array .byte) 15 rfl rfl fp_Row_15 rfl (by decide) ⟨rfl, rfl⟩ (fun _ => rfl) ?_
  refine s_return rfl rfl ?_
  show ax_G _ _ _ _ _ _ _ [.ref 96, .ref 95] _ _
  refine s_putfield 5 0 (.object "AlarmGroups$Row") 17 rfl rfl fp_Parts_14 rfl (by decide) ⟨rfl, rfl⟩ (fun _ => rfl) ?_
  refine s_aload_n 18 rfl rfl rfl ?_
  refine s_bipush 25 20 rfl rfl (by decide) ?_
  refine s_newarray (mc := 0) (ms := 0) 0 25 (a0 := (25, .inl (fun _ => 0))) 22 rfl rfl rfl ac_int (fun _ h => by cases h) (fun _ => rfl) (by decide) (by decide) (by decide) ?_
  show ax_G _ _ _ _ _ _ _ [.ref 98, .ref 95] _ _
  refine s_putfield 5 1 (.array .int) 25 rfl rfl fp_Parts_20 rfl (by decide) ⟨rfl, rfl⟩ (fun _ => rfl) ?_
  refine s_return rfl rfl ?_
  show ax_G _ _ _ _ _ _ _ [.ref 95, .int 2, .ref 75] _ _
  refine s_aastore 4 5 2 175 rfl rfl rfl rfl rfl rfl (by decide) (by decide) (by decide) ?_
  refine s_inc1 3 178 rfl rfl (by decide) rfl ?_
  refine s_goto 156 rfl (by decide) ?_
  refine s_iload_n 157 rfl rfl rfl ?_
  refine s_bipush 6 159 rfl rfl (by decide) ?_
  refine s_icmp_ge 181 162 rfl rfl (by decide) (fun c => absurd c (by decide)) (fun _ => ?_)
  refine s_aload_n 163 rfl rfl rfl ?_
  refine s_getfield 11 8 166 rfl rfl fl_Top_65 rfl rfl ?_
  refine s_iload_n 167 rfl rfl rfl ?_
  refine s_new (mc := 43) (ms := 591) 5 (fs := [.null, .null, .int 0]) t_Parts 170 rfl rfl rfl cl_Top_63 is_Parts in_Parts t_Parts_ok (by decide) rfl ?_
  show ax_G _ _ _ _ _ _ _ [.ref 99, .int 3, .ref 75] _ _
  refine s_dup 171 rfl rfl rfl ?_
  refine s_callIN0 (mc := 40) (ms := 540) (mc2 := 3) (ms2 := 51) 3 174 rfl rfl mv_Top_90 (by decide) (Nat.le_of_ble_eq_true rfl) (Nat.le_of_ble_eq_true rfl) ?_
  refine s_aload_n 1 rfl rfl rfl ?_
  refine s_objInit 4 rfl rfl oi_Parts_3 oi_2 oi_3 (by decide) (Nat.le_of_ble_eq_true rfl) ?_
  refine s_aload_n 5 rfl rfl rfl ?_
  refine s_new (mc := 2) (ms := 49) 7 (fs := [.null, .int 0]) t_Row 8 rfl rfl rfl cl_Parts_9 is_Row in_Row t_Row_ok (by decide) rfl ?_
  show ax_G _ _ _ _ _ _ _ [.ref 100, .ref 99] _ _
  refine s_dup 9 rfl rfl rfl ?_
  refine s_bipush 24 11 rfl rfl (by decide) ?_
  refine s_callI1 (mc := 1) (ms := 25) (mc2 := 1) (ms2 := 24) 2 14 rfl rfl mv_Parts_11 (by decide) (Nat.le_of_ble_eq_true rfl) (Nat.le_of_ble_eq_true rfl) ?_
  refine s_aload_n 1 rfl rfl rfl ?_
  refine s_objInit 4 rfl rfl oi_Row_3 oi_2 oi_3 (by decide) (Nat.le_of_ble_eq_true rfl) ?_
  refine s_aload_n 5 rfl rfl rfl ?_
  refine s_iload_n 6 rfl rfl rfl ?_
  refine s_iconst 0 7 rfl rfl (by decide) ?_
  refine s_mmax 10 rfl rfl mm_Row_9 (by decide) (Nat.le_of_ble_eq_true rfl) ?_
  show ax_G _ _ _ _ _ _ _ [.int 24, .ref 100] _ _
  refine s_newarray (mc := 0) (ms := 0) 1 24 (a0 := (24, .inl (fun _ => 0))) 12 rfl rfl rfl ac_byte (fun _ h => by cases h) (fun _ => rfl) (by decide) (by decide) (by decide) ?_
  show ax_G _ _ _ _ _ _ _ [.ref 101, .ref 100] _ _
  refine s_putfield 7 0 (.array .byte) 15 rfl rfl fp_Row_15 rfl (by decide) ⟨rfl, rfl⟩ (fun _ => rfl) ?_
  refine s_return rfl rfl ?_
  show ax_G _ _ _ _ _ _ _ [.ref 100, .ref 99] _ _
  refine s_putfield 5 0 (.object "AlarmGroups$Row") 17 rfl rfl fp_Parts_14 rfl (by decide) ⟨rfl, rfl⟩ (fun _ => rfl) ?_
  refine s_aload_n 18 rfl rfl rfl ?_
  refine s_bipush 25 20 rfl rfl (by decide) ?_
  refine s_newarray (mc := 0) (ms := 0) 0 25 (a0 := (25, .inl (fun _ => 0))) 22 rfl rfl rfl ac_int (fun _ h => by cases h) (fun _ => rfl) (by decide) (by decide) (by decide) ?_
  show ax_G _ _ _ _ _ _ _ [.ref 102, .ref 99] _ _
  refine s_putfield 5 1 (.array .int) 25 rfl rfl fp_Parts_20 rfl (by decide) ⟨rfl, rfl⟩ (fun _ => rfl) ?_
  refine s_return rfl rfl ?_
  show ax_G _ _ _ _ _ _ _ [.ref 99, .int 3, .ref 75] _ _
  refine s_aastore 4 5 3 175 rfl rfl rfl rfl rfl rfl (by decide) (by decide) (by decide) ?_
  refine s_inc1 4 178 rfl rfl (by decide) rfl ?_
  refine s_goto 156 rfl (by decide) ?_
  refine s_iload_n 157 rfl rfl rfl ?_
  refine s_bipush 6 159 rfl rfl (by decide) ?_
  refine s_icmp_ge 181 162 rfl rfl (by decide) (fun c => absurd c (by decide)) (fun _ => ?_)
  refine s_aload_n 163 rfl rfl rfl ?_
  refine s_getfield 11 8 166 rfl rfl fl_Top_65 rfl rfl ?_
  refine s_iload_n 167 rfl rfl rfl ?_
  refine s_new (mc := 39) (ms := 537) 5 (fs := [.null, .null, .int 0]) t_Parts 170 rfl rfl rfl cl_Top_63 is_Parts in_Parts t_Parts_ok (by decide) rfl ?_
  show ax_G _ _ _ _ _ _ _ [.ref 103, .int 4, .ref 75] _ _
  refine s_dup 171 rfl rfl rfl ?_
  refine s_callIN0 (mc := 36) (ms := 486) (mc2 := 3) (ms2 := 51) 3 174 rfl rfl mv_Top_90 (by decide) (Nat.le_of_ble_eq_true rfl) (Nat.le_of_ble_eq_true rfl) ?_
  refine s_aload_n 1 rfl rfl rfl ?_
  refine s_objInit 4 rfl rfl oi_Parts_3 oi_2 oi_3 (by decide) (Nat.le_of_ble_eq_true rfl) ?_
  refine s_aload_n 5 rfl rfl rfl ?_
  refine s_new (mc := 2) (ms := 49) 7 (fs := [.null, .int 0]) t_Row 8 rfl rfl rfl cl_Parts_9 is_Row in_Row t_Row_ok (by decide) rfl ?_
  show ax_G _ _ _ _ _ _ _ [.ref 104, .ref 103] _ _
  refine s_dup 9 rfl rfl rfl ?_
  refine s_bipush 24 11 rfl rfl (by decide) ?_
  refine s_callI1 (mc := 1) (ms := 25) (mc2 := 1) (ms2 := 24) 2 14 rfl rfl mv_Parts_11 (by decide) (Nat.le_of_ble_eq_true rfl) (Nat.le_of_ble_eq_true rfl) ?_
  refine s_aload_n 1 rfl rfl rfl ?_
  refine s_objInit 4 rfl rfl oi_Row_3 oi_2 oi_3 (by decide) (Nat.le_of_ble_eq_true rfl) ?_
  refine s_aload_n 5 rfl rfl rfl ?_
  refine s_iload_n 6 rfl rfl rfl ?_
  refine s_iconst 0 7 rfl rfl (by decide) ?_
  refine s_mmax 10 rfl rfl mm_Row_9 (by decide) (Nat.le_of_ble_eq_true rfl) ?_
  show ax_G _ _ _ _ _ _ _ [.int 24, .ref 104] _ _
  refine s_newarray (mc := 0) (ms := 0) 1 24 (a0 := (24, .inl (fun _ => 0))) 12 rfl rfl rfl ac_byte (fun _ h => by cases h) (fun _ => rfl) (by decide) (by decide) (by decide) ?_
  show ax_G _ _ _ _ _ _ _ [.ref 105, .ref 104] _ _
  refine s_putfield 7 0 (.array .byte) 15 rfl rfl fp_Row_15 rfl (by decide) ⟨rfl, rfl⟩ (fun _ => rfl) ?_
  refine s_return rfl rfl ?_
  show ax_G _ _ _ _ _ _ _ [.ref 104, .ref 103] _ _
  refine s_putfield 5 0 (.object "AlarmGroups$Row") 17 rfl rfl fp_Parts_14 rfl (by decide) ⟨rfl, rfl⟩ (fun _ => rfl) ?_
  refine s_aload_n 18 rfl rfl rfl ?_
  refine s_bipush 25 20 rfl rfl (by decide) ?_
  refine s_newarray (mc := 0) (ms := 0) 0 25 (a0 := (25, .inl (fun _ => 0))) 22 rfl rfl rfl ac_int (fun _ h => by cases h) (fun _ => rfl) (by decide) (by decide) (by decide) ?_
  show ax_G _ _ _ _ _ _ _ [.ref 106, .ref 103] _ _
  refine s_putfield 5 1 (.array .int) 25 rfl rfl fp_Parts_20 rfl (by decide) ⟨rfl, rfl⟩ (fun _ => rfl) ?_
  refine s_return rfl rfl ?_
  show ax_G _ _ _ _ _ _ _ [.ref 103, .int 4, .ref 75] _ _
  refine s_aastore 4 5 4 175 rfl rfl rfl rfl rfl rfl (by decide) (by decide) (by decide) ?_
  refine s_inc1 5 178 rfl rfl (by decide) rfl ?_
  refine s_goto 156 rfl (by decide) ?_
  refine s_iload_n 157 rfl rfl rfl ?_
  refine s_bipush 6 159 rfl rfl (by decide) ?_
  refine s_icmp_ge 181 162 rfl rfl (by decide) (fun c => absurd c (by decide)) (fun _ => ?_)
  refine s_aload_n 163 rfl rfl rfl ?_
  refine s_getfield 11 8 166 rfl rfl fl_Top_65 rfl rfl ?_
  refine s_iload_n 167 rfl rfl rfl ?_
  refine s_new (mc := 35) (ms := 483) 5 (fs := [.null, .null, .int 0]) t_Parts 170 rfl rfl rfl cl_Top_63 is_Parts in_Parts t_Parts_ok (by decide) rfl ?_
  show ax_G _ _ _ _ _ _ _ [.ref 107, .int 5, .ref 75] _ _
  refine s_dup 171 rfl rfl rfl ?_
  refine s_callIN0 (mc := 32) (ms := 432) (mc2 := 3) (ms2 := 51) 3 174 rfl rfl mv_Top_90 (by decide) (Nat.le_of_ble_eq_true rfl) (Nat.le_of_ble_eq_true rfl) ?_
  refine s_aload_n 1 rfl rfl rfl ?_
  refine s_objInit 4 rfl rfl oi_Parts_3 oi_2 oi_3 (by decide) (Nat.le_of_ble_eq_true rfl) ?_
  refine s_aload_n 5 rfl rfl rfl ?_
  refine s_new (mc := 2) (ms := 49) 7 (fs := [.null, .int 0]) t_Row 8 rfl rfl rfl cl_Parts_9 is_Row in_Row t_Row_ok (by decide) rfl ?_
  show ax_G _ _ _ _ _ _ _ [.ref 108, .ref 107] _ _
  refine s_dup 9 rfl rfl rfl ?_
  refine s_bipush 24 11 rfl rfl (by decide) ?_
  refine s_callI1 (mc := 1) (ms := 25) (mc2 := 1) (ms2 := 24) 2 14 rfl rfl mv_Parts_11 (by decide) (Nat.le_of_ble_eq_true rfl) (Nat.le_of_ble_eq_true rfl) ?_
  refine s_aload_n 1 rfl rfl rfl ?_
  refine s_objInit 4 rfl rfl oi_Row_3 oi_2 oi_3 (by decide) (Nat.le_of_ble_eq_true rfl) ?_
  refine s_aload_n 5 rfl rfl rfl ?_
  refine s_iload_n 6 rfl rfl rfl ?_
  refine s_iconst 0 7 rfl rfl (by decide) ?_
  refine s_mmax 10 rfl rfl mm_Row_9 (by decide) (Nat.le_of_ble_eq_true rfl) ?_
  show ax_G _ _ _ _ _ _ _ [.int 24, .ref 108] _ _
  refine s_newarray (mc := 0) (ms := 0) 1 24 (a0 := (24, .inl (fun _ => 0))) 12 rfl rfl rfl ac_byte (fun _ h => by cases h) (fun _ => rfl) (by decide) (by decide) (by decide) ?_
  show ax_G _ _ _ _ _ _ _ [.ref 109, .ref 108] _ _
  refine s_putfield 7 0 (.array .byte) 15 rfl rfl fp_Row_15 rfl (by decide) ⟨rfl, rfl⟩ (fun _ => rfl) ?_
  refine s_return rfl rfl ?_
  show ax_G _ _ _ _ _ _ _ [.ref 108, .ref 107] _ _
  refine s_putfield 5 0 (.object "AlarmGroups$Row") 17 rfl rfl fp_Parts_14 rfl (by decide) ⟨rfl, rfl⟩ (fun _ => rfl) ?_
  refine s_aload_n 18 rfl rfl rfl ?_
  refine s_bipush 25 20 rfl rfl (by decide) ?_
  refine s_newarray (mc := 0) (ms := 0) 0 25 (a0 := (25, .inl (fun _ => 0))) 22 rfl rfl rfl ac_int (fun _ h => by cases h) (fun _ => rfl) (by decide) (by decide) (by decide) ?_
  show ax_G _ _ _ _ _ _ _ [.ref 110, .ref 107] _ _
  refine s_putfield 5 1 (.array .int) 25 rfl rfl fp_Parts_20 rfl (by decide) ⟨rfl, rfl⟩ (fun _ => rfl) ?_
  refine s_return rfl rfl ?_
  show ax_G _ _ _ _ _ _ _ [.ref 107, .int 5, .ref 75] _ _
  refine s_aastore 4 5 5 175 rfl rfl rfl rfl rfl rfl (by decide) (by decide) (by decide) ?_
  refine s_inc1 6 178 rfl rfl (by decide) rfl ?_
  refine s_goto 156 rfl (by decide) ?_
  refine s_iload_n 157 rfl rfl rfl ?_
  refine s_bipush 6 159 rfl rfl (by decide) ?_
  refine s_icmp_ge 181 162 rfl rfl (by decide) (fun _ => ?_) (fun c => absurd (by decide) c)
  refine s_iconst 0 182 rfl rfl (by decide) ?_
  refine s_ist1 183 rfl rfl rfl ?_
  refine s_iload_n 184 rfl rfl rfl ?_
  refine s_bipush 8 186 rfl rfl (by decide) ?_
  refine s_icmp_ge 208 189 rfl rfl (by decide) (fun c => absurd c (by decide)) (fun _ => ?_)
  refine s_aload_n 190 rfl rfl rfl ?_
  refine s_getfield 11 9 193 rfl rfl fl_Top_69 rfl rfl ?_
  refine s_iload_n 194 rfl rfl rfl ?_
  refine s_new (mc := 31) (ms := 429) 5 (fs := [.null, .null, .int 0]) t_Parts 197 rfl rfl rfl cl_Top_63 is_Parts in_Parts t_Parts_ok (by decide) rfl ?_
  show ax_G _ _ _ _ _ _ _ [.ref 111, .int 0, .ref 76] _ _
  refine s_dup 198 rfl rfl rfl ?_
  refine s_callIN0 (mc := 28) (ms := 378) (mc2 := 3) (ms2 := 51) 3 201 rfl rfl mv_Top_90 (by decide) (Nat.le_of_ble_eq_true rfl) (Nat.le_of_ble_eq_true rfl) ?_
  refine s_aload_n 1 rfl rfl rfl ?_
  refine s_objInit 4 rfl rfl oi_Parts_3 oi_2 oi_3 (by decide) (Nat.le_of_ble_eq_true rfl) ?_
  refine s_aload_n 5 rfl rfl rfl ?_
  refine s_new (mc := 2) (ms := 49) 7 (fs := [.null, .int 0]) t_Row 8 rfl rfl rfl cl_Parts_9 is_Row in_Row t_Row_ok (by decide) rfl ?_
  show ax_G _ _ _ _ _ _ _ [.ref 112, .ref 111] _ _
  refine s_dup 9 rfl rfl rfl ?_
  refine s_bipush 24 11 rfl rfl (by decide) ?_
  refine s_callI1 (mc := 1) (ms := 25) (mc2 := 1) (ms2 := 24) 2 14 rfl rfl mv_Parts_11 (by decide) (Nat.le_of_ble_eq_true rfl) (Nat.le_of_ble_eq_true rfl) ?_
  refine s_aload_n 1 rfl rfl rfl ?_
  refine s_objInit 4 rfl rfl oi_Row_3 oi_2 oi_3 (by decide) (Nat.le_of_ble_eq_true rfl) ?_
  refine s_aload_n 5 rfl rfl rfl ?_
  refine s_iload_n 6 rfl rfl rfl ?_
  refine s_iconst 0 7 rfl rfl (by decide) ?_
  refine s_mmax 10 rfl rfl mm_Row_9 (by decide) (Nat.le_of_ble_eq_true rfl) ?_
  show ax_G _ _ _ _ _ _ _ [.int 24, .ref 112] _ _
  refine s_newarray (mc := 0) (ms := 0) 1 24 (a0 := (24, .inl (fun _ => 0))) 12 rfl rfl rfl ac_byte (fun _ h => by cases h) (fun _ => rfl) (by decide) (by decide) (by decide) ?_
  show ax_G _ _ _ _ _ _ _ [.ref 113, .ref 112] _ _
  refine s_putfield 7 0 (.array .byte) 15 rfl rfl fp_Row_15 rfl (by decide) ⟨rfl, rfl⟩ (fun _ => rfl) ?_
  refine s_return rfl rfl ?_
  show ax_G _ _ _ _ _ _ _ [.ref 112, .ref 111] _ _
  refine s_putfield 5 0 (.object "AlarmGroups$Row") 17 rfl rfl fp_Parts_14 rfl (by decide) ⟨rfl, rfl⟩ (fun _ => rfl) ?_
  refine s_aload_n 18 rfl rfl rfl ?_
  refine s_bipush 25 20 rfl rfl (by decide) ?_
  refine s_newarray (mc := 0) (ms := 0) 0 25 (a0 := (25, .inl (fun _ => 0))) 22 rfl rfl rfl ac_int (fun _ h => by cases h) (fun _ => rfl) (by decide) (by decide) (by decide) ?_
  show ax_G _ _ _ _ _ _ _ [.ref 114, .ref 111] _ _
  refine s_putfield 5 1 (.array .int) 25 rfl rfl fp_Parts_20 rfl (by decide) ⟨rfl, rfl⟩ (fun _ => rfl) ?_
  refine s_return rfl rfl ?_
  show ax_G _ _ _ _ _ _ _ [.ref 111, .int 0, .ref 76] _ _
  refine s_aastore 4 5 0 202 rfl rfl rfl rfl rfl rfl (by decide) (by decide) (by decide) ?_
  refine s_inc1 1 205 rfl rfl (by decide) rfl ?_
  refine s_goto 183 rfl (by decide) ?_
  refine s_iload_n 184 rfl rfl rfl ?_
  refine s_bipush 8 186 rfl rfl (by decide) ?_
  refine s_icmp_ge 208 189 rfl rfl (by decide) (fun c => absurd c (by decide)) (fun _ => ?_)
  refine s_aload_n 190 rfl rfl rfl ?_
  refine s_getfield 11 9 193 rfl rfl fl_Top_69 rfl rfl ?_
  refine s_iload_n 194 rfl rfl rfl ?_
  refine s_new (mc := 27) (ms := 375) 5 (fs := [.null, .null, .int 0]) t_Parts 197 rfl rfl rfl cl_Top_63 is_Parts in_Parts t_Parts_ok (by decide) rfl ?_
  show ax_G _ _ _ _ _ _ _ [.ref 115, .int 1, .ref 76] _ _
  refine s_dup 198 rfl rfl rfl ?_
  refine s_callIN0 (mc := 24) (ms := 324) (mc2 := 3) (ms2 := 51) 3 201 rfl rfl mv_Top_90 (by decide) (Nat.le_of_ble_eq_true rfl) (Nat.le_of_ble_eq_true rfl) ?_
  refine s_aload_n 1 rfl rfl rfl ?_
  refine s_objInit 4 rfl rfl oi_Parts_3 oi_2 oi_3 (by decide) (Nat.le_of_ble_eq_true rfl) ?_
  refine s_aload_n 5 rfl rfl rfl ?_
  refine s_new (mc := 2) (ms := 49) 7 (fs := [.null, .int 0]) t_Row 8 rfl rfl rfl cl_Parts_9 is_Row in_Row t_Row_ok (by decide) rfl ?_
  show ax_G _ _ _ _ _ _ _ [.ref 116, .ref 115] _ _
  refine s_dup 9 rfl rfl rfl ?_
  refine s_bipush 24 11 rfl rfl (by decide) ?_
  refine s_callI1 (mc := 1) (ms := 25) (mc2 := 1) (ms2 := 24) 2 14 rfl rfl mv_Parts_11 (by decide) (Nat.le_of_ble_eq_true rfl) (Nat.le_of_ble_eq_true rfl) ?_
  refine s_aload_n 1 rfl rfl rfl ?_
  refine s_objInit 4 rfl rfl oi_Row_3 oi_2 oi_3 (by decide) (Nat.le_of_ble_eq_true rfl) ?_
  refine s_aload_n 5 rfl rfl rfl ?_
  refine s_iload_n 6 rfl rfl rfl ?_
  refine s_iconst 0 7 rfl rfl (by decide) ?_
  refine s_mmax 10 rfl rfl mm_Row_9 (by decide) (Nat.le_of_ble_eq_true rfl) ?_
  show ax_G _ _ _ _ _ _ _ [.int 24, .ref 116] _ _
  refine s_newarray (mc := 0) (ms := 0) 1 24 (a0 := (24, .inl (fun _ => 0))) 12 rfl rfl rfl ac_byte (fun _ h => by cases h) (fun _ => rfl) (by decide) (by decide) (by decide) ?_
  show ax_G _ _ _ _ _ _ _ [.ref 117, .ref 116] _ _
  refine s_putfield 7 0 (.array .byte) 15 rfl rfl fp_Row_15 rfl (by decide) ⟨rfl, rfl⟩ (fun _ => rfl) ?_
  refine s_return rfl rfl ?_
  show ax_G _ _ _ _ _ _ _ [.ref 116, .ref 115] _ _
  refine s_putfield 5 0 (.object "AlarmGroups$Row") 17 rfl rfl fp_Parts_14 rfl (by decide) ⟨rfl, rfl⟩ (fun _ => rfl) ?_
  refine s_aload_n 18 rfl rfl rfl ?_
  refine s_bipush 25 20 rfl rfl (by decide) ?_
  refine s_newarray (mc := 0) (ms := 0) 0 25 (a0 := (25, .inl (fun _ => 0))) 22 rfl rfl rfl ac_int (fun _ h => by cases h) (fun _ => rfl) (by decide) (by decide) (by decide) ?_
  show ax_G _ _ _ _ _ _ _ [.ref 118, .ref 115] _ _
  refine s_putfield 5 1 (.array .int) 25 rfl rfl fp_Parts_20 rfl (by decide) ⟨rfl, rfl⟩ (fun _ => rfl) ?_
  refine s_return rfl rfl ?_
  show ax_G _ _ _ _ _ _ _ [.ref 115, .int 1, .ref 76] _ _
  refine s_aastore 4 5 1 202 rfl rfl rfl rfl rfl rfl (by decide) (by decide) (by decide) ?_
  refine s_inc1 2 205 rfl rfl (by decide) rfl ?_
  refine s_goto 183 rfl (by decide) ?_
  refine s_iload_n 184 rfl rfl rfl ?_
  refine s_bipush 8 186 rfl rfl (by decide) ?_
  refine s_icmp_ge 208 189 rfl rfl (by decide) (fun c => absurd c (by decide)) (fun _ => ?_)
  refine s_aload_n 190 rfl rfl rfl ?_
  refine s_getfield 11 9 193 rfl rfl fl_Top_69 rfl rfl ?_
  refine s_iload_n 194 rfl rfl rfl ?_
  refine s_new (mc := 23) (ms := 321) 5 (fs := [.null, .null, .int 0]) t_Parts 197 rfl rfl rfl cl_Top_63 is_Parts in_Parts t_Parts_ok (by decide) rfl ?_
  show ax_G _ _ _ _ _ _ _ [.ref 119, .int 2, .ref 76] _ _
  refine s_dup 198 rfl rfl rfl ?_
  refine s_callIN0 (mc := 20) (ms := 270) (mc2 := 3) (ms2 := 51) 3 201 rfl rfl mv_Top_90 (by decide) (Nat.le_of_ble_eq_true rfl) (Nat.le_of_ble_eq_true rfl) ?_
  refine s_aload_n 1 rfl rfl rfl ?_
  refine s_objInit 4 rfl rfl oi_Parts_3 oi_2 oi_3 (by decide) (Nat.le_of_ble_eq_true rfl) ?_
  refine s_aload_n 5 rfl rfl rfl ?_
  refine s_new (mc := 2) (ms := 49) 7 (fs := [.null, .int 0]) t_Row 8 rfl rfl rfl cl_Parts_9 is_Row in_Row t_Row_ok (by decide) rfl ?_
  show ax_G _ _ _ _ _ _ _ [.ref 120, .ref 119] _ _
  refine s_dup 9 rfl rfl rfl ?_
  refine s_bipush 24 11 rfl rfl (by decide) ?_
  refine s_callI1 (mc := 1) (ms := 25) (mc2 := 1) (ms2 := 24) 2 14 rfl rfl mv_Parts_11 (by decide) (Nat.le_of_ble_eq_true rfl) (Nat.le_of_ble_eq_true rfl) ?_
  refine s_aload_n 1 rfl rfl rfl ?_
  refine s_objInit 4 rfl rfl oi_Row_3 oi_2 oi_3 (by decide) (Nat.le_of_ble_eq_true rfl) ?_
  refine s_aload_n 5 rfl rfl rfl ?_
  refine s_iload_n 6 rfl rfl rfl ?_
  refine s_iconst 0 7 rfl rfl (by decide) ?_
  refine s_mmax 10 rfl rfl mm_Row_9 (by decide) (Nat.le_of_ble_eq_true rfl) ?_
  show ax_G _ _ _ _ _ _ _ [.int 24, .ref 120] _ _
  refine s_newarray (mc := 0) (ms := 0) 1 24 (a0 := (24, .inl (fun _ => 0))) 12 rfl rfl rfl ac_byte (fun _ h => by cases h) (fun _ => rfl) (by decide) (by decide) (by decide) ?_
  show ax_G _ _ _ _ _ _ _ [.ref 121, .ref 120] _ _
  refine s_putfield 7 0 (.array .byte) 15 rfl rfl fp_Row_15 rfl (by decide) ⟨rfl, rfl⟩ (fun _ => rfl) ?_
  refine s_return rfl rfl ?_
  show ax_G _ _ _ _ _ _ _ [.ref 120, .ref 119] _ _
  refine s_putfield 5 0 (.object "AlarmGroups$Row") 17 rfl rfl fp_Parts_14 rfl (by decide) ⟨rfl, rfl⟩ (fun _ => rfl) ?_
  refine s_aload_n 18 rfl rfl rfl ?_
  refine s_bipush 25 20 rfl rfl (by decide) ?_
  refine s_newarray (mc := 0) (ms := 0) 0 25 (a0 := (25, .inl (fun _ => 0))) 22 rfl rfl rfl ac_int (fun _ h => by cases h) (fun _ => rfl) (by decide) (by decide) (by decide) ?_
  show ax_G _ _ _ _ _ _ _ [.ref 122, .ref 119] _ _
  refine s_putfield 5 1 (.array .int) 25 rfl rfl fp_Parts_20 rfl (by decide) ⟨rfl, rfl⟩ (fun _ => rfl) ?_
  refine s_return rfl rfl ?_
  show ax_G _ _ _ _ _ _ _ [.ref 119, .int 2, .ref 76] _ _
  refine s_aastore 4 5 2 202 rfl rfl rfl rfl rfl rfl (by decide) (by decide) (by decide) ?_
  refine s_inc1 3 205 rfl rfl (by decide) rfl ?_
  refine s_goto 183 rfl (by decide) ?_
  refine s_iload_n 184 rfl rfl rfl ?_
  refine s_bipush 8 186 rfl rfl (by decide) ?_
  refine s_icmp_ge 208 189 rfl rfl (by decide) (fun c => absurd c (by decide)) (fun _ => ?_)
  refine s_aload_n 190 rfl rfl rfl ?_
  refine s_getfield 11 9 193 rfl rfl fl_Top_69 rfl rfl ?_
  refine s_iload_n 194 rfl rfl rfl ?_
  refine s_new (mc := 19) (ms := 267) 5 (fs := [.null, .null, .int 0]) t_Parts 197 rfl rfl rfl cl_Top_63 is_Parts in_Parts t_Parts_ok (by decide) rfl ?_
  show ax_G _ _ _ _ _ _ _ [.ref 123, .int 3, .ref 76] _ _
  refine s_dup 198 rfl rfl rfl ?_
  refine s_callIN0 (mc := 16) (ms := 216) (mc2 := 3) (ms2 := 51) 3 201 rfl rfl mv_Top_90 (by decide) (Nat.le_of_ble_eq_true rfl) (Nat.le_of_ble_eq_true rfl) ?_
  refine s_aload_n 1 rfl rfl rfl ?_
  refine s_objInit 4 rfl rfl oi_Parts_3 oi_2 oi_3 (by decide) (Nat.le_of_ble_eq_true rfl) ?_
  refine s_aload_n 5 rfl rfl rfl ?_
  refine s_new (mc := 2) (ms := 49) 7 (fs := [.null, .int 0]) t_Row 8 rfl rfl rfl cl_Parts_9 is_Row in_Row t_Row_ok (by decide) rfl ?_
  show ax_G _ _ _ _ _ _ _ [.ref 124, .ref 123] _ _
  refine s_dup 9 rfl rfl rfl ?_
  refine s_bipush 24 11 rfl rfl (by decide) ?_
  refine s_callI1 (mc := 1) (ms := 25) (mc2 := 1) (ms2 := 24) 2 14 rfl rfl mv_Parts_11 (by decide) (Nat.le_of_ble_eq_true rfl) (Nat.le_of_ble_eq_true rfl) ?_
  refine s_aload_n 1 rfl rfl rfl ?_
  refine s_objInit 4 rfl rfl oi_Row_3 oi_2 oi_3 (by decide) (Nat.le_of_ble_eq_true rfl) ?_
  refine s_aload_n 5 rfl rfl rfl ?_
  refine s_iload_n 6 rfl rfl rfl ?_
  refine s_iconst 0 7 rfl rfl (by decide) ?_
  refine s_mmax 10 rfl rfl mm_Row_9 (by decide) (Nat.le_of_ble_eq_true rfl) ?_
  show ax_G _ _ _ _ _ _ _ [.int 24, .ref 124] _ _
  refine s_newarray (mc := 0) (ms := 0) 1 24 (a0 := (24, .inl (fun _ => 0))) 12 rfl rfl rfl ac_byte (fun _ h => by cases h) (fun _ => rfl) (by decide) (by decide) (by decide) ?_
  show ax_G _ _ _ _ _ _ _ [.ref 125, .ref 124] _ _
  refine s_putfield 7 0 (.array .byte) 15 rfl rfl fp_Row_15 rfl (by decide) ⟨rfl, rfl⟩ (fun _ => rfl) ?_
  refine s_return rfl rfl ?_
  show ax_G _ _ _ _ _ _ _ [.ref 124, .ref 123] _ _
  refine s_putfield 5 0 (.object "AlarmGroups$Row") 17 rfl rfl fp_Parts_14 rfl (by decide) ⟨rfl, rfl⟩ (fun _ => rfl) ?_
  refine s_aload_n 18 rfl rfl rfl ?_
  refine s_bipush 25 20 rfl rfl (by decide) ?_
  refine s_newarray (mc := 0) (ms := 0) 0 25 (a0 := (25, .inl (fun _ => 0))) 22 rfl rfl rfl ac_int (fun _ h => by cases h) (fun _ => rfl) (by decide) (by decide) (by decide) ?_
  show ax_G _ _ _ _ _ _ _ [.ref 126, .ref 123] _ _
  refine s_putfield 5 1 (.array .int) 25 rfl rfl fp_Parts_20 rfl (by decide) ⟨rfl, rfl⟩ (fun _ => rfl) ?_
  refine s_return rfl rfl ?_
  show ax_G _ _ _ _ _ _ _ [.ref 123, .int 3, .ref 76] _ _
  refine s_aastore 4 5 3 202 rfl rfl rfl rfl rfl rfl (by decide) (by decide) (by decide) ?_
  refine s_inc1 4 205 rfl rfl (by decide) rfl ?_
  refine s_goto 183 rfl (by decide) ?_
  refine s_iload_n 184 rfl rfl rfl ?_
  refine s_bipush 8 186 rfl rfl (by decide) ?_
  refine s_icmp_ge 208 189 rfl rfl (by decide) (fun c => absurd c (by decide)) (fun _ => ?_)
  refine s_aload_n 190 rfl rfl rfl ?_
  refine s_getfield 11 9 193 rfl rfl fl_Top_69 rfl rfl ?_
  refine s_iload_n 194 rfl rfl rfl ?_
  refine s_new (mc := 15) (ms := 213) 5 (fs := [.null, .null, .int 0]) t_Parts 197 rfl rfl rfl cl_Top_63 is_Parts in_Parts t_Parts_ok (by decide) rfl ?_
  show ax_G _ _ _ _ _ _ _ [.ref 127, .int 4, .ref 76] _ _
  refine s_dup 198 rfl rfl rfl ?_
  refine s_callIN0 (mc := 12) (ms := 162) (mc2 := 3) (ms2 := 51) 3 201 rfl rfl mv_Top_90 (by decide) (Nat.le_of_ble_eq_true rfl) (Nat.le_of_ble_eq_true rfl) ?_
  refine s_aload_n 1 rfl rfl rfl ?_
  refine s_objInit 4 rfl rfl oi_Parts_3 oi_2 oi_3 (by decide) (Nat.le_of_ble_eq_true rfl) ?_
  refine s_aload_n 5 rfl rfl rfl ?_
  refine s_new (mc := 2) (ms := 49) 7 (fs := [.null, .int 0]) t_Row 8 rfl rfl rfl cl_Parts_9 is_Row in_Row t_Row_ok (by decide) rfl ?_
  show ax_G _ _ _ _ _ _ _ [.ref 128, .ref 127] _ _
  refine s_dup 9 rfl rfl rfl ?_
  refine s_bipush 24 11 rfl rfl (by decide) ?_
  refine s_callI1 (mc := 1) (ms := 25) (mc2 := 1) (ms2 := 24) 2 14 rfl rfl mv_Parts_11 (by decide) (Nat.le_of_ble_eq_true rfl) (Nat.le_of_ble_eq_true rfl) ?_
  refine s_aload_n 1 rfl rfl rfl ?_
  refine s_objInit 4 rfl rfl oi_Row_3 oi_2 oi_3 (by decide) (Nat.le_of_ble_eq_true rfl) ?_
  refine s_aload_n 5 rfl rfl rfl ?_
  refine s_iload_n 6 rfl rfl rfl ?_
  refine s_iconst 0 7 rfl rfl (by decide) ?_
  refine s_mmax 10 rfl rfl mm_Row_9 (by decide) (Nat.le_of_ble_eq_true rfl) ?_
  show ax_G _ _ _ _ _ _ _ [.int 24, .ref 128] _ _
  refine s_newarray (mc := 0) (ms := 0) 1 24 (a0 := (24, .inl (fun _ => 0))) 12 rfl rfl rfl ac_byte (fun _ h => by cases h) (fun _ => rfl) (by decide) (by decide) (by decide) ?_
  show ax_G _ _ _ _ _ _ _ [.ref 129, .ref 128] _ _
  refine s_putfield 7 0 (.array .byte) 15 rfl rfl fp_Row_15 rfl (by decide) ⟨rfl, rfl⟩ (fun _ => rfl) ?_
  refine s_return rfl rfl ?_
  show ax_G _ _ _ _ _ _ _ [.ref 128, .ref 127] _ _
  refine s_putfield 5 0 (.object "AlarmGroups$Row") 17 rfl rfl fp_Parts_14 rfl (by decide) ⟨rfl, rfl⟩ (fun _ => rfl) ?_
  refine s_aload_n 18 rfl rfl rfl ?_
  refine s_bipush 25 20 rfl rfl (by decide) ?_
  refine s_newarray (mc := 0) (ms := 0) 0 25 (a0 := (25, .inl (fun _ => 0))) 22 rfl rfl rfl ac_int (fun _ h => by cases h) (fun _ => rfl) (by decide) (by decide) (by decide) ?_
  show ax_G _ _ _ _ _ _ _ [.ref 130, .ref 127] _ _
  refine s_putfield 5 1 (.array .int) 25 rfl rfl fp_Parts_20 rfl (by decide) ⟨rfl, rfl⟩ (fun _ => rfl) ?_
  refine s_return rfl rfl ?_
  show ax_G _ _ _ _ _ _ _ [.ref 127, .int 4, .ref 76] _ _
  refine s_aastore 4 5 4 202 rfl rfl rfl rfl rfl rfl (by decide) (by decide) (by decide) ?_
  refine s_inc1 5 205 rfl rfl (by decide) rfl ?_
  refine s_goto 183 rfl (by decide) ?_
  refine s_iload_n 184 rfl rfl rfl ?_
  refine s_bipush 8 186 rfl rfl (by decide) ?_
  refine s_icmp_ge 208 189 rfl rfl (by decide) (fun c => absurd c (by decide)) (fun _ => ?_)
  refine s_aload_n 190 rfl rfl rfl ?_
  refine s_getfield 11 9 193 rfl rfl fl_Top_69 rfl rfl ?_
  refine s_iload_n 194 rfl rfl rfl ?_
  refine s_new (mc := 11) (ms := 159) 5 (fs := [.null, .null, .int 0]) t_Parts 197 rfl rfl rfl cl_Top_63 is_Parts in_Parts t_Parts_ok (by decide) rfl ?_
  show ax_G _ _ _ _ _ _ _ [.ref 131, .int 5, .ref 76] _ _
  refine s_dup 198 rfl rfl rfl ?_
  refine s_callIN0 (mc := 8) (ms := 108) (mc2 := 3) (ms2 := 51) 3 201 rfl rfl mv_Top_90 (by decide) (Nat.le_of_ble_eq_true rfl) (Nat.le_of_ble_eq_true rfl) ?_
  refine s_aload_n 1 rfl rfl rfl ?_
  refine s_objInit 4 rfl rfl oi_Parts_3 oi_2 oi_3 (by decide) (Nat.le_of_ble_eq_true rfl) ?_
  refine s_aload_n 5 rfl rfl rfl ?_
  refine s_new (mc := 2) (ms := 49) 7 (fs := [.null, .int 0]) t_Row 8 rfl rfl rfl cl_Parts_9 is_Row in_Row t_Row_ok (by decide) rfl ?_
  show ax_G _ _ _ _ _ _ _ [.ref 132, .ref 131] _ _
  refine s_dup 9 rfl rfl rfl ?_
  refine s_bipush 24 11 rfl rfl (by decide) ?_
  refine s_callI1 (mc := 1) (ms := 25) (mc2 := 1) (ms2 := 24) 2 14 rfl rfl mv_Parts_11 (by decide) (Nat.le_of_ble_eq_true rfl) (Nat.le_of_ble_eq_true rfl) ?_
  refine s_aload_n 1 rfl rfl rfl ?_
  refine s_objInit 4 rfl rfl oi_Row_3 oi_2 oi_3 (by decide) (Nat.le_of_ble_eq_true rfl) ?_
  refine s_aload_n 5 rfl rfl rfl ?_
  refine s_iload_n 6 rfl rfl rfl ?_
  refine s_iconst 0 7 rfl rfl (by decide) ?_
  refine s_mmax 10 rfl rfl mm_Row_9 (by decide) (Nat.le_of_ble_eq_true rfl) ?_
  show ax_G _ _ _ _ _ _ _ [.int 24, .ref 132] _ _
  refine s_newarray (mc := 0) (ms := 0) 1 24 (a0 := (24, .inl (fun _ => 0))) 12 rfl rfl rfl ac_byte (fun _ h => by cases h) (fun _ => rfl) (by decide) (by decide) (by decide) ?_
  show ax_G _ _ _ _ _ _ _ [.ref 133, .ref 132] _ _
  refine s_putfield 7 0 (.array .byte) 15 rfl rfl fp_Row_15 rfl (by decide) ⟨rfl, rfl⟩ (fun _ => rfl) ?_
  refine s_return rfl rfl ?_
  show ax_G _ _ _ _ _ _ _ [.ref 132, .ref 131] _ _
  refine s_putfield 5 0 (.object "AlarmGroups$Row") 17 rfl rfl fp_Parts_14 rfl (by decide) ⟨rfl, rfl⟩ (fun _ => rfl) ?_
  refine s_aload_n 18 rfl rfl rfl ?_
  refine s_bipush 25 20 rfl rfl (by decide) ?_
  refine s_newarray (mc := 0) (ms := 0) 0 25 (a0 := (25, .inl (fun _ => 0))) 22 rfl rfl rfl ac_int (fun _ h => by cases h) (fun _ => rfl) (by decide) (by decide) (by decide) ?_
  show ax_G _ _ _ _ _ _ _ [.ref 134, .ref 131] _ _
  refine s_putfield 5 1 (.array .int) 25 rfl rfl fp_Parts_20 rfl (by decide) ⟨rfl, rfl⟩ (fun _ => rfl) ?_
  refine s_return rfl rfl ?_
  show ax_G _ _ _ _ _ _ _ [.ref 131, .int 5, .ref 76] _ _
  refine s_aastore 4 5 5 202 rfl rfl rfl rfl rfl rfl (by decide) (by decide) (by decide) ?_
  refine s_inc1 6 205 rfl rfl (by decide) rfl ?_
  refine s_goto 183 rfl (by decide) ?_
  refine s_iload_n 184 rfl rfl rfl ?_
  refine s_bipush 8 186 rfl rfl (by decide) ?_
  refine s_icmp_ge 208 189 rfl rfl (by decide) (fun c => absurd c (by decide)) (fun _ => ?_)
  refine s_aload_n 190 rfl rfl rfl ?_
  refine s_getfield 11 9 193 rfl rfl fl_Top_69 rfl rfl ?_
  refine s_iload_n 194 rfl rfl rfl ?_
  refine s_new (mc := 7) (ms := 105) 5 (fs := [.null, .null, .int 0]) t_Parts 197 rfl rfl rfl cl_Top_63 is_Parts in_Parts t_Parts_ok (by decide) rfl ?_
  show ax_G _ _ _ _ _ _ _ [.ref 135, .int 6, .ref 76] _ _
  refine s_dup 198 rfl rfl rfl ?_
  refine s_callIN0 (mc := 4) (ms := 54) (mc2 := 3) (ms2 := 51) 3 201 rfl rfl mv_Top_90 (by decide) (Nat.le_of_ble_eq_true rfl) (Nat.le_of_ble_eq_true rfl) ?_
  refine s_aload_n 1 rfl rfl rfl ?_
  refine s_objInit 4 rfl rfl oi_Parts_3 oi_2 oi_3 (by decide) (Nat.le_of_ble_eq_true rfl) ?_
  refine s_aload_n 5 rfl rfl rfl ?_
  refine s_new (mc := 2) (ms := 49) 7 (fs := [.null, .int 0]) t_Row 8 rfl rfl rfl cl_Parts_9 is_Row in_Row t_Row_ok (by decide) rfl ?_
  show ax_G _ _ _ _ _ _ _ [.ref 136, .ref 135] _ _
  refine s_dup 9 rfl rfl rfl ?_
  refine s_bipush 24 11 rfl rfl (by decide) ?_
  refine s_callI1 (mc := 1) (ms := 25) (mc2 := 1) (ms2 := 24) 2 14 rfl rfl mv_Parts_11 (by decide) (Nat.le_of_ble_eq_true rfl) (Nat.le_of_ble_eq_true rfl) ?_
  refine s_aload_n 1 rfl rfl rfl ?_
  refine s_objInit 4 rfl rfl oi_Row_3 oi_2 oi_3 (by decide) (Nat.le_of_ble_eq_true rfl) ?_
  refine s_aload_n 5 rfl rfl rfl ?_
  refine s_iload_n 6 rfl rfl rfl ?_
  refine s_iconst 0 7 rfl rfl (by decide) ?_
  refine s_mmax 10 rfl rfl mm_Row_9 (by decide) (Nat.le_of_ble_eq_true rfl) ?_
  show ax_G _ _ _ _ _ _ _ [.int 24, .ref 136] _ _
  refine s_newarray (mc := 0) (ms := 0) 1 24 (a0 := (24, .inl (fun _ => 0))) 12 rfl rfl rfl ac_byte (fun _ h => by cases h) (fun _ => rfl) (by decide) (by decide) (by decide) ?_
  show ax_G _ _ _ _ _ _ _ [.ref 137, .ref 136] _ _
  refine s_putfield 7 0 (.array .byte) 15 rfl rfl fp_Row_15 rfl (by decide) ⟨rfl, rfl⟩ (fun _ => rfl) ?_
  refine s_return rfl rfl ?_
  show ax_G _ _ _ _ _ _ _ [.ref 136, .ref 135] _ _
  refine s_putfield 5 0 (.object "AlarmGroups$Row") 17 rfl rfl fp_Parts_14 rfl (by decide) ⟨rfl, rfl⟩ (fun _ => rfl) ?_
  refine s_aload_n 18 rfl rfl rfl ?_
  refine s_bipush 25 20 rfl rfl (by decide) ?_
  refine s_newarray (mc := 0) (ms := 0) 0 25 (a0 := (25, .inl (fun _ => 0))) 22 rfl rfl rfl ac_int (fun _ h => by cases h) (fun _ => rfl) (by decide) (by decide) (by decide) ?_
  show ax_G _ _ _ _ _ _ _ [.ref 138, .ref 135] _ _
  refine s_putfield 5 1 (.array .int) 25 rfl rfl fp_Parts_20 rfl (by decide) ⟨rfl, rfl⟩ (fun _ => rfl) ?_
  refine s_return rfl rfl ?_
  show ax_G _ _ _ _ _ _ _ [.ref 135, .int 6, .ref 76] _ _
  refine s_aastore 4 5 6 202 rfl rfl rfl rfl rfl rfl (by decide) (by decide) (by decide) ?_
  refine s_inc1 7 205 rfl rfl (by decide) rfl ?_
  refine s_goto 183 rfl (by decide) ?_
  refine s_iload_n 184 rfl rfl rfl ?_
  refine s_bipush 8 186 rfl rfl (by decide) ?_
  refine s_icmp_ge 208 189 rfl rfl (by decide) (fun c => absurd c (by decide)) (fun _ => ?_)
  refine s_aload_n 190 rfl rfl rfl ?_
  refine s_getfield 11 9 193 rfl rfl fl_Top_69 rfl rfl ?_
  refine s_iload_n 194 rfl rfl rfl ?_
  refine s_new (mc := 3) (ms := 51) 5 (fs := [.null, .null, .int 0]) t_Parts 197 rfl rfl rfl cl_Top_63 is_Parts in_Parts t_Parts_ok (by decide) rfl ?_
  show ax_G _ _ _ _ _ _ _ [.ref 139, .int 7, .ref 76] _ _
  refine s_dup 198 rfl rfl rfl ?_
  refine s_callIN0 (mc := 0) (ms := 0) (mc2 := 3) (ms2 := 51) 3 201 rfl rfl mv_Top_90 (by decide) (Nat.le_of_ble_eq_true rfl) (Nat.le_of_ble_eq_true rfl) ?_
  refine s_aload_n 1 rfl rfl rfl ?_
  refine s_objInit 4 rfl rfl oi_Parts_3 oi_2 oi_3 (by decide) (Nat.le_of_ble_eq_true rfl) ?_
  refine s_aload_n 5 rfl rfl rfl ?_
  refine s_new (mc := 2) (ms := 49) 7 (fs := [.null, .int 0]) t_Row 8 rfl rfl rfl cl_Parts_9 is_Row in_Row t_Row_ok (by decide) rfl ?_
  show ax_G _ _ _ _ _ _ _ [.ref 140, .ref 139] _ _
  refine s_dup 9 rfl rfl rfl ?_
  refine s_bipush 24 11 rfl rfl (by decide) ?_
  refine s_callI1 (mc := 1) (ms := 25) (mc2 := 1) (ms2 := 24) 2 14 rfl rfl mv_Parts_11 (by decide) (Nat.le_of_ble_eq_true rfl) (Nat.le_of_ble_eq_true rfl) ?_
  refine s_aload_n 1 rfl rfl rfl ?_
  refine s_objInit 4 rfl rfl oi_Row_3 oi_2 oi_3 (by decide) (Nat.le_of_ble_eq_true rfl) ?_
  refine s_aload_n 5 rfl rfl rfl ?_
  refine s_iload_n 6 rfl rfl rfl ?_
  refine s_iconst 0 7 rfl rfl (by decide) ?_
  refine s_mmax 10 rfl rfl mm_Row_9 (by decide) (Nat.le_of_ble_eq_true rfl) ?_
  show ax_G _ _ _ _ _ _ _ [.int 24, .ref 140] _ _
  refine s_newarray (mc := 0) (ms := 0) 1 24 (a0 := (24, .inl (fun _ => 0))) 12 rfl rfl rfl ac_byte (fun _ h => by cases h) (fun _ => rfl) (by decide) (by decide) (by decide) ?_
  show ax_G _ _ _ _ _ _ _ [.ref 141, .ref 140] _ _
  refine s_putfield 7 0 (.array .byte) 15 rfl rfl fp_Row_15 rfl (by decide) ⟨rfl, rfl⟩ (fun _ => rfl) ?_
  refine s_return rfl rfl ?_
  show ax_G _ _ _ _ _ _ _ [.ref 140, .ref 139] _ _
  refine s_putfield 5 0 (.object "AlarmGroups$Row") 17 rfl rfl fp_Parts_14 rfl (by decide) ⟨rfl, rfl⟩ (fun _ => rfl) ?_
  refine s_aload_n 18 rfl rfl rfl ?_
  refine s_bipush 25 20 rfl rfl (by decide) ?_
  refine s_newarray (mc := 0) (ms := 0) 0 25 (a0 := (25, .inl (fun _ => 0))) 22 rfl rfl rfl ac_int (fun _ h => by cases h) (fun _ => rfl) (by decide) (by decide) (by decide) ?_
  show ax_G _ _ _ _ _ _ _ [.ref 142, .ref 139] _ _
  refine s_putfield 5 1 (.array .int) 25 rfl rfl fp_Parts_20 rfl (by decide) ⟨rfl, rfl⟩ (fun _ => rfl) ?_
  refine s_return rfl rfl ?_
  show ax_G _ _ _ _ _ _ _ [.ref 139, .int 7, .ref 76] _ _
  refine s_aastore 4 5 7 202 rfl rfl rfl rfl rfl rfl (by decide) (by decide) (by decide) ?_
  refine s_inc1 8 205 rfl rfl (by decide) rfl ?_
  refine s_goto 183 rfl (by decide) ?_
  refine s_iload_n 184 rfl rfl rfl ?_
  refine s_bipush 8 186 rfl rfl (by decide) ?_
  refine s_icmp_ge 208 189 rfl rfl (by decide) (fun _ => ?_) (fun c => absurd (by decide) c)
  exact s_return rfl rfl (hq _ rfl (lt_s (lt_s (lt_s (lt_s (lt_s (lt_s (lt_s (lt_s (lt_s (lt_s (lt_s (lt_s (lt_s (lt_s (lt_s (lt_s (lt_s (lt_s (lt_s (lt_s (lt_s (lt_s (lt_s (lt_s (lt_s (lt_s (lt_s (lt_s (lt_s (lt_s (lt_s (lt_s (lt_s (lt_s (lt_s (lt_s (lt_s (lt_s (lt_s (lt_s (lt_s (lt_s (lt_s (lt_s (lt_s (lt_s (lt_s (lt_s (lt_s (lt_s (lt_s (lt_s (lt_s (lt_s (lt_s (lt_s (lt_s (lt_s (lt_s (lt_s (lt_s (lt_s (lt_s (lt_s (lt_s (lt_s (lt_s (lt_s (lt_s (lt_s (lt_s (lt_s (lt_s (lt_s (lt_s (lt_s (lt_s (lt_s (lt_s (lt_s (lt_s (lt_s (lt_s (lt_s (lt_s (lt_s (lt_s (lt_s (lt_s (lt_s (lt_s (lt_s (lt_s (lt_s (lt_s (lt_s (lt_s (lt_s (lt_s (lt_s (lt_s (lt_s (lt_s (lt_s (lt_s (lt_s (lt_s (lt_s (lt_s (lt_s (lt_s (lt_s (lt_s (lt_s (lt_s (lt_s (lt_s (lt_s (lt_s (lt_s (lt_s (lt_s (lt_s (lt_s (lt_s (lt_s (lt_s (lt_s (lt_s (lt_s (lt_s (lt_s (lt_s (lt_s (lt_s (lt_s (lt_s (lt_s (lt_s (lt_s (lt_s (lt_s (lt_s lt_0 (fun _ _ _ _ => rfl)) (fun _ _ _ _ => rfl)) (fun _ _ _ _ => rfl)) (fun _ _ _ _ => rfl)) (fun _ _ _ _ => rfl)) (fun _ _ _ _ => rfl)) (fun _ _ _ _ => rfl)) (fun _ _ _ _ => rfl)) (fun _ _ _ _ => rfl)) (fun _ _ _ _ => rfl)) (fun _ _ _ _ => rfl)) (fun _ _ _ _ => rfl)) (fun _ _ _ _ => rfl)) (fun _ _ _ _ => rfl)) (fun _ _ _ _ => rfl)) (fun _ _ _ _ => rfl)) (fun _ _ _ _ => rfl)) (fun _ _ _ _ => rfl)) (fun _ _ _ _ => rfl)) (fun _ _ _ _ => rfl)) (fun _ _ _ _ => rfl)) (fun _ _ _ _ => rfl)) (fun _ _ _ _ => rfl)) (fun _ h => absurd rfl h)) (fun _ _ _ _ => rfl)) (fun _ _ _ _ => rfl)) (fun _ _ _ _ => rfl)) (fun _ _ _ _ => rfl)) (fun _ _ _ _ => rfl)) (fun _ _ _ _ => rfl)) (fun _ _ _ _ => rfl)) (fun _ _ _ _ => rfl)) (fun _ _ _ _ => rfl)) (fun _ _ _ _ => rfl)) (fun _ _ _ _ => rfl)) (fun _ _ _ _ => rfl)) (fun _ _ _ _ => rfl)) (fun _ _ _ _ => rfl)) (fun _ _ _ _ => rfl)) (fun _ _ _ _ => rfl)) (fun _ _ _ _ => rfl)) (fun _ _ _ _ => rfl)) (fun _ _ _ _ => rfl)) (fun _ _ _ _ => rfl)) (fun _ _ _ _ => rfl)) (fun _ _ _ _ => rfl)) (fun _ _ _ _ => rfl)) (fun _ _ _ _ => rfl)) (fun _ _ _ _ => rfl)) (fun _ _ _ _ => rfl)) (fun _ _ _ _ => rfl)) (fun _ _ _ _ => rfl)) (fun _ _ _ _ => rfl)) (fun _ _ _ _ => rfl)) (fun _ _ _ _ => rfl)) (fun _ _ _ _ => rfl)) (fun _ _ _ _ => rfl)) (fun _ _ _ _ => rfl)) (fun _ _ _ _ => rfl)) (fun _ _ _ _ => rfl)) (fun _ _ _ _ => rfl)) (fun _ _ _ _ => rfl)) (fun _ _ _ _ => rfl)) (fun _ _ _ _ => rfl)) (fun _ _ _ _ => rfl)) (fun _ _ _ _ => rfl)) (fun _ _ _ _ => rfl)) (fun _ _ _ _ => rfl)) (fun _ _ _ _ => rfl)) (fun _ _ _ _ => rfl)) (fun _ _ _ _ => rfl)) (fun _ _ _ _ => rfl)) (fun _ _ _ _ => rfl)) (fun _ _ _ _ => rfl)) (fun _ _ _ _ => rfl)) (fun _ _ h => absurd rfl h)) (fun _ _ _ h => absurd rfl h)) (fun _ _ _ _ => rfl)) (fun _ _ _ _ => rfl)) (fun _ _ _ _ => rfl)) (fun _ _ _ _ => rfl)) (fun _ _ _ _ => rfl)) (fun _ _ _ _ => rfl)) (fun _ _ _ _ => rfl)) (fun _ _ _ _ => rfl)) (fun _ _ _ _ => rfl)) (fun _ _ _ _ => rfl)) (fun _ _ _ _ => rfl)) (fun _ _ _ _ => rfl)) (fun _ _ _ _ => rfl)) (fun _ _ _ _ => rfl)) (fun _ _ _ _ => rfl)) (fun _ _ _ _ => rfl)) (fun _ _ _ _ => rfl)) (fun _ _ _ _ => rfl)) (fun _ _ _ _ => rfl)) (fun _ _ _ _ => rfl)) (fun _ _ _ _ => rfl)) (fun _ _ _ _ => rfl)) (fun _ _ _ _ => rfl)) (fun _ _ _ _ => rfl)) (fun _ _ _ _ => rfl)) (fun _ _ _ _ => rfl)) (fun _ _ _ _ => rfl)) (fun _ _ _ _ => rfl)) (fun _ _ _ _ => rfl)) (fun _ _ _ _ => rfl)) (fun _ _ _ _ => rfl)) (fun _ _ _ _ => rfl)) (fun _ _ _ _ => rfl)) (fun _ _ _ _ => rfl)) (fun _ _ _ _ => rfl)) (fun _ _ _ _ => rfl)) (fun _ _ _ _ => rfl)) (fun _ _ _ _ => rfl)) (fun _ _ _ _ => rfl)) (fun _ _ _ _ => rfl)) (fun _ _ _ _ => rfl)) (fun _ _ _ _ => rfl)) (fun _ _ _ _ => rfl)) (fun _ _ _ _ => rfl)) (fun _ _ _ _ => rfl)) (fun _ _ _ _ => rfl)) (fun _ _ _ _ => rfl)) (fun _ _ _ _ => rfl)) (fun _ _ _ _ => rfl)) (fun _ _ _ _ => rfl)) (fun _ _ _ _ => rfl)) (fun _ _ _ _ => rfl)) (fun _ _ _ _ => rfl)) (fun _ _ _ _ => rfl)) (fun _ _ _ _ => rfl)) (fun _ _ _ _ => rfl)) (fun _ _ _ _ => rfl)) (fun _ _ _ _ => rfl)) (fun _ _ _ _ => rfl)) (fun _ _ _ _ => rfl)) (fun _ _ _ _ => rfl)) (fun _ _ _ _ => rfl)) (fun _ _ _ _ => rfl)) (fun _ _ _ _ => rfl)) (fun _ _ _ _ => rfl)) (fun _ _ _ _ => rfl)) ⟨_, rfl, (lt_s (lt_s (lt_s (lt_s (lt_s (lt_s (lt_s (lt_s (lt_s (lt_s (lt_s (lt_s (lt_s lt_0 rfl) rfl) rfl) rfl) rfl) rfl) rfl) rfl) rfl) rfl) rfl) rfl) rfl)⟩ ⟨_, rfl, (lt_s (lt_s (lt_s (lt_s (lt_s (lt_s lt_0 rfl) rfl) rfl) rfl) rfl) rfl)⟩ ⟨_, rfl, (lt_s (lt_s (lt_s (lt_s (lt_s (lt_s (lt_s (lt_s lt_0 rfl) rfl) rfl) rfl) rfl) rfl) rfl) rfl)⟩)
set_option maxRecDepth 100000 in
set_option maxHeartbeats 8000000 in
theorem init_Mod {g : ax_Y} {Q : Option Value → ax_M → Prop} (f : Nat → Option ax_E) (hq : ∀ M : ax_M, M.1 = 184 → (∀ k, k < 143 → M.2 k = f k) → wt_q M 143 184 → Q none M) : ax_G g mt_Mod_init 4 40 5287 0 [.ref 143] [] (ax_new (143, f) (.inr (12, [.null, .int 0, .int 0, .int 0, .null, .null, .null, .int 0, .null, .null, .null, .null, .null, .null, .null, .int 0, .null, .null, .null, .null, .null, .null, .null, .int 0, .null, .null, .int 0, .null, .null, .int 0, .int 0, .null, .null, .null, .null, .null, .null, .null, .int 0, .int 0, .int 0, .long 0, .int 0, .null, .null, .int 0, .null, .null, .null, .null, .null, .int 0, .null, .int 0, .null, .null, .int 0, .null]))) Q := by
  refine s_aload_n 1 rfl rfl rfl ?_
  refine s_objInit 4 rfl rfl oi_Mod_1 oi_2 oi_3 (by decide) (Nat.le_of_ble_eq_true rfl) ?_
  refine s_aload_n 5 rfl rfl rfl ?_
  refine s_sipush 160 8 rfl rfl (by decide) ?_
  refine s_newarray (mc := 39) (ms := 5127) 0 160 (a0 := (160, .inl (fun _ => 0))) 10 rfl rfl rfl ac_int (fun _ h => by cases h) (fun _ => rfl) (by decide) (by decide) (by decide) ?_
  show ax_G _ _ _ _ _ _ _ [.ref 144, .ref 143] _ _
  refine s_putfield 12 0 (.array .int) 13 rfl rfl fp_Mod_7 rfl (by decide) ⟨rfl, rfl⟩ (fun _ => rfl) ?_
  refine s_aload_n 14 rfl rfl rfl ?_
  refine s_bipush 40 16 rfl rfl (by decide) ?_
  refine s_newarray (mc := 38) (ms := 5087) 0 40 (a0 := (40, .inl (fun _ => 0))) 18 rfl rfl rfl ac_int (fun _ h => by cases h) (fun _ => rfl) (by decide) (by decide) (by decide) ?_
  show ax_G _ _ _ _ _ _ _ [.ref 145, .ref 143] _ _
  refine s_putfield 12 4 (.array .int) 21 rfl rfl fp_Mod_13 rfl (by decide) ⟨rfl, rfl⟩ (fun _ => rfl) ?_
  refine s_aload_n 22 rfl rfl rfl ?_
  refine s_bipush 40 24 rfl rfl (by decide) ?_
  refine s_newarray (mc := 37) (ms := 5047) 0 40 (a0 := (40, .inl (fun _ => 0))) 26 rfl rfl rfl ac_int (fun _ h => by cases h) (fun _ => rfl) (by decide) (by decide) (by decide) ?_
  show ax_G _ _ _ _ _ _ _ [.ref 146, .ref 143] _ _
  refine s_putfield 12 5 (.array .int) 29 rfl rfl fp_Mod_16 rfl (by decide) ⟨rfl, rfl⟩ (fun _ => rfl) ?_
  refine s_aload_n 30 rfl rfl rfl ?_
  refine s_bipush 40 32 rfl rfl (by decide) ?_
  refine s_newarray (mc := 36) (ms := 5007) 0 40 (a0 := (40, .inl (fun _ => 0))) 34 rfl rfl rfl ac_int (fun _ h => by cases h) (fun _ => rfl) (by decide) (by decide) (by decide) ?_
  show ax_G _ _ _ _ _ _ _ [.ref 147, .ref 143] _ _
  refine s_putfield 12 6 (.array .int) 37 rfl rfl fp_Mod_19 rfl (by decide) ⟨rfl, rfl⟩ (fun _ => rfl) ?_
  refine s_aload_n 38 rfl rfl rfl ?_
  refine s_bipush 40 40 rfl rfl (by decide) ?_
  refine s_newarray (mc := 35) (ms := 4967) 0 40 (a0 := (40, .inl (fun _ => 0))) 42 rfl rfl rfl ac_int (fun _ h => by cases h) (fun _ => rfl) (by decide) (by decide) (by decide) ?_
  show ax_G _ _ _ _ _ _ _ [.ref 148, .ref 143] _ _
  refine s_putfield 12 8 (.array .int) 45 rfl rfl fp_Mod_22 rfl (by decide) ⟨rfl, rfl⟩ (fun _ => rfl) ?_
  refine s_aload_n 46 rfl rfl rfl ?_
  refine s_bipush 40 48 rfl rfl (by decide) ?_
  refine s_newarray (mc := 34) (ms := 4927) 0 40 (a0 := (40, .inl (fun _ => 0))) 50 rfl rfl rfl ac_int (fun _ h => by cases h) (fun _ => rfl) (by decide) (by decide) (by decide) ?_
  show ax_G _ _ _ _ _ _ _ [.ref 149, .ref 143] _ _
  refine s_putfield 12 9 (.array .int) 53 rfl rfl fp_Mod_25 rfl (by decide) ⟨rfl, rfl⟩ (fun _ => rfl) ?_
  refine s_aload_n 54 rfl rfl rfl ?_
  refine s_bipush 40 56 rfl rfl (by decide) ?_
  refine s_newarray (mc := 33) (ms := 4887) 0 40 (a0 := (40, .inl (fun _ => 0))) 58 rfl rfl rfl ac_int (fun _ h => by cases h) (fun _ => rfl) (by decide) (by decide) (by decide) ?_
  show ax_G _ _ _ _ _ _ _ [.ref 150, .ref 143] _ _
  refine s_putfield 12 10 (.array .int) 61 rfl rfl fp_Mod_28 rfl (by decide) ⟨rfl, rfl⟩ (fun _ => rfl) ?_
  refine s_aload_n 62 rfl rfl rfl ?_
  refine s_bipush 40 64 rfl rfl (by decide) ?_
  refine s_newarray (mc := 32) (ms := 4847) 0 40 (a0 := (40, .inl (fun _ => 0))) 66 rfl rfl rfl ac_int (fun _ h => by cases h) (fun _ => rfl) (by decide) (by decide) (by decide) ?_
  show ax_G _ _ _ _ _ _ _ [.ref 151, .ref 143] _ _
  refine s_putfield 12 11 (.array .int) 69 rfl rfl fp_Mod_31 rfl (by decide) ⟨rfl, rfl⟩ (fun _ => rfl) ?_
  refine s_aload_n 70 rfl rfl rfl ?_
  refine s_bipush 40 72 rfl rfl (by decide) ?_
  refine s_newarray (mc := 31) (ms := 4807) 0 40 (a0 := (40, .inl (fun _ => 0))) 74 rfl rfl rfl ac_int (fun _ h => by cases h) (fun _ => rfl) (by decide) (by decide) (by decide) ?_
  show ax_G _ _ _ _ _ _ _ [.ref 152, .ref 143] _ _
  refine s_putfield 12 12 (.array .int) 77 rfl rfl fp_Mod_34 rfl (by decide) ⟨rfl, rfl⟩ (fun _ => rfl) ?_
  refine s_aload_n 78 rfl rfl rfl ?_
  refine s_sipush 1681 81 rfl rfl (by decide) ?_
  refine s_newarray (mc := 30) (ms := 3126) 0 1681 (a0 := (1681, .inl (fun _ => 0))) 83 rfl rfl rfl ac_int (fun _ h => by cases h) (fun _ => rfl) (by decide) (by decide) (by decide) ?_
  show ax_G _ _ _ _ _ _ _ [.ref 153, .ref 143] _ _
  refine s_putfield 12 13 (.array .int) 86 rfl rfl fp_Mod_37 rfl (by decide) ⟨rfl, rfl⟩ (fun _ => rfl) ?_
  refine s_aload_n 87 rfl rfl rfl ?_
  refine s_bipush 48 89 rfl rfl (by decide) ?_
  refine s_newarray (mc := 29) (ms := 3078) 0 48 (a0 := (48, .inl (fun _ => 0))) 91 rfl rfl rfl ac_int (fun _ h => by cases h) (fun _ => rfl) (by decide) (by decide) (by decide) ?_
  show ax_G _ _ _ _ _ _ _ [.ref 154, .ref 143] _ _
  refine s_putfield 12 14 (.array .int) 94 rfl rfl fp_Mod_40 rfl (by decide) ⟨rfl, rfl⟩ (fun _ => rfl) ?_
  refine s_aload_n 95 rfl rfl rfl ?_
  refine s_bipush 50 97 rfl rfl (by decide) ?_
  refine s_newarray (mc := 28) (ms := 3028) 0 50 (a0 := (50, .inl (fun _ => 0))) 99 rfl rfl rfl ac_int (fun _ h => by cases h) (fun _ => rfl) (by decide) (by decide) (by decide) ?_
  show ax_G _ _ _ _ _ _ _ [.ref 155, .ref 143] _ _
  refine s_putfield 12 16 (.array .int) 102 rfl rfl fp_Mod_43 rfl (by decide) ⟨rfl, rfl⟩ (fun _ => rfl) ?_
  refine s_aload_n 103 rfl rfl rfl ?_
  refine s_bipush 50 105 rfl rfl (by decide) ?_
  refine s_newarray (mc := 27) (ms := 2978) 0 50 (a0 := (50, .inl (fun _ => 0))) 107 rfl rfl rfl ac_int (fun _ h => by cases h) (fun _ => rfl) (by decide) (by decide) (by decide) ?_
  show ax_G _ _ _ _ _ _ _ [.ref 156, .ref 143] _ _
  refine s_putfield 12 17 (.array .int) 110 rfl rfl fp_Mod_46 rfl (by decide) ⟨rfl, rfl⟩ (fun _ => rfl) ?_
  refine s_aload_n 111 rfl rfl rfl ?_
  refine s_bipush 50 113 rfl rfl (by decide) ?_
  refine s_newarray (mc := 26) (ms := 2928) 0 50 (a0 := (50, .inl (fun _ => 0))) 115 rfl rfl rfl ac_int (fun _ h => by cases h) (fun _ => rfl) (by decide) (by decide) (by decide) ?_
  show ax_G _ _ _ _ _ _ _ [.ref 157, .ref 143] _ _
  refine s_putfield 12 18 (.array .int) 118 rfl rfl fp_Mod_49 rfl (by decide) ⟨rfl, rfl⟩ (fun _ => rfl) ?_
  refine s_aload_n 119 rfl rfl rfl ?_
  refine s_bipush 50 121 rfl rfl (by decide) ?_
  refine s_newarray (mc := 25) (ms := 2878) 0 50 (a0 := (50, .inl (fun _ => 0))) 123 rfl rfl rfl ac_int (fun _ h => by cases h) (fun _ => rfl) (by decide) (by decide) (by decide) ?_
  show ax_G _ _ _ _ _ _ _ [.ref 158, .ref 143] _ _
  refine s_putfield 12 19 (.array .int) 126 rfl rfl fp_Mod_52 rfl (by decide) ⟨rfl, rfl⟩ (fun _ => rfl) ?_
  refine s_aload_n 127 rfl rfl rfl ?_
  refine s_bipush 50 129 rfl rfl (by decide) ?_
  refine s_newarray (mc := 24) (ms := 2828) 0 50 (a0 := (50, .inl (fun _ => 0))) 131 rfl rfl rfl ac_int (fun _ h => by cases h) (fun _ => rfl) (by decide) (by decide) (by decide) ?_
  show ax_G _ _ _ _ _ _ _ [.ref 159, .ref 143] _ _
  refine s_putfield 12 20 (.array .int) 134 rfl rfl fp_Mod_55 rfl (by decide) ⟨rfl, rfl⟩ (fun _ => rfl) ?_
  refine s_aload_n 135 rfl rfl rfl ?_
  refine s_bipush 50 137 rfl rfl (by decide) ?_
  refine s_newarray (mc := 23) (ms := 2778) 0 50 (a0 := (50, .inl (fun _ => 0))) 139 rfl rfl rfl ac_int (fun _ h => by cases h) (fun _ => rfl) (by decide) (by decide) (by decide) ?_
  show ax_G _ _ _ _ _ _ _ [.ref 160, .ref 143] _ _
  refine s_putfield 12 21 (.array .int) 142 rfl rfl fp_Mod_58 rfl (by decide) ⟨rfl, rfl⟩ (fun _ => rfl) ?_
  refine s_aload_n 143 rfl rfl rfl ?_
  refine s_bipush 50 145 rfl rfl (by decide) ?_
  refine s_newarray (mc := 22) (ms := 2728) 0 50 (a0 := (50, .inl (fun _ => 0))) 147 rfl rfl rfl ac_int (fun _ h => by cases h) (fun _ => rfl) (by decide) (by decide) (by decide) ?_
  show ax_G _ _ _ _ _ _ _ [.ref 161, .ref 143] _ _
  refine s_putfield 12 22 (.array .int) 150 rfl rfl fp_Mod_61 rfl (by decide) ⟨rfl, rfl⟩ (fun _ => rfl) ?_
  refine s_aload_n 151 rfl rfl rfl ?_
  refine s_bipush 20 153 rfl rfl (by decide) ?_
  refine s_newarray (mc := 21) (ms := 2708) 0 20 (a0 := (20, .inl (fun _ => 0))) 155 rfl rfl rfl ac_int (fun _ h => by cases h) (fun _ => rfl) (by decide) (by decide) (by decide) ?_
  show ax_G _ _ _ _ _ _ _ [.ref 162, .ref 143] _ _
  refine s_putfield 12 24 (.array .int) 158 rfl rfl fp_Mod_64 rfl (by decide) ⟨rfl, rfl⟩ (fun _ => rfl) ?_
  refine s_aload_n 159 rfl rfl rfl ?_
  refine s_bipush 20 161 rfl rfl (by decide) ?_
  refine s_newarray (mc := 20) (ms := 2688) 0 20 (a0 := (20, .inl (fun _ => 0))) 163 rfl rfl rfl ac_int (fun _ h => by cases h) (fun _ => rfl) (by decide) (by decide) (by decide) ?_
  show ax_G _ _ _ _ _ _ _ [.ref 163, .ref 143] _ _
  refine s_putfield 12 25 (.array .int) 166 rfl rfl fp_Mod_67 rfl (by decide) ⟨rfl, rfl⟩ (fun _ => rfl) ?_
  refine s_aload_n 167 rfl rfl rfl ?_
  refine s_bipush 50 169 rfl rfl (by decide) ?_
  refine s_newarray (mc := 19) (ms := 2638) 0 50 (a0 := (50, .inl (fun _ => 0))) 171 rfl rfl rfl ac_int (fun _ h => by cases h) (fun _ => rfl) (by decide) (by decide) (by decide) ?_
  show ax_G _ _ _ _ _ _ _ [.ref 164, .ref 143] _ _
  refine s_putfield 12 27 (.array .int) 174 rfl rfl fp_Mod_70 rfl (by decide) ⟨rfl, rfl⟩ (fun _ => rfl) ?_
  refine s_aload_n 175 rfl rfl rfl ?_
  refine s_bipush 18 177 rfl rfl (by decide) ?_
  refine s_newarray (mc := 18) (ms := 2620) 0 18 (a0 := (18, .inl (fun _ => 0))) 179 rfl rfl rfl ac_int (fun _ h => by cases h) (fun _ => rfl) (by decide) (by decide) (by decide) ?_
  show ax_G _ _ _ _ _ _ _ [.ref 165, .ref 143] _ _
  refine s_putfield 12 28 (.array .int) 182 rfl rfl fp_Mod_73 rfl (by decide) ⟨rfl, rfl⟩ (fun _ => rfl) ?_
  refine s_aload_n 183 rfl rfl rfl ?_
  refine s_bipush 26 185 rfl rfl (by decide) ?_
  refine s_newarray (mc := 17) (ms := 2594) 0 26 (a0 := (26, .inl (fun _ => 0))) 187 rfl rfl rfl ac_int (fun _ h => by cases h) (fun _ => rfl) (by decide) (by decide) (by decide) ?_
  show ax_G _ _ _ _ _ _ _ [.ref 166, .ref 143] _ _
  refine s_putfield 12 31 (.array .int) 190 rfl rfl fp_Mod_76 rfl (by decide) ⟨rfl, rfl⟩ (fun _ => rfl) ?_
  refine s_aload_n 191 rfl rfl rfl ?_
  refine s_bipush 26 193 rfl rfl (by decide) ?_
  refine s_newarray (mc := 16) (ms := 2568) 0 26 (a0 := (26, .inl (fun _ => 0))) 195 rfl rfl rfl ac_int (fun _ h => by cases h) (fun _ => rfl) (by decide) (by decide) (by decide) ?_
  show ax_G _ _ _ _ _ _ _ [.ref 167, .ref 143] _ _
  refine s_putfield 12 32 (.array .int) 198 rfl rfl fp_Mod_79 rfl (by decide) ⟨rfl, rfl⟩ (fun _ => rfl) ?_
  refine s_aload_n 199 rfl rfl rfl ?_
  refine s_bipush 26 201 rfl rfl (by decide) ?_
  refine s_newarray (mc := 15) (ms := 2542) 0 26 (a0 := (26, .inl (fun _ => 0))) 203 rfl rfl rfl ac_int (fun _ h => by cases h) (fun _ => rfl) (by decide) (by decide) (by decide) ?_
  show ax_G _ _ _ _ _ _ _ [.ref 168, .ref 143] _ _
  refine s_putfield 12 33 (.array .int) 206 rfl rfl fp_Mod_82 rfl (by decide) ⟨rfl, rfl⟩ (fun _ => rfl) ?_
  refine s_aload_n 207 rfl rfl rfl ?_
  refine s_bipush 26 209 rfl rfl (by decide) ?_
  refine s_newarray (mc := 14) (ms := 2516) 0 26 (a0 := (26, .inl (fun _ => 0))) 211 rfl rfl rfl ac_int (fun _ h => by cases h) (fun _ => rfl) (by decide) (by decide) (by decide) ?_
  show ax_G _ _ _ _ _ _ _ [.ref 169, .ref 143] _ _
  refine s_putfield 12 34 (.array .int) 214 rfl rfl fp_Mod_85 rfl (by decide) ⟨rfl, rfl⟩ (fun _ => rfl) ?_
  refine s_aload_n 215 rfl rfl rfl ?_
  refine s_bipush 26 217 rfl rfl (by decide) ?_
  refine s_newarray (mc := 13) (ms := 2490) 3 26 (a0 := (26, .inr (.inl (fun _ => 0)))) 219 rfl rfl rfl ac_long (fun _ h => by cases h) (fun _ => rfl) (by decide) (by decide) (by decide) ?_
  show ax_G _ _ _ _ _ _ _ [.ref 170, .ref 143] _ _
  refine s_putfield 12 35 (.array .long) 222 rfl rfl fp_Mod_88 rfl (by decide) ⟨rfl, rfl⟩ (fun _ => rfl) ?_
  refine s_aload_n 223 rfl rfl rfl ?_
  refine s_bipush 26 225 rfl rfl (by decide) ?_
  refine s_newarray (mc := 12) (ms := 2464) 0 26 (a0 := (26, .inl (fun _ => 0))) 227 rfl rfl rfl ac_int (fun _ h => by cases h) (fun _ => rfl) (by decide) (by decide) (by decide) ?_
  show ax_G _ _ _ _ _ _ _ [.ref 171, .ref 143] _ _
  refine s_putfield 12 36 (.array .int) 230 rfl rfl fp_Mod_92 rfl (by decide) ⟨rfl, rfl⟩ (fun _ => rfl) ?_
  refine s_aload_n 231 rfl rfl rfl ?_
  refine s_sipush 520 234 rfl rfl (by decide) ?_
  refine s_newarray (mc := 11) (ms := 1944) 0 520 (a0 := (520, .inl (fun _ => 0))) 236 rfl rfl rfl ac_int (fun _ h => by cases h) (fun _ => rfl) (by decide) (by decide) (by decide) ?_
  show ax_G _ _ _ _ _ _ _ [.ref 172, .ref 143] _ _
  refine s_putfield 12 37 (.array .int) 239 rfl rfl fp_Mod_95 rfl (by decide) ⟨rfl, rfl⟩ (fun _ => rfl) ?_
  refine s_aload_n 240 rfl rfl rfl ?_
  refine s_sipush 144 243 rfl rfl (by decide) ?_
  refine s_newarray (mc := 10) (ms := 1800) 0 144 (a0 := (144, .inl (fun _ => 0))) 245 rfl rfl rfl ac_int (fun _ h => by cases h) (fun _ => rfl) (by decide) (by decide) (by decide) ?_
  show ax_G _ _ _ _ _ _ _ [.ref 173, .ref 143] _ _
  refine s_putfield 12 43 (.array .int) 248 rfl rfl fp_Mod_98 rfl (by decide) ⟨rfl, rfl⟩ (fun _ => rfl) ?_
  refine s_aload_n 249 rfl rfl rfl ?_
  refine s_bipush 6 251 rfl rfl (by decide) ?_
  refine s_newarray (mc := 9) (ms := 1794) 0 6 (a0 := (6, .inl (fun _ => 0))) 253 rfl rfl rfl ac_int (fun _ h => by cases h) (fun _ => rfl) (by decide) (by decide) (by decide) ?_
  show ax_G _ _ _ _ _ _ _ [.ref 174, .ref 143] _ _
  refine s_putfield 12 44 (.array .int) 256 rfl rfl fp_Mod_101 rfl (by decide) ⟨rfl, rfl⟩ (fun _ => rfl) ?_
  refine s_aload_n 257 rfl rfl rfl ?_
  refine s_sipush 192 260 rfl rfl (by decide) ?_
  refine s_newarray (mc := 8) (ms := 1602) 0 192 (a0 := (192, .inl (fun _ => 0))) 262 rfl rfl rfl ac_int (fun _ h => by cases h) (fun _ => rfl) (by decide) (by decide) (by decide) ?_
  show ax_G _ _ _ _ _ _ _ [.ref 175, .ref 143] _ _
  refine s_putfield 12 46 (.array .int) 265 rfl rfl fp_Mod_104 rfl (by decide) ⟨rfl, rfl⟩ (fun _ => rfl) ?_
  refine s_aload_n 266 rfl rfl rfl ?_
  refine s_bipush 8 268 rfl rfl (by decide) ?_
  refine s_newarray (mc := 7) (ms := 1594) 0 8 (a0 := (8, .inl (fun _ => 0))) 270 rfl rfl rfl ac_int (fun _ h => by cases h) (fun _ => rfl) (by decide) (by decide) (by decide) ?_
  show ax_G _ _ _ _ _ _ _ [.ref 176, .ref 143] _ _
  refine s_putfield 12 47 (.array .int) 273 rfl rfl fp_Mod_107 rfl (by decide) ⟨rfl, rfl⟩ (fun _ => rfl) ?_
  refine s_aload_n 274 rfl rfl rfl ?_
  refine s_bipush 8 276 rfl rfl (by decide) ?_
  refine s_newarray (mc := 6) (ms := 1586) 0 8 (a0 := (8, .inl (fun _ => 0))) 278 rfl rfl rfl ac_int (fun _ h => by cases h) (fun _ => rfl) (by decide) (by decide) (by decide) ?_
  show ax_G _ _ _ _ _ _ _ [.ref 177, .ref 143] _ _
  refine s_putfield 12 48 (.array .int) 281 rfl rfl fp_Mod_110 rfl (by decide) ⟨rfl, rfl⟩ (fun _ => rfl) ?_
  refine s_aload_n 282 rfl rfl rfl ?_
  refine s_sipush 676 285 rfl rfl (by decide) ?_
  refine s_newarray (mc := 5) (ms := 910) 2 676 (a0 := (676, .inl (fun _ => 0))) 287 rfl rfl rfl ac_boolean (fun _ h => by cases h) (fun _ => rfl) (by decide) (by decide) (by decide) ?_
  show ax_G _ _ _ _ _ _ _ [.ref 178, .ref 143] _ _
  refine s_putfield 12 49 (.array .boolean) 290 rfl rfl fp_Mod_113 rfl (by decide) ⟨rfl, rfl⟩ (fun _ => rfl) ?_
  refine s_aload_n 291 rfl rfl rfl ?_
  refine s_bipush 50 293 rfl rfl (by decide) ?_
  refine s_newarray (mc := 4) (ms := 860) 0 50 (a0 := (50, .inl (fun _ => 0))) 295 rfl rfl rfl ac_int (fun _ h => by cases h) (fun _ => rfl) (by decide) (by decide) (by decide) ?_
  show ax_G _ _ _ _ _ _ _ [.ref 179, .ref 143] _ _
  refine s_putfield 12 50 (.array .int) 298 rfl rfl fp_Mod_117 rfl (by decide) ⟨rfl, rfl⟩ (fun _ => rfl) ?_
  refine s_aload_n 299 rfl rfl rfl ?_
  refine s_bipush 50 301 rfl rfl (by decide) ?_
  refine s_newarray (mc := 3) (ms := 810) 0 50 (a0 := (50, .inl (fun _ => 0))) 303 rfl rfl rfl ac_int (fun _ h => by cases h) (fun _ => rfl) (by decide) (by decide) (by decide) ?_
  show ax_G _ _ _ _ _ _ _ [.ref 180, .ref 143] _ _
  refine s_putfield 12 52 (.array .int) 306 rfl rfl fp_Mod_120 rfl (by decide) ⟨rfl, rfl⟩ (fun _ => rfl) ?_
  refine s_aload_n 307 rfl rfl rfl ?_
  refine s_bipush 6 309 rfl rfl (by decide) ?_
  refine s_newarray (mc := 2) (ms := 804) 0 6 (a0 := (6, .inl (fun _ => 0))) 311 rfl rfl rfl ac_int (fun _ h => by cases h) (fun _ => rfl) (by decide) (by decide) (by decide) ?_
  show ax_G _ _ _ _ _ _ _ [.ref 181, .ref 143] _ _
  refine s_putfield 12 54 (.array .int) 314 rfl rfl fp_Mod_123 rfl (by decide) ⟨rfl, rfl⟩ (fun _ => rfl) ?_
  refine s_aload_n 315 rfl rfl rfl ?_
  refine s_sipush 800 318 rfl rfl (by decide) ?_
  refine s_newarray (mc := 1) (ms := 4) 0 800 (a0 := (800, .inl (fun _ => 0))) 320 rfl rfl rfl ac_int (fun _ h => by cases h) (fun _ => rfl) (by decide) (by decide) (by decide) ?_
  show ax_G _ _ _ _ _ _ _ [.ref 182, .ref 143] _ _
  refine s_putfield 12 55 (.array .int) 323 rfl rfl fp_Mod_126 rfl (by decide) ⟨rfl, rfl⟩ (fun _ => rfl) ?_
  refine s_aload_n 324 rfl rfl rfl ?_
  refine s_iconst 4 325 rfl rfl (by decide) ?_
  refine s_newarray (mc := 0) (ms := 0) 0 4 (a0 := (4, .inl (fun _ => 0))) 327 rfl rfl rfl ac_int (fun _ h => by cases h) (fun _ => rfl) (by decide) (by decide) (by decide) ?_
  show ax_G _ _ _ _ _ _ _ [.ref 183, .ref 143] _ _
  refine s_putfield 12 57 (.array .int) 330 rfl rfl fp_Mod_129 rfl (by decide) ⟨rfl, rfl⟩ (fun _ => rfl) ?_
  exact s_return rfl rfl (hq _ rfl (lt_s (lt_s (lt_s (lt_s (lt_s (lt_s (lt_s (lt_s (lt_s (lt_s (lt_s (lt_s (lt_s (lt_s (lt_s (lt_s (lt_s (lt_s (lt_s (lt_s (lt_s (lt_s (lt_s (lt_s (lt_s (lt_s (lt_s (lt_s (lt_s (lt_s (lt_s (lt_s (lt_s (lt_s (lt_s (lt_s (lt_s (lt_s (lt_s (lt_s (lt_s (lt_s (lt_s (lt_s (lt_s (lt_s (lt_s (lt_s (lt_s (lt_s (lt_s (lt_s (lt_s (lt_s (lt_s (lt_s (lt_s (lt_s (lt_s (lt_s (lt_s (lt_s (lt_s (lt_s (lt_s (lt_s (lt_s (lt_s (lt_s (lt_s (lt_s (lt_s (lt_s (lt_s (lt_s (lt_s (lt_s (lt_s (lt_s (lt_s (lt_s (lt_s (lt_s (lt_s (lt_s (lt_s (lt_s (lt_s (lt_s (lt_s (lt_s (lt_s (lt_s (lt_s (lt_s (lt_s (lt_s (lt_s (lt_s (lt_s (lt_s (lt_s (lt_s (lt_s (lt_s (lt_s (lt_s (lt_s (lt_s (lt_s (lt_s (lt_s (lt_s (lt_s (lt_s (lt_s (lt_s (lt_s (lt_s (lt_s (lt_s (lt_s (lt_s (lt_s (lt_s (lt_s (lt_s (lt_s (lt_s (lt_s (lt_s (lt_s (lt_s (lt_s (lt_s (lt_s (lt_s (lt_s (lt_s (lt_s (lt_s (lt_s (lt_s lt_0 rfl) rfl) rfl) rfl) rfl) rfl) rfl) rfl) rfl) rfl) rfl) rfl) rfl) rfl) rfl) rfl) rfl) rfl) rfl) rfl) rfl) rfl) rfl) rfl) rfl) rfl) rfl) rfl) rfl) rfl) rfl) rfl) rfl) rfl) rfl) rfl) rfl) rfl) rfl) rfl) rfl) rfl) rfl) rfl) rfl) rfl) rfl) rfl) rfl) rfl) rfl) rfl) rfl) rfl) rfl) rfl) rfl) rfl) rfl) rfl) rfl) rfl) rfl) rfl) rfl) rfl) rfl) rfl) rfl) rfl) rfl) rfl) rfl) rfl) rfl) rfl) rfl) rfl) rfl) rfl) rfl) rfl) rfl) rfl) rfl) rfl) rfl) rfl) rfl) rfl) rfl) rfl) rfl) rfl) rfl) rfl) rfl) rfl) rfl) rfl) rfl) rfl) rfl) rfl) rfl) rfl) rfl) rfl) rfl) rfl) rfl) rfl) rfl) rfl) rfl) rfl) rfl) rfl) rfl) rfl) rfl) rfl) rfl) rfl) rfl) rfl) rfl) rfl) rfl) rfl) rfl) rfl) rfl) rfl) rfl) rfl) rfl) rfl) rfl) rfl) rfl) rfl) rfl) (lt_s (lt_s (lt_s (lt_s (lt_s (lt_s (lt_s (lt_s (lt_s (lt_s (lt_s (lt_s (lt_s (lt_s (lt_s (lt_s (lt_s (lt_s (lt_s (lt_s (lt_s (lt_s (lt_s (lt_s (lt_s (lt_s (lt_s (lt_s (lt_s (lt_s (lt_s (lt_s (lt_s (lt_s (lt_s (lt_s (lt_s (lt_s (lt_s (lt_s (lt_s (lt_s (lt_s (lt_s (lt_s (lt_s (lt_s (lt_s (lt_s (lt_s (lt_s (lt_s (lt_s (lt_s (lt_s (lt_s (lt_s (lt_s (lt_s (lt_s (lt_s (lt_s (lt_s (lt_s (lt_s (lt_s (lt_s (lt_s (lt_s (lt_s (lt_s (lt_s (lt_s (lt_s (lt_s (lt_s (lt_s (lt_s (lt_s (lt_s (lt_s (lt_s (lt_s (lt_s (lt_s (lt_s (lt_s (lt_s (lt_s (lt_s (lt_s (lt_s (lt_s (lt_s (lt_s (lt_s (lt_s (lt_s (lt_s (lt_s (lt_s (lt_s (lt_s (lt_s (lt_s (lt_s (lt_s (lt_s (lt_s (lt_s (lt_s (lt_s (lt_s (lt_s (lt_s (lt_s (lt_s (lt_s (lt_s (lt_s (lt_s (lt_s (lt_s (lt_s (lt_s (lt_s (lt_s (lt_s (lt_s (lt_s (lt_s (lt_s (lt_s (lt_s (lt_s (lt_s (lt_s (lt_s (lt_s (lt_s (lt_s (lt_s (lt_s (lt_s (lt_s (lt_s (lt_s (lt_s (lt_s (lt_s (lt_s (lt_s (lt_s (lt_s (lt_s (lt_s (lt_s (lt_s (lt_s (lt_s (lt_s (lt_s (lt_s (lt_s (lt_s (lt_s (lt_s (lt_s (lt_s (lt_s (lt_s (lt_s (lt_s (lt_s (lt_s (lt_s (lt_s (lt_s (lt_s (lt_s (lt_s (lt_s (lt_s (lt_s lt_0 (fun h => absurd h (by decide))) (fun h => absurd h (by decide))) (fun h => absurd h (by decide))) (fun h => absurd h (by decide))) (fun h => absurd h (by decide))) (fun h => absurd h (by decide))) (fun h => absurd h (by decide))) (fun h => absurd h (by decide))) (fun h => absurd h (by decide))) (fun h => absurd h (by decide))) (fun h => absurd h (by decide))) (fun h => absurd h (by decide))) (fun h => absurd h (by decide))) (fun h => absurd h (by decide))) (fun h => absurd h (by decide))) (fun h => absurd h (by decide))) (fun h => absurd h (by decide))) (fun h => absurd h (by decide))) (fun h => absurd h (by decide))) (fun h => absurd h (by decide))) (fun h => absurd h (by decide))) (fun h => absurd h (by decide))) (fun h => absurd h (by decide))) (fun h => absurd h (by decide))) (fun h => absurd h (by decide))) (fun h => absurd h (by decide))) (fun h => absurd h (by decide))) (fun h => absurd h (by decide))) (fun h => absurd h (by decide))) (fun h => absurd h (by decide))) (fun h => absurd h (by decide))) (fun h => absurd h (by decide))) (fun h => absurd h (by decide))) (fun h => absurd h (by decide))) (fun h => absurd h (by decide))) (fun h => absurd h (by decide))) (fun h => absurd h (by decide))) (fun h => absurd h (by decide))) (fun h => absurd h (by decide))) (fun h => absurd h (by decide))) (fun h => absurd h (by decide))) (fun h => absurd h (by decide))) (fun h => absurd h (by decide))) (fun h => absurd h (by decide))) (fun h => absurd h (by decide))) (fun h => absurd h (by decide))) (fun h => absurd h (by decide))) (fun h => absurd h (by decide))) (fun h => absurd h (by decide))) (fun h => absurd h (by decide))) (fun h => absurd h (by decide))) (fun h => absurd h (by decide))) (fun h => absurd h (by decide))) (fun h => absurd h (by decide))) (fun h => absurd h (by decide))) (fun h => absurd h (by decide))) (fun h => absurd h (by decide))) (fun h => absurd h (by decide))) (fun h => absurd h (by decide))) (fun h => absurd h (by decide))) (fun h => absurd h (by decide))) (fun h => absurd h (by decide))) (fun h => absurd h (by decide))) (fun h => absurd h (by decide))) (fun h => absurd h (by decide))) (fun h => absurd h (by decide))) (fun h => absurd h (by decide))) (fun h => absurd h (by decide))) (fun h => absurd h (by decide))) (fun h => absurd h (by decide))) (fun h => absurd h (by decide))) (fun h => absurd h (by decide))) (fun h => absurd h (by decide))) (fun h => absurd h (by decide))) (fun h => absurd h (by decide))) (fun h => absurd h (by decide))) (fun h => absurd h (by decide))) (fun h => absurd h (by decide))) (fun h => absurd h (by decide))) (fun h => absurd h (by decide))) (fun h => absurd h (by decide))) (fun h => absurd h (by decide))) (fun h => absurd h (by decide))) (fun h => absurd h (by decide))) (fun h => absurd h (by decide))) (fun h => absurd h (by decide))) (fun h => absurd h (by decide))) (fun h => absurd h (by decide))) (fun h => absurd h (by decide))) (fun h => absurd h (by decide))) (fun h => absurd h (by decide))) (fun h => absurd h (by decide))) (fun h => absurd h (by decide))) (fun h => absurd h (by decide))) (fun h => absurd h (by decide))) (fun h => absurd h (by decide))) (fun h => absurd h (by decide))) (fun h => absurd h (by decide))) (fun h => absurd h (by decide))) (fun h => absurd h (by decide))) (fun h => absurd h (by decide))) (fun h => absurd h (by decide))) (fun h => absurd h (by decide))) (fun h => absurd h (by decide))) (fun h => absurd h (by decide))) (fun h => absurd h (by decide))) (fun h => absurd h (by decide))) (fun h => absurd h (by decide))) (fun h => absurd h (by decide))) (fun h => absurd h (by decide))) (fun h => absurd h (by decide))) (fun h => absurd h (by decide))) (fun h => absurd h (by decide))) (fun h => absurd h (by decide))) (fun h => absurd h (by decide))) (fun h => absurd h (by decide))) (fun h => absurd h (by decide))) (fun h => absurd h (by decide))) (fun h => absurd h (by decide))) (fun h => absurd h (by decide))) (fun h => absurd h (by decide))) (fun h => absurd h (by decide))) (fun h => absurd h (by decide))) (fun h => absurd h (by decide))) (fun h => absurd h (by decide))) (fun h => absurd h (by decide))) (fun h => absurd h (by decide))) (fun h => absurd h (by decide))) (fun h => absurd h (by decide))) (fun h => absurd h (by decide))) (fun h => absurd h (by decide))) (fun h => absurd h (by decide))) (fun h => absurd h (by decide))) (fun h => absurd h (by decide))) (fun h => absurd h (by decide))) (fun h => absurd h (by decide))) (fun h => absurd h (by decide))) (fun h => absurd h (by decide))) (fun h => absurd h (by decide))) (fun h => absurd h (by decide))) (fun h => absurd h (by decide))) (fun h => absurd h (by decide))) (fun h => absurd h (by decide))) (fun _ _ _ _ => rfl)) (fun _ _ _ _ => rfl)) (fun _ _ _ _ => rfl)) (fun _ _ _ _ => rfl)) (fun _ _ _ _ => rfl)) (fun _ _ _ _ => rfl)) (fun _ _ _ _ => rfl)) (fun _ _ _ _ => rfl)) (fun _ _ _ _ => rfl)) (fun _ _ _ _ => rfl)) (fun _ _ _ _ => rfl)) (fun _ _ _ _ => rfl)) (fun _ _ _ _ => rfl)) (fun _ _ _ _ => rfl)) (fun _ _ _ _ => rfl)) (fun _ _ _ _ => rfl)) (fun _ _ _ _ => rfl)) (fun _ _ _ _ => rfl)) (fun _ _ _ _ => rfl)) (fun _ _ _ _ => rfl)) (fun _ _ _ _ => rfl)) (fun _ _ _ _ => rfl)) (fun _ _ _ _ => rfl)) (fun _ _ _ _ => rfl)) (fun _ _ _ _ => rfl)) (fun _ _ _ _ => rfl)) (fun _ _ _ _ => rfl)) (fun _ _ _ _ => rfl)) (fun _ _ _ _ => rfl)) (fun _ _ _ _ => rfl)) (fun _ _ _ _ => rfl)) (fun _ _ _ _ => rfl)) (fun _ _ _ _ => rfl)) (fun _ _ _ _ => rfl)) (fun _ _ _ _ => rfl)) (fun _ _ _ _ => rfl)) (fun _ _ _ _ => rfl)) (fun _ _ _ _ => rfl)) (fun _ _ _ _ => rfl)) (fun _ _ _ _ => rfl)) (fun _ _ _ _ => rfl)))
