/-! The law's loop, over any relation that each pair of calls keeps. -/
def BI (g : ax_Y) (Rel : ax_M → Prop) (Pc Pm : ax_P) (vs : List Value) : Prop := ∀ M, Rel M → ax_G g Pc 11 0 0 0 (ax_en Pc.2.2.1 (.ref 0 :: vs)) [] M (fun v M1 => ∃ r : Int32, v = some (.int r) ∧ (∃ fs, M1.2 143 = some (.inr (12, fs))) ∧ ax_G g Pm 11 0 0 0 (ax_en Pm.2.2.1 (.ref 143 :: vs)) [] M1 (fun v2 M2 => v2 = some (.int r) ∧ Rel M2))
def BL (g : ax_Y) (Rel : ax_M → Prop) (Pc Pm : ax_P) (vs : List Value) : Prop := ∀ M, Rel M → ax_G g Pc 11 0 0 0 (ax_en Pc.2.2.1 (.ref 0 :: vs)) [] M (fun v M1 => ∃ r : Int64, v = some (.long r) ∧ (∃ fs, M1.2 143 = some (.inr (12, fs))) ∧ ax_G g Pm 11 0 0 0 (ax_en Pm.2.2.1 (.ref 143 :: vs)) [] M1 (fun v2 M2 => v2 = some (.long r) ∧ Rel M2))
def BA (g : ax_Y) (Rel : ax_M → Prop) : Prop := (∀ (a1 : Int32) (a2 : Int64), BI g Rel mt_Top_feed mt_Mod_feed [.int a1, .long a2]) ∧ (∀ (a1 : Int32), BI g Rel mt_Top_cut mt_Mod_cut [.int a1]) ∧ (∀ (a1 a2 : Int32), BI g Rel mt_Top_line mt_Mod_line [.int a1, .int a2]) ∧ (BI g Rel mt_Top_build mt_Mod_build []) ∧ (∀ (a1 : Int32), BI g Rel mt_Top_partner mt_Mod_partner [.int a1]) ∧ (∀ (a1 a2 a3 a4 a5 : Int32), BI g Rel mt_Top_alarm mt_Mod_alarm [.int a1, .int a2, .int a3, .int a4, .int a5]) ∧ (∀ (a1 a2 : Int32), BI g Rel mt_Top_of mt_Mod_of [.int a1, .int a2]) ∧ (∀ (a1 a2 : Int32), BI g Rel mt_Top_why mt_Mod_why [.int a1, .int a2]) ∧ (∀ (a1 a2 : Int32), BI g Rel mt_Top_rule mt_Mod_rule [.int a1, .int a2]) ∧ (∀ (a1 a2 : Int32), (a2 = 0 ∨ a2 = 1) → BI g Rel mt_Top_prove mt_Mod_prove [.int a1, .int a2]) ∧ (∀ (a1 : Int32), BI g Rel mt_Top_known mt_Mod_known [.int a1]) ∧ (∀ (a1 a2 : Int32), BI g Rel mt_Top_closes mt_Mod_closes [.int a1, .int a2]) ∧ (BI g Rel mt_Top_groups mt_Mod_groups []) ∧ (∀ (a1 a2 : Int32), BI g Rel mt_Top_group mt_Mod_group [.int a1, .int a2]) ∧ (BI g Rel mt_Top_silence mt_Mod_silence []) ∧ (∀ (a1 a2 : Int32), BI g Rel mt_Top_silent mt_Mod_silent [.int a1, .int a2]) ∧ (∀ (a1 : Int32), BL g Rel mt_Top_held mt_Mod_held [.int a1]) ∧ (∀ (a1 a2 : Int32), BI g Rel mt_Top_reason mt_Mod_reason [.int a1, .int a2]) ∧ (∀ (a1 : Int32), BI g Rel mt_Top_lift mt_Mod_lift [.int a1]) ∧ (∀ (a1 : Int32), BI g Rel mt_Top_path mt_Mod_path [.int a1]) ∧ (∀ (a1 : Int32), BI g Rel mt_Top_pattern mt_Mod_pattern [.int a1]) ∧ (∀ (a1 : Int32), BI g Rel mt_Top_owner mt_Mod_owner [.int a1]) ∧ (∀ (a1 : Int32), BI g Rel mt_Top_rank mt_Mod_rank [.int a1]) ∧ (∀ (a1 a2 : Int32), BI g Rel mt_Top_budget mt_Mod_budget [.int a1, .int a2]) ∧ (∀ (a1 : Int32), BI g Rel mt_Top_chosen mt_Mod_chosen [.int a1]) ∧ (∀ (a1 a2 a3 a4 : Int32), BI g Rel mt_Top_compare mt_Mod_compare [.int a1, .int a2, .int a3, .int a4]) ∧ (∀ (a1 a2 : Int32), BI g Rel mt_Top_trend mt_Mod_trend [.int a1, .int a2]) ∧ (BI g Rel mt_Top_out mt_Mod_out []) ∧ (∀ (a1 : Int32), BI g Rel mt_Top_outByte mt_Mod_outByte [.int a1]) ∧ (∀ (a1 a2 : Int32), BI g Rel mt_Top_back mt_Mod_back [.int a1, .int a2]) ∧ (BI g Rel mt_Top_read mt_Mod_read []) ∧ (∀ (a1 : Int32), BI g Rel mt_Top_count mt_Mod_count [.int a1])
set_option maxRecDepth 100000 in
set_option maxHeartbeats 8000000 in
theorem law_loop {g : ax_Y} {Rel : ax_M → Prop} {Q : Option Value → ax_M → Prop} (hL : g.2.2.2.2.2.2.1 ≤ 3072) (hR0 : ∀ M, Rel M → ∃ fs, M.2 0 = some (.inr (11, fs))) (hB : BA g Rel) (hq : ∀ M, Rel M → Q (some (.int 1)) M) : ∀ (d i : Nat) (M : ax_M), Rel M → (g.2.2.2.2.2.2.1 < i + 6 * d ∧ i ≤ 3078) → ax_G g mt_Law_law 12 0 0 18 [.retAddr 10, .ref 0, .ref 143, .int (nI i)] [] M Q := by
  intro d
  induction d with
  | zero =>
    intro i M hR hi
    refine s_iload_n 19 rfl rfl rfl ?_
    refine s_xload_n 20 rfl rfl rfl ?_
    refine s_xlen 21 rfl rfl ?_
    refine s_bipush 6 23 rfl rfl (by decide) ?_
    refine s_isub 24 rfl rfl ?_
    refine s_icmp_gt 1115 27 rfl rfl (by decide) (fun c => ?_) (fun c => ?_)
    · refine s_iconst 1 1116 rfl rfl (by decide) ?_
      exact s_ireturn rfl .boolean rfl rfl (hq M hR)
    · refine absurd (Int32.lt_iff_toInt_lt.mpr ?_) c
      rw [show (nI g.2.2.2.2.2.2.1 - 6).toInt = _ from pk_sub_toInt (a := g.2.2.2.2.2.2.1) (b := 6) (by omega) (by omega), nI_toInt (by omega)]
      omega
  | succ d ih =>
    intro i M hR hi
    refine s_iload_n 19 rfl rfl rfl ?_
    refine s_xload_n 20 rfl rfl rfl ?_
    refine s_xlen 21 rfl rfl ?_
    refine s_bipush 6 23 rfl rfl (by decide) ?_
    refine s_isub 24 rfl rfl ?_
    refine s_icmp_gt 1115 27 rfl rfl (by decide) (fun c => ?_) (fun c => ?_)
    · refine s_iconst 1 1116 rfl rfl (by decide) ?_
      exact s_ireturn rfl .boolean rfl rfl (hq M hR)
    have hlt : i + 6 ≤ g.2.2.2.2.2.2.1 := by
      rcases Nat.lt_or_ge g.2.2.2.2.2.2.1 (i + 6) with q | q
      · refine absurd (Int32.lt_iff_toInt_lt.mpr ?_) c
        rw [show (nI g.2.2.2.2.2.2.1 - 6).toInt = _ from pk_sub_toInt (a := g.2.2.2.2.2.2.1) (b := 6) (by omega) (by omega), nI_toInt (by omega)]
        omega
      · exact q
    refine s_xload_n 28 rfl rfl rfl ?_
    refine s_iload_n 29 rfl rfl rfl ?_
    refine s_xaload i 30 rfl rfl rfl (by omega) (by omega) ?_
    refine s_bipush 31 32 rfl rfl (by decide) ?_
    refine s_iand 33 rfl rfl ?_
    obtain ⟨j, hj, ej⟩ := pk_andE (g.2.2.2.2.2.2.2 i) (m := 31) 5 (by decide)
    rw [ej]
    match j, hj with
    | 0, _ =>
      refine s_tabIn 176 rfl (by decide) (by decide) rfl (by decide) ?_
      refine s_aload_n 177 rfl rfl rfl ?_
      refine s_xload_n 178 rfl rfl rfl ?_
      refine s_iload_n 179 rfl rfl rfl ?_
      refine s_iconst 1 180 rfl rfl (by decide) ?_
      refine s_iadd 181 rfl rfl ?_
      refine s_xaload (i + 1) 182 rfl rfl (nI_add i 1) (by omega) (by omega) ?_
      refine s_xload_n 183 rfl rfl rfl ?_
      refine s_iload_n 184 rfl rfl rfl ?_
      refine s_iconst 2 185 rfl rfl (by decide) ?_
      refine s_iadd 186 rfl rfl ?_
      refine s_xaload (i + 2) 187 rfl rfl (nI_add i 2) (by omega) (by omega) ?_
      refine s_i2l 188 rfl rfl ?_
      refine s_bipush 32 190 rfl rfl (by decide) ?_
      refine s_lshl 191 rfl rfl ?_
      refine s_xload_n 192 rfl rfl rfl ?_
      refine s_iload_n 193 rfl rfl rfl ?_
      refine s_iconst 3 194 rfl rfl (by decide) ?_
      refine s_iadd 195 rfl rfl ?_
      refine s_xaload (i + 3) 196 rfl rfl (nI_add i 3) (by omega) (by omega) ?_
      refine s_i2l 197 rfl rfl ?_
      refine s_ldc2_w 4294967295 200 rfl rfl kl_Law_13 ?_
      refine s_land 201 rfl rfl ?_
      refine s_lor 202 rfl rfl ?_
      have h0 := hR0 M hR
      obtain ⟨fs_Top, h_Top⟩ := h0
      refine c_callV2 11 205 rfl rfl mv_Law_15 (by decide) (Nat.le_of_ble_eq_true rfl) (Nat.le_of_ble_eq_true rfl) h_Top rfl rfl ?_
      refine ax_G.mono (hB.1 _ _ M hR) (fun v M1 hv => ?_)
      obtain ⟨r, rfl, h143, hm⟩ := hv
      dsimp only [ax_rs]
      refine s_aload_n 206 rfl rfl rfl ?_
      refine s_xload_n 207 rfl rfl rfl ?_
      refine s_iload_n 208 rfl rfl rfl ?_
      refine s_iconst 1 209 rfl rfl (by decide) ?_
      refine s_iadd 210 rfl rfl ?_
      refine s_xaload (i + 1) 211 rfl rfl (nI_add i 1) (by omega) (by omega) ?_
      refine s_xload_n 212 rfl rfl rfl ?_
      refine s_iload_n 213 rfl rfl rfl ?_
      refine s_iconst 2 214 rfl rfl (by decide) ?_
      refine s_iadd 215 rfl rfl ?_
      refine s_xaload (i + 2) 216 rfl rfl (nI_add i 2) (by omega) (by omega) ?_
      refine s_i2l 217 rfl rfl ?_
      refine s_bipush 32 219 rfl rfl (by decide) ?_
      refine s_lshl 220 rfl rfl ?_
      refine s_xload_n 221 rfl rfl rfl ?_
      refine s_iload_n 222 rfl rfl rfl ?_
      refine s_iconst 3 223 rfl rfl (by decide) ?_
      refine s_iadd 224 rfl rfl ?_
      refine s_xaload (i + 3) 225 rfl rfl (nI_add i 3) (by omega) (by omega) ?_
      refine s_i2l 226 rfl rfl ?_
      refine s_ldc2_w 4294967295 229 rfl rfl kl_Law_13 ?_
      refine s_land 230 rfl rfl ?_
      refine s_lor 231 rfl rfl ?_
      obtain ⟨fs_Mod, h_Mod⟩ := h143
      refine c_callV2 11 234 rfl rfl mv_Law_19 (by decide) (Nat.le_of_ble_eq_true rfl) (Nat.le_of_ble_eq_true rfl) h_Mod rfl rfl ?_
      refine ax_G.mono hm (fun v M2 hv => ?_)
      obtain ⟨rfl, hR2⟩ := hv
      dsimp only [ax_rs]
      refine s_icmp_eq 1109 237 rfl rfl (by decide) (fun _ => ?_) (fun c => absurd rfl c)
      refine s_inc3 (nI (i + 6)) 1112 rfl rfl (nI_add i 6) rfl ?_
      refine s_goto 18 rfl (by decide) ?_
      exact ih (i + 6) M2 hR2 (by omega)
    | 1, _ =>
      refine s_tabIn 239 rfl (by decide) (by decide) rfl (by decide) ?_
      refine s_aload_n 240 rfl rfl rfl ?_
      refine s_xload_n 241 rfl rfl rfl ?_
      refine s_iload_n 242 rfl rfl rfl ?_
      refine s_iconst 1 243 rfl rfl (by decide) ?_
      refine s_iadd 244 rfl rfl ?_
      refine s_xaload (i + 1) 245 rfl rfl (nI_add i 1) (by omega) (by omega) ?_
      have h0 := hR0 M hR
      obtain ⟨fs_Top, h_Top⟩ := h0
      refine c_callV1 11 248 rfl rfl mv_Law_20 (by decide) (Nat.le_of_ble_eq_true rfl) (Nat.le_of_ble_eq_true rfl) h_Top rfl rfl ?_
      refine ax_G.mono (hB.2.1 _ M hR) (fun v M1 hv => ?_)
      obtain ⟨r, rfl, h143, hm⟩ := hv
      dsimp only [ax_rs]
      refine s_aload_n 249 rfl rfl rfl ?_
      refine s_xload_n 250 rfl rfl rfl ?_
      refine s_iload_n 251 rfl rfl rfl ?_
      refine s_iconst 1 252 rfl rfl (by decide) ?_
      refine s_iadd 253 rfl rfl ?_
      refine s_xaload (i + 1) 254 rfl rfl (nI_add i 1) (by omega) (by omega) ?_
      obtain ⟨fs_Mod, h_Mod⟩ := h143
      refine c_callV1 11 257 rfl rfl mv_Law_24 (by decide) (Nat.le_of_ble_eq_true rfl) (Nat.le_of_ble_eq_true rfl) h_Mod rfl rfl ?_
      refine ax_G.mono hm (fun v M2 hv => ?_)
      obtain ⟨rfl, hR2⟩ := hv
      dsimp only [ax_rs]
      refine s_icmp_eq 1109 260 rfl rfl (by decide) (fun _ => ?_) (fun c => absurd rfl c)
      refine s_inc3 (nI (i + 6)) 1112 rfl rfl (nI_add i 6) rfl ?_
      refine s_goto 18 rfl (by decide) ?_
      exact ih (i + 6) M2 hR2 (by omega)
    | 2, _ =>
      refine s_tabIn 262 rfl (by decide) (by decide) rfl (by decide) ?_
      refine s_aload_n 263 rfl rfl rfl ?_
      refine s_xload_n 264 rfl rfl rfl ?_
      refine s_iload_n 265 rfl rfl rfl ?_
      refine s_iconst 1 266 rfl rfl (by decide) ?_
      refine s_iadd 267 rfl rfl ?_
      refine s_xaload (i + 1) 268 rfl rfl (nI_add i 1) (by omega) (by omega) ?_
      refine s_xload_n 269 rfl rfl rfl ?_
      refine s_iload_n 270 rfl rfl rfl ?_
      refine s_iconst 2 271 rfl rfl (by decide) ?_
      refine s_iadd 272 rfl rfl ?_
      refine s_xaload (i + 2) 273 rfl rfl (nI_add i 2) (by omega) (by omega) ?_
      have h0 := hR0 M hR
      obtain ⟨fs_Top, h_Top⟩ := h0
      refine c_callV2 11 276 rfl rfl mv_Law_25 (by decide) (Nat.le_of_ble_eq_true rfl) (Nat.le_of_ble_eq_true rfl) h_Top rfl rfl ?_
      refine ax_G.mono (hB.2.2.1 _ _ M hR) (fun v M1 hv => ?_)
      obtain ⟨r, rfl, h143, hm⟩ := hv
      dsimp only [ax_rs]
      refine s_aload_n 277 rfl rfl rfl ?_
      refine s_xload_n 278 rfl rfl rfl ?_
      refine s_iload_n 279 rfl rfl rfl ?_
      refine s_iconst 1 280 rfl rfl (by decide) ?_
      refine s_iadd 281 rfl rfl ?_
      refine s_xaload (i + 1) 282 rfl rfl (nI_add i 1) (by omega) (by omega) ?_
      refine s_xload_n 283 rfl rfl rfl ?_
      refine s_iload_n 284 rfl rfl rfl ?_
      refine s_iconst 2 285 rfl rfl (by decide) ?_
      refine s_iadd 286 rfl rfl ?_
      refine s_xaload (i + 2) 287 rfl rfl (nI_add i 2) (by omega) (by omega) ?_
      obtain ⟨fs_Mod, h_Mod⟩ := h143
      refine c_callV2 11 290 rfl rfl mv_Law_29 (by decide) (Nat.le_of_ble_eq_true rfl) (Nat.le_of_ble_eq_true rfl) h_Mod rfl rfl ?_
      refine ax_G.mono hm (fun v M2 hv => ?_)
      obtain ⟨rfl, hR2⟩ := hv
      dsimp only [ax_rs]
      refine s_icmp_eq 1109 293 rfl rfl (by decide) (fun _ => ?_) (fun c => absurd rfl c)
      refine s_inc3 (nI (i + 6)) 1112 rfl rfl (nI_add i 6) rfl ?_
      refine s_goto 18 rfl (by decide) ?_
      exact ih (i + 6) M2 hR2 (by omega)
    | 3, _ =>
      refine s_tabIn 295 rfl (by decide) (by decide) rfl (by decide) ?_
      refine s_aload_n 296 rfl rfl rfl ?_
      have h0 := hR0 M hR
      obtain ⟨fs_Top, h_Top⟩ := h0
      refine c_callV0 11 299 rfl rfl mv_Law_30 (by decide) (Nat.le_of_ble_eq_true rfl) (Nat.le_of_ble_eq_true rfl) h_Top rfl rfl ?_
      refine ax_G.mono (hB.2.2.2.1 M hR) (fun v M1 hv => ?_)
      obtain ⟨r, rfl, h143, hm⟩ := hv
      dsimp only [ax_rs]
      refine s_aload_n 300 rfl rfl rfl ?_
      obtain ⟨fs_Mod, h_Mod⟩ := h143
      refine c_callV0 11 303 rfl rfl mv_Law_34 (by decide) (Nat.le_of_ble_eq_true rfl) (Nat.le_of_ble_eq_true rfl) h_Mod rfl rfl ?_
      refine ax_G.mono hm (fun v M2 hv => ?_)
      obtain ⟨rfl, hR2⟩ := hv
      dsimp only [ax_rs]
      refine s_icmp_eq 1109 306 rfl rfl (by decide) (fun _ => ?_) (fun c => absurd rfl c)
      refine s_inc3 (nI (i + 6)) 1112 rfl rfl (nI_add i 6) rfl ?_
      refine s_goto 18 rfl (by decide) ?_
      exact ih (i + 6) M2 hR2 (by omega)
    | 4, _ =>
      refine s_tabIn 308 rfl (by decide) (by decide) rfl (by decide) ?_
      refine s_aload_n 309 rfl rfl rfl ?_
      refine s_xload_n 310 rfl rfl rfl ?_
      refine s_iload_n 311 rfl rfl rfl ?_
      refine s_iconst 1 312 rfl rfl (by decide) ?_
      refine s_iadd 313 rfl rfl ?_
      refine s_xaload (i + 1) 314 rfl rfl (nI_add i 1) (by omega) (by omega) ?_
      have h0 := hR0 M hR
      obtain ⟨fs_Top, h_Top⟩ := h0
      refine c_callV1 11 317 rfl rfl mv_Law_35 (by decide) (Nat.le_of_ble_eq_true rfl) (Nat.le_of_ble_eq_true rfl) h_Top rfl rfl ?_
      refine ax_G.mono (hB.2.2.2.2.1 _ M hR) (fun v M1 hv => ?_)
      obtain ⟨r, rfl, h143, hm⟩ := hv
      dsimp only [ax_rs]
      refine s_aload_n 318 rfl rfl rfl ?_
      refine s_xload_n 319 rfl rfl rfl ?_
      refine s_iload_n 320 rfl rfl rfl ?_
      refine s_iconst 1 321 rfl rfl (by decide) ?_
      refine s_iadd 322 rfl rfl ?_
      refine s_xaload (i + 1) 323 rfl rfl (nI_add i 1) (by omega) (by omega) ?_
      obtain ⟨fs_Mod, h_Mod⟩ := h143
      refine c_callV1 11 326 rfl rfl mv_Law_38 (by decide) (Nat.le_of_ble_eq_true rfl) (Nat.le_of_ble_eq_true rfl) h_Mod rfl rfl ?_
      refine ax_G.mono hm (fun v M2 hv => ?_)
      obtain ⟨rfl, hR2⟩ := hv
      dsimp only [ax_rs]
      refine s_icmp_eq 1109 329 rfl rfl (by decide) (fun _ => ?_) (fun c => absurd rfl c)
      refine s_inc3 (nI (i + 6)) 1112 rfl rfl (nI_add i 6) rfl ?_
      refine s_goto 18 rfl (by decide) ?_
      exact ih (i + 6) M2 hR2 (by omega)
    | 5, _ =>
      refine s_tabIn 331 rfl (by decide) (by decide) rfl (by decide) ?_
      refine s_aload_n 332 rfl rfl rfl ?_
      refine s_xload_n 333 rfl rfl rfl ?_
      refine s_iload_n 334 rfl rfl rfl ?_
      refine s_iconst 1 335 rfl rfl (by decide) ?_
      refine s_iadd 336 rfl rfl ?_
      refine s_xaload (i + 1) 337 rfl rfl (nI_add i 1) (by omega) (by omega) ?_
      refine s_xload_n 338 rfl rfl rfl ?_
      refine s_iload_n 339 rfl rfl rfl ?_
      refine s_iconst 2 340 rfl rfl (by decide) ?_
      refine s_iadd 341 rfl rfl ?_
      refine s_xaload (i + 2) 342 rfl rfl (nI_add i 2) (by omega) (by omega) ?_
      refine s_xload_n 343 rfl rfl rfl ?_
      refine s_iload_n 344 rfl rfl rfl ?_
      refine s_iconst 3 345 rfl rfl (by decide) ?_
      refine s_iadd 346 rfl rfl ?_
      refine s_xaload (i + 3) 347 rfl rfl (nI_add i 3) (by omega) (by omega) ?_
      refine s_xload_n 348 rfl rfl rfl ?_
      refine s_iload_n 349 rfl rfl rfl ?_
      refine s_iconst 4 350 rfl rfl (by decide) ?_
      refine s_iadd 351 rfl rfl ?_
      refine s_xaload (i + 4) 352 rfl rfl (nI_add i 4) (by omega) (by omega) ?_
      refine s_xload_n 353 rfl rfl rfl ?_
      refine s_iload_n 354 rfl rfl rfl ?_
      refine s_iconst 5 355 rfl rfl (by decide) ?_
      refine s_iadd 356 rfl rfl ?_
      refine s_xaload (i + 5) 357 rfl rfl (nI_add i 5) (by omega) (by omega) ?_
      have h0 := hR0 M hR
      obtain ⟨fs_Top, h_Top⟩ := h0
      refine c_callV5 11 360 rfl rfl mv_Law_39 (by decide) (Nat.le_of_ble_eq_true rfl) (Nat.le_of_ble_eq_true rfl) h_Top rfl rfl ?_
      refine ax_G.mono (hB.2.2.2.2.2.1 _ _ _ _ _ M hR) (fun v M1 hv => ?_)
      obtain ⟨r, rfl, h143, hm⟩ := hv
      dsimp only [ax_rs]
      refine s_aload_n 361 rfl rfl rfl ?_
      refine s_xload_n 362 rfl rfl rfl ?_
      refine s_iload_n 363 rfl rfl rfl ?_
      refine s_iconst 1 364 rfl rfl (by decide) ?_
      refine s_iadd 365 rfl rfl ?_
      refine s_xaload (i + 1) 366 rfl rfl (nI_add i 1) (by omega) (by omega) ?_
      refine s_xload_n 367 rfl rfl rfl ?_
      refine s_iload_n 368 rfl rfl rfl ?_
      refine s_iconst 2 369 rfl rfl (by decide) ?_
      refine s_iadd 370 rfl rfl ?_
      refine s_xaload (i + 2) 371 rfl rfl (nI_add i 2) (by omega) (by omega) ?_
      refine s_xload_n 372 rfl rfl rfl ?_
      refine s_iload_n 373 rfl rfl rfl ?_
      refine s_iconst 3 374 rfl rfl (by decide) ?_
      refine s_iadd 375 rfl rfl ?_
      refine s_xaload (i + 3) 376 rfl rfl (nI_add i 3) (by omega) (by omega) ?_
      refine s_xload_n 377 rfl rfl rfl ?_
      refine s_iload_n 378 rfl rfl rfl ?_
      refine s_iconst 4 379 rfl rfl (by decide) ?_
      refine s_iadd 380 rfl rfl ?_
      refine s_xaload (i + 4) 381 rfl rfl (nI_add i 4) (by omega) (by omega) ?_
      refine s_xload_n 382 rfl rfl rfl ?_
      refine s_iload_n 383 rfl rfl rfl ?_
      refine s_iconst 5 384 rfl rfl (by decide) ?_
      refine s_iadd 385 rfl rfl ?_
      refine s_xaload (i + 5) 386 rfl rfl (nI_add i 5) (by omega) (by omega) ?_
      obtain ⟨fs_Mod, h_Mod⟩ := h143
      refine c_callV5 11 389 rfl rfl mv_Law_43 (by decide) (Nat.le_of_ble_eq_true rfl) (Nat.le_of_ble_eq_true rfl) h_Mod rfl rfl ?_
      refine ax_G.mono hm (fun v M2 hv => ?_)
      obtain ⟨rfl, hR2⟩ := hv
      dsimp only [ax_rs]
      refine s_icmp_eq 1109 392 rfl rfl (by decide) (fun _ => ?_) (fun c => absurd rfl c)
      refine s_inc3 (nI (i + 6)) 1112 rfl rfl (nI_add i 6) rfl ?_
      refine s_goto 18 rfl (by decide) ?_
      exact ih (i + 6) M2 hR2 (by omega)
    | 6, _ =>
      refine s_tabIn 394 rfl (by decide) (by decide) rfl (by decide) ?_
      refine s_aload_n 395 rfl rfl rfl ?_
      refine s_xload_n 396 rfl rfl rfl ?_
      refine s_iload_n 397 rfl rfl rfl ?_
      refine s_iconst 1 398 rfl rfl (by decide) ?_
      refine s_iadd 399 rfl rfl ?_
      refine s_xaload (i + 1) 400 rfl rfl (nI_add i 1) (by omega) (by omega) ?_
      refine s_xload_n 401 rfl rfl rfl ?_
      refine s_iload_n 402 rfl rfl rfl ?_
      refine s_iconst 2 403 rfl rfl (by decide) ?_
      refine s_iadd 404 rfl rfl ?_
      refine s_xaload (i + 2) 405 rfl rfl (nI_add i 2) (by omega) (by omega) ?_
      have h0 := hR0 M hR
      obtain ⟨fs_Top, h_Top⟩ := h0
      refine c_callV2 11 408 rfl rfl mv_Law_44 (by decide) (Nat.le_of_ble_eq_true rfl) (Nat.le_of_ble_eq_true rfl) h_Top rfl rfl ?_
      refine ax_G.mono (hB.2.2.2.2.2.2.1 _ _ M hR) (fun v M1 hv => ?_)
      obtain ⟨r, rfl, h143, hm⟩ := hv
      dsimp only [ax_rs]
      refine s_aload_n 409 rfl rfl rfl ?_
      refine s_xload_n 410 rfl rfl rfl ?_
      refine s_iload_n 411 rfl rfl rfl ?_
      refine s_iconst 1 412 rfl rfl (by decide) ?_
      refine s_iadd 413 rfl rfl ?_
      refine s_xaload (i + 1) 414 rfl rfl (nI_add i 1) (by omega) (by omega) ?_
      refine s_xload_n 415 rfl rfl rfl ?_
      refine s_iload_n 416 rfl rfl rfl ?_
      refine s_iconst 2 417 rfl rfl (by decide) ?_
      refine s_iadd 418 rfl rfl ?_
      refine s_xaload (i + 2) 419 rfl rfl (nI_add i 2) (by omega) (by omega) ?_
      obtain ⟨fs_Mod, h_Mod⟩ := h143
      refine c_callV2 11 422 rfl rfl mv_Law_47 (by decide) (Nat.le_of_ble_eq_true rfl) (Nat.le_of_ble_eq_true rfl) h_Mod rfl rfl ?_
      refine ax_G.mono hm (fun v M2 hv => ?_)
      obtain ⟨rfl, hR2⟩ := hv
      dsimp only [ax_rs]
      refine s_icmp_eq 1109 425 rfl rfl (by decide) (fun _ => ?_) (fun c => absurd rfl c)
      refine s_inc3 (nI (i + 6)) 1112 rfl rfl (nI_add i 6) rfl ?_
      refine s_goto 18 rfl (by decide) ?_
      exact ih (i + 6) M2 hR2 (by omega)
    | 7, _ =>
      refine s_tabIn 427 rfl (by decide) (by decide) rfl (by decide) ?_
      refine s_aload_n 428 rfl rfl rfl ?_
      refine s_xload_n 429 rfl rfl rfl ?_
      refine s_iload_n 430 rfl rfl rfl ?_
      refine s_iconst 1 431 rfl rfl (by decide) ?_
      refine s_iadd 432 rfl rfl ?_
      refine s_xaload (i + 1) 433 rfl rfl (nI_add i 1) (by omega) (by omega) ?_
      refine s_xload_n 434 rfl rfl rfl ?_
      refine s_iload_n 435 rfl rfl rfl ?_
      refine s_iconst 2 436 rfl rfl (by decide) ?_
      refine s_iadd 437 rfl rfl ?_
      refine s_xaload (i + 2) 438 rfl rfl (nI_add i 2) (by omega) (by omega) ?_
      have h0 := hR0 M hR
      obtain ⟨fs_Top, h_Top⟩ := h0
      refine c_callV2 11 441 rfl rfl mv_Law_48 (by decide) (Nat.le_of_ble_eq_true rfl) (Nat.le_of_ble_eq_true rfl) h_Top rfl rfl ?_
      refine ax_G.mono (hB.2.2.2.2.2.2.2.1 _ _ M hR) (fun v M1 hv => ?_)
      obtain ⟨r, rfl, h143, hm⟩ := hv
      dsimp only [ax_rs]
      refine s_aload_n 442 rfl rfl rfl ?_
      refine s_xload_n 443 rfl rfl rfl ?_
      refine s_iload_n 444 rfl rfl rfl ?_
      refine s_iconst 1 445 rfl rfl (by decide) ?_
      refine s_iadd 446 rfl rfl ?_
      refine s_xaload (i + 1) 447 rfl rfl (nI_add i 1) (by omega) (by omega) ?_
      refine s_xload_n 448 rfl rfl rfl ?_
      refine s_iload_n 449 rfl rfl rfl ?_
      refine s_iconst 2 450 rfl rfl (by decide) ?_
      refine s_iadd 451 rfl rfl ?_
      refine s_xaload (i + 2) 452 rfl rfl (nI_add i 2) (by omega) (by omega) ?_
      obtain ⟨fs_Mod, h_Mod⟩ := h143
      refine c_callV2 11 455 rfl rfl mv_Law_51 (by decide) (Nat.le_of_ble_eq_true rfl) (Nat.le_of_ble_eq_true rfl) h_Mod rfl rfl ?_
      refine ax_G.mono hm (fun v M2 hv => ?_)
      obtain ⟨rfl, hR2⟩ := hv
      dsimp only [ax_rs]
      refine s_icmp_eq 1109 458 rfl rfl (by decide) (fun _ => ?_) (fun c => absurd rfl c)
      refine s_inc3 (nI (i + 6)) 1112 rfl rfl (nI_add i 6) rfl ?_
      refine s_goto 18 rfl (by decide) ?_
      exact ih (i + 6) M2 hR2 (by omega)
    | 8, _ =>
      refine s_tabIn 460 rfl (by decide) (by decide) rfl (by decide) ?_
      refine s_aload_n 461 rfl rfl rfl ?_
      refine s_xload_n 462 rfl rfl rfl ?_
      refine s_iload_n 463 rfl rfl rfl ?_
      refine s_iconst 1 464 rfl rfl (by decide) ?_
      refine s_iadd 465 rfl rfl ?_
      refine s_xaload (i + 1) 466 rfl rfl (nI_add i 1) (by omega) (by omega) ?_
      refine s_xload_n 467 rfl rfl rfl ?_
      refine s_iload_n 468 rfl rfl rfl ?_
      refine s_iconst 2 469 rfl rfl (by decide) ?_
      refine s_iadd 470 rfl rfl ?_
      refine s_xaload (i + 2) 471 rfl rfl (nI_add i 2) (by omega) (by omega) ?_
      have h0 := hR0 M hR
      obtain ⟨fs_Top, h_Top⟩ := h0
      refine c_callV2 11 474 rfl rfl mv_Law_52 (by decide) (Nat.le_of_ble_eq_true rfl) (Nat.le_of_ble_eq_true rfl) h_Top rfl rfl ?_
      refine ax_G.mono (hB.2.2.2.2.2.2.2.2.1 _ _ M hR) (fun v M1 hv => ?_)
      obtain ⟨r, rfl, h143, hm⟩ := hv
      dsimp only [ax_rs]
      refine s_aload_n 475 rfl rfl rfl ?_
      refine s_xload_n 476 rfl rfl rfl ?_
      refine s_iload_n 477 rfl rfl rfl ?_
      refine s_iconst 1 478 rfl rfl (by decide) ?_
      refine s_iadd 479 rfl rfl ?_
      refine s_xaload (i + 1) 480 rfl rfl (nI_add i 1) (by omega) (by omega) ?_
      refine s_xload_n 481 rfl rfl rfl ?_
      refine s_iload_n 482 rfl rfl rfl ?_
      refine s_iconst 2 483 rfl rfl (by decide) ?_
      refine s_iadd 484 rfl rfl ?_
      refine s_xaload (i + 2) 485 rfl rfl (nI_add i 2) (by omega) (by omega) ?_
      obtain ⟨fs_Mod, h_Mod⟩ := h143
      refine c_callV2 11 488 rfl rfl mv_Law_55 (by decide) (Nat.le_of_ble_eq_true rfl) (Nat.le_of_ble_eq_true rfl) h_Mod rfl rfl ?_
      refine ax_G.mono hm (fun v M2 hv => ?_)
      obtain ⟨rfl, hR2⟩ := hv
      dsimp only [ax_rs]
      refine s_icmp_eq 1109 491 rfl rfl (by decide) (fun _ => ?_) (fun c => absurd rfl c)
      refine s_inc3 (nI (i + 6)) 1112 rfl rfl (nI_add i 6) rfl ?_
      refine s_goto 18 rfl (by decide) ?_
      exact ih (i + 6) M2 hR2 (by omega)
    | 9, _ =>
      refine s_tabIn 493 rfl (by decide) (by decide) rfl (by decide) ?_
      refine s_aload_n 494 rfl rfl rfl ?_
      refine s_xload_n 495 rfl rfl rfl ?_
      refine s_iload_n 496 rfl rfl rfl ?_
      refine s_iconst 1 497 rfl rfl (by decide) ?_
      refine s_iadd 498 rfl rfl ?_
      refine s_xaload (i + 1) 499 rfl rfl (nI_add i 1) (by omega) (by omega) ?_
      refine s_xload_n 500 rfl rfl rfl ?_
      refine s_iload_n 501 rfl rfl rfl ?_
      refine s_iconst 2 502 rfl rfl (by decide) ?_
      refine s_iadd 503 rfl rfl ?_
      refine s_xaload (i + 2) 504 rfl rfl (nI_add i 2) (by omega) (by omega) ?_
      refine s_if_eq 511 507 rfl rfl (by decide) (fun cp => ?_) (fun cp => ?_)
      · refine s_iconst 0 512 rfl rfl (by decide) ?_
        have h0 := hR0 M hR
        obtain ⟨fs_Top, h_Top⟩ := h0
        refine c_callV2 11 515 rfl rfl mv_Law_56 (by decide) (Nat.le_of_ble_eq_true rfl) (Nat.le_of_ble_eq_true rfl) h_Top rfl rfl ?_
        refine ax_G.mono (hB.2.2.2.2.2.2.2.2.2.1 _ 0 (Or.inl rfl) M hR) (fun v M1 hv => ?_)
        obtain ⟨r, rfl, h143, hm⟩ := hv
        dsimp only [ax_rs]
        refine s_aload_n 516 rfl rfl rfl ?_
        refine s_xload_n 517 rfl rfl rfl ?_
        refine s_iload_n 518 rfl rfl rfl ?_
        refine s_iconst 1 519 rfl rfl (by decide) ?_
        refine s_iadd 520 rfl rfl ?_
        refine s_xaload (i + 1) 521 rfl rfl (nI_add i 1) (by omega) (by omega) ?_
        refine s_xload_n 522 rfl rfl rfl ?_
        refine s_iload_n 523 rfl rfl rfl ?_
        refine s_iconst 2 524 rfl rfl (by decide) ?_
        refine s_iadd 525 rfl rfl ?_
        refine s_xaload (i + 2) 526 rfl rfl (nI_add i 2) (by omega) (by omega) ?_
        refine s_if_eq 533 529 rfl rfl (by decide) (fun _ => ?_) (fun c => absurd cp c)
        refine s_iconst 0 534 rfl rfl (by decide) ?_
        obtain ⟨fs_Mod, h_Mod⟩ := h143
        refine c_callV2 11 537 rfl rfl mv_Law_60 (by decide) (Nat.le_of_ble_eq_true rfl) (Nat.le_of_ble_eq_true rfl) h_Mod rfl rfl ?_
        refine ax_G.mono hm (fun v M2 hv => ?_)
        obtain ⟨rfl, hR2⟩ := hv
        dsimp only [ax_rs]
        refine s_icmp_eq 1109 540 rfl rfl (by decide) (fun _ => ?_) (fun c => absurd rfl c)
        refine s_inc3 (nI (i + 6)) 1112 rfl rfl (nI_add i 6) rfl ?_
        refine s_goto 18 rfl (by decide) ?_
        exact ih (i + 6) M2 hR2 (by omega)
      · refine s_iconst 1 508 rfl rfl (by decide) ?_
        refine s_goto 512 rfl (by decide) ?_
        have h0 := hR0 M hR
        obtain ⟨fs_Top, h_Top⟩ := h0
        refine c_callV2 11 515 rfl rfl mv_Law_56 (by decide) (Nat.le_of_ble_eq_true rfl) (Nat.le_of_ble_eq_true rfl) h_Top rfl rfl ?_
        refine ax_G.mono (hB.2.2.2.2.2.2.2.2.2.1 _ 1 (Or.inr rfl) M hR) (fun v M1 hv => ?_)
        obtain ⟨r, rfl, h143, hm⟩ := hv
        dsimp only [ax_rs]
        refine s_aload_n 516 rfl rfl rfl ?_
        refine s_xload_n 517 rfl rfl rfl ?_
        refine s_iload_n 518 rfl rfl rfl ?_
        refine s_iconst 1 519 rfl rfl (by decide) ?_
        refine s_iadd 520 rfl rfl ?_
        refine s_xaload (i + 1) 521 rfl rfl (nI_add i 1) (by omega) (by omega) ?_
        refine s_xload_n 522 rfl rfl rfl ?_
        refine s_iload_n 523 rfl rfl rfl ?_
        refine s_iconst 2 524 rfl rfl (by decide) ?_
        refine s_iadd 525 rfl rfl ?_
        refine s_xaload (i + 2) 526 rfl rfl (nI_add i 2) (by omega) (by omega) ?_
        refine s_if_eq 533 529 rfl rfl (by decide) (fun c => absurd c cp) (fun _ => ?_)
        refine s_iconst 1 530 rfl rfl (by decide) ?_
        refine s_goto 534 rfl (by decide) ?_
        obtain ⟨fs_Mod, h_Mod⟩ := h143
        refine c_callV2 11 537 rfl rfl mv_Law_60 (by decide) (Nat.le_of_ble_eq_true rfl) (Nat.le_of_ble_eq_true rfl) h_Mod rfl rfl ?_
        refine ax_G.mono hm (fun v M2 hv => ?_)
        obtain ⟨rfl, hR2⟩ := hv
        dsimp only [ax_rs]
        refine s_icmp_eq 1109 540 rfl rfl (by decide) (fun _ => ?_) (fun c => absurd rfl c)
        refine s_inc3 (nI (i + 6)) 1112 rfl rfl (nI_add i 6) rfl ?_
        refine s_goto 18 rfl (by decide) ?_
        exact ih (i + 6) M2 hR2 (by omega)
    | 10, _ =>
      refine s_tabIn 542 rfl (by decide) (by decide) rfl (by decide) ?_
      refine s_aload_n 543 rfl rfl rfl ?_
      refine s_xload_n 544 rfl rfl rfl ?_
      refine s_iload_n 545 rfl rfl rfl ?_
      refine s_iconst 1 546 rfl rfl (by decide) ?_
      refine s_iadd 547 rfl rfl ?_
      refine s_xaload (i + 1) 548 rfl rfl (nI_add i 1) (by omega) (by omega) ?_
      have h0 := hR0 M hR
      obtain ⟨fs_Top, h_Top⟩ := h0
      refine c_callV1 11 551 rfl rfl mv_Law_61 (by decide) (Nat.le_of_ble_eq_true rfl) (Nat.le_of_ble_eq_true rfl) h_Top rfl rfl ?_
      refine ax_G.mono (hB.2.2.2.2.2.2.2.2.2.2.1 _ M hR) (fun v M1 hv => ?_)
      obtain ⟨r, rfl, h143, hm⟩ := hv
      dsimp only [ax_rs]
      refine s_aload_n 552 rfl rfl rfl ?_
      refine s_xload_n 553 rfl rfl rfl ?_
      refine s_iload_n 554 rfl rfl rfl ?_
      refine s_iconst 1 555 rfl rfl (by decide) ?_
      refine s_iadd 556 rfl rfl ?_
      refine s_xaload (i + 1) 557 rfl rfl (nI_add i 1) (by omega) (by omega) ?_
      obtain ⟨fs_Mod, h_Mod⟩ := h143
      refine c_callV1 11 560 rfl rfl mv_Law_64 (by decide) (Nat.le_of_ble_eq_true rfl) (Nat.le_of_ble_eq_true rfl) h_Mod rfl rfl ?_
      refine ax_G.mono hm (fun v M2 hv => ?_)
      obtain ⟨rfl, hR2⟩ := hv
      dsimp only [ax_rs]
      refine s_icmp_eq 1109 563 rfl rfl (by decide) (fun _ => ?_) (fun c => absurd rfl c)
      refine s_inc3 (nI (i + 6)) 1112 rfl rfl (nI_add i 6) rfl ?_
      refine s_goto 18 rfl (by decide) ?_
      exact ih (i + 6) M2 hR2 (by omega)
    | 11, _ =>
      refine s_tabIn 565 rfl (by decide) (by decide) rfl (by decide) ?_
      refine s_aload_n 566 rfl rfl rfl ?_
      refine s_xload_n 567 rfl rfl rfl ?_
      refine s_iload_n 568 rfl rfl rfl ?_
      refine s_iconst 1 569 rfl rfl (by decide) ?_
      refine s_iadd 570 rfl rfl ?_
      refine s_xaload (i + 1) 571 rfl rfl (nI_add i 1) (by omega) (by omega) ?_
      refine s_xload_n 572 rfl rfl rfl ?_
      refine s_iload_n 573 rfl rfl rfl ?_
      refine s_iconst 2 574 rfl rfl (by decide) ?_
      refine s_iadd 575 rfl rfl ?_
      refine s_xaload (i + 2) 576 rfl rfl (nI_add i 2) (by omega) (by omega) ?_
      have h0 := hR0 M hR
      obtain ⟨fs_Top, h_Top⟩ := h0
      refine c_callV2 11 579 rfl rfl mv_Law_65 (by decide) (Nat.le_of_ble_eq_true rfl) (Nat.le_of_ble_eq_true rfl) h_Top rfl rfl ?_
      refine ax_G.mono (hB.2.2.2.2.2.2.2.2.2.2.2.1 _ _ M hR) (fun v M1 hv => ?_)
      obtain ⟨r, rfl, h143, hm⟩ := hv
      dsimp only [ax_rs]
      refine s_aload_n 580 rfl rfl rfl ?_
      refine s_xload_n 581 rfl rfl rfl ?_
      refine s_iload_n 582 rfl rfl rfl ?_
      refine s_iconst 1 583 rfl rfl (by decide) ?_
      refine s_iadd 584 rfl rfl ?_
      refine s_xaload (i + 1) 585 rfl rfl (nI_add i 1) (by omega) (by omega) ?_
      refine s_xload_n 586 rfl rfl rfl ?_
      refine s_iload_n 587 rfl rfl rfl ?_
      refine s_iconst 2 588 rfl rfl (by decide) ?_
      refine s_iadd 589 rfl rfl ?_
      refine s_xaload (i + 2) 590 rfl rfl (nI_add i 2) (by omega) (by omega) ?_
      obtain ⟨fs_Mod, h_Mod⟩ := h143
      refine c_callV2 11 593 rfl rfl mv_Law_68 (by decide) (Nat.le_of_ble_eq_true rfl) (Nat.le_of_ble_eq_true rfl) h_Mod rfl rfl ?_
      refine ax_G.mono hm (fun v M2 hv => ?_)
      obtain ⟨rfl, hR2⟩ := hv
      dsimp only [ax_rs]
      refine s_icmp_eq 1109 596 rfl rfl (by decide) (fun _ => ?_) (fun c => absurd rfl c)
      refine s_inc3 (nI (i + 6)) 1112 rfl rfl (nI_add i 6) rfl ?_
      refine s_goto 18 rfl (by decide) ?_
      exact ih (i + 6) M2 hR2 (by omega)
    | 12, _ =>
      refine s_tabIn 598 rfl (by decide) (by decide) rfl (by decide) ?_
      refine s_aload_n 599 rfl rfl rfl ?_
      have h0 := hR0 M hR
      obtain ⟨fs_Top, h_Top⟩ := h0
      refine c_callV0 11 602 rfl rfl mv_Law_69 (by decide) (Nat.le_of_ble_eq_true rfl) (Nat.le_of_ble_eq_true rfl) h_Top rfl rfl ?_
      refine ax_G.mono (hB.2.2.2.2.2.2.2.2.2.2.2.2.1 M hR) (fun v M1 hv => ?_)
      obtain ⟨r, rfl, h143, hm⟩ := hv
      dsimp only [ax_rs]
      refine s_aload_n 603 rfl rfl rfl ?_
      obtain ⟨fs_Mod, h_Mod⟩ := h143
      refine c_callV0 11 606 rfl rfl mv_Law_72 (by decide) (Nat.le_of_ble_eq_true rfl) (Nat.le_of_ble_eq_true rfl) h_Mod rfl rfl ?_
      refine ax_G.mono hm (fun v M2 hv => ?_)
      obtain ⟨rfl, hR2⟩ := hv
      dsimp only [ax_rs]
      refine s_icmp_eq 1109 609 rfl rfl (by decide) (fun _ => ?_) (fun c => absurd rfl c)
      refine s_inc3 (nI (i + 6)) 1112 rfl rfl (nI_add i 6) rfl ?_
      refine s_goto 18 rfl (by decide) ?_
      exact ih (i + 6) M2 hR2 (by omega)
    | 13, _ =>
      refine s_tabIn 611 rfl (by decide) (by decide) rfl (by decide) ?_
      refine s_aload_n 612 rfl rfl rfl ?_
      refine s_xload_n 613 rfl rfl rfl ?_
      refine s_iload_n 614 rfl rfl rfl ?_
      refine s_iconst 1 615 rfl rfl (by decide) ?_
      refine s_iadd 616 rfl rfl ?_
      refine s_xaload (i + 1) 617 rfl rfl (nI_add i 1) (by omega) (by omega) ?_
      refine s_xload_n 618 rfl rfl rfl ?_
      refine s_iload_n 619 rfl rfl rfl ?_
      refine s_iconst 2 620 rfl rfl (by decide) ?_
      refine s_iadd 621 rfl rfl ?_
      refine s_xaload (i + 2) 622 rfl rfl (nI_add i 2) (by omega) (by omega) ?_
      have h0 := hR0 M hR
      obtain ⟨fs_Top, h_Top⟩ := h0
      refine c_callV2 11 625 rfl rfl mv_Law_73 (by decide) (Nat.le_of_ble_eq_true rfl) (Nat.le_of_ble_eq_true rfl) h_Top rfl rfl ?_
      refine ax_G.mono (hB.2.2.2.2.2.2.2.2.2.2.2.2.2.1 _ _ M hR) (fun v M1 hv => ?_)
      obtain ⟨r, rfl, h143, hm⟩ := hv
      dsimp only [ax_rs]
      refine s_aload_n 626 rfl rfl rfl ?_
      refine s_xload_n 627 rfl rfl rfl ?_
      refine s_iload_n 628 rfl rfl rfl ?_
      refine s_iconst 1 629 rfl rfl (by decide) ?_
      refine s_iadd 630 rfl rfl ?_
      refine s_xaload (i + 1) 631 rfl rfl (nI_add i 1) (by omega) (by omega) ?_
      refine s_xload_n 632 rfl rfl rfl ?_
      refine s_iload_n 633 rfl rfl rfl ?_
      refine s_iconst 2 634 rfl rfl (by decide) ?_
      refine s_iadd 635 rfl rfl ?_
      refine s_xaload (i + 2) 636 rfl rfl (nI_add i 2) (by omega) (by omega) ?_
      obtain ⟨fs_Mod, h_Mod⟩ := h143
      refine c_callV2 11 639 rfl rfl mv_Law_76 (by decide) (Nat.le_of_ble_eq_true rfl) (Nat.le_of_ble_eq_true rfl) h_Mod rfl rfl ?_
      refine ax_G.mono hm (fun v M2 hv => ?_)
      obtain ⟨rfl, hR2⟩ := hv
      dsimp only [ax_rs]
      refine s_icmp_eq 1109 642 rfl rfl (by decide) (fun _ => ?_) (fun c => absurd rfl c)
      refine s_inc3 (nI (i + 6)) 1112 rfl rfl (nI_add i 6) rfl ?_
      refine s_goto 18 rfl (by decide) ?_
      exact ih (i + 6) M2 hR2 (by omega)
    | 14, _ =>
      refine s_tabIn 644 rfl (by decide) (by decide) rfl (by decide) ?_
      refine s_aload_n 645 rfl rfl rfl ?_
      have h0 := hR0 M hR
      obtain ⟨fs_Top, h_Top⟩ := h0
      refine c_callV0 11 648 rfl rfl mv_Law_77 (by decide) (Nat.le_of_ble_eq_true rfl) (Nat.le_of_ble_eq_true rfl) h_Top rfl rfl ?_
      refine ax_G.mono (hB.2.2.2.2.2.2.2.2.2.2.2.2.2.2.1 M hR) (fun v M1 hv => ?_)
      obtain ⟨r, rfl, h143, hm⟩ := hv
      dsimp only [ax_rs]
      refine s_aload_n 649 rfl rfl rfl ?_
      obtain ⟨fs_Mod, h_Mod⟩ := h143
      refine c_callV0 11 652 rfl rfl mv_Law_80 (by decide) (Nat.le_of_ble_eq_true rfl) (Nat.le_of_ble_eq_true rfl) h_Mod rfl rfl ?_
      refine ax_G.mono hm (fun v M2 hv => ?_)
      obtain ⟨rfl, hR2⟩ := hv
      dsimp only [ax_rs]
      refine s_icmp_eq 1109 655 rfl rfl (by decide) (fun _ => ?_) (fun c => absurd rfl c)
      refine s_inc3 (nI (i + 6)) 1112 rfl rfl (nI_add i 6) rfl ?_
      refine s_goto 18 rfl (by decide) ?_
      exact ih (i + 6) M2 hR2 (by omega)
    | 15, _ =>
      refine s_tabIn 657 rfl (by decide) (by decide) rfl (by decide) ?_
      refine s_aload_n 658 rfl rfl rfl ?_
      refine s_xload_n 659 rfl rfl rfl ?_
      refine s_iload_n 660 rfl rfl rfl ?_
      refine s_iconst 1 661 rfl rfl (by decide) ?_
      refine s_iadd 662 rfl rfl ?_
      refine s_xaload (i + 1) 663 rfl rfl (nI_add i 1) (by omega) (by omega) ?_
      refine s_xload_n 664 rfl rfl rfl ?_
      refine s_iload_n 665 rfl rfl rfl ?_
      refine s_iconst 2 666 rfl rfl (by decide) ?_
      refine s_iadd 667 rfl rfl ?_
      refine s_xaload (i + 2) 668 rfl rfl (nI_add i 2) (by omega) (by omega) ?_
      have h0 := hR0 M hR
      obtain ⟨fs_Top, h_Top⟩ := h0
      refine c_callV2 11 671 rfl rfl mv_Law_81 (by decide) (Nat.le_of_ble_eq_true rfl) (Nat.le_of_ble_eq_true rfl) h_Top rfl rfl ?_
      refine ax_G.mono (hB.2.2.2.2.2.2.2.2.2.2.2.2.2.2.2.1 _ _ M hR) (fun v M1 hv => ?_)
      obtain ⟨r, rfl, h143, hm⟩ := hv
      dsimp only [ax_rs]
      refine s_aload_n 672 rfl rfl rfl ?_
      refine s_xload_n 673 rfl rfl rfl ?_
      refine s_iload_n 674 rfl rfl rfl ?_
      refine s_iconst 1 675 rfl rfl (by decide) ?_
      refine s_iadd 676 rfl rfl ?_
      refine s_xaload (i + 1) 677 rfl rfl (nI_add i 1) (by omega) (by omega) ?_
      refine s_xload_n 678 rfl rfl rfl ?_
      refine s_iload_n 679 rfl rfl rfl ?_
      refine s_iconst 2 680 rfl rfl (by decide) ?_
      refine s_iadd 681 rfl rfl ?_
      refine s_xaload (i + 2) 682 rfl rfl (nI_add i 2) (by omega) (by omega) ?_
      obtain ⟨fs_Mod, h_Mod⟩ := h143
      refine c_callV2 11 685 rfl rfl mv_Law_84 (by decide) (Nat.le_of_ble_eq_true rfl) (Nat.le_of_ble_eq_true rfl) h_Mod rfl rfl ?_
      refine ax_G.mono hm (fun v M2 hv => ?_)
      obtain ⟨rfl, hR2⟩ := hv
      dsimp only [ax_rs]
      refine s_icmp_eq 1109 688 rfl rfl (by decide) (fun _ => ?_) (fun c => absurd rfl c)
      refine s_inc3 (nI (i + 6)) 1112 rfl rfl (nI_add i 6) rfl ?_
      refine s_goto 18 rfl (by decide) ?_
      exact ih (i + 6) M2 hR2 (by omega)
    | 16, _ =>
      refine s_tabIn 690 rfl (by decide) (by decide) rfl (by decide) ?_
      refine s_aload_n 691 rfl rfl rfl ?_
      refine s_xload_n 692 rfl rfl rfl ?_
      refine s_iload_n 693 rfl rfl rfl ?_
      refine s_iconst 1 694 rfl rfl (by decide) ?_
      refine s_iadd 695 rfl rfl ?_
      refine s_xaload (i + 1) 696 rfl rfl (nI_add i 1) (by omega) (by omega) ?_
      have h0 := hR0 M hR
      obtain ⟨fs_Top, h_Top⟩ := h0
      refine c_callV1 11 699 rfl rfl mv_Law_85 (by decide) (Nat.le_of_ble_eq_true rfl) (Nat.le_of_ble_eq_true rfl) h_Top rfl rfl ?_
      refine ax_G.mono (hB.2.2.2.2.2.2.2.2.2.2.2.2.2.2.2.2.1 _ M hR) (fun v M1 hv => ?_)
      obtain ⟨r, rfl, h143, hm⟩ := hv
      dsimp only [ax_rs]
      refine s_aload_n 700 rfl rfl rfl ?_
      refine s_xload_n 701 rfl rfl rfl ?_
      refine s_iload_n 702 rfl rfl rfl ?_
      refine s_iconst 1 703 rfl rfl (by decide) ?_
      refine s_iadd 704 rfl rfl ?_
      refine s_xaload (i + 1) 705 rfl rfl (nI_add i 1) (by omega) (by omega) ?_
      obtain ⟨fs_Mod, h_Mod⟩ := h143
      refine c_callV1 11 708 rfl rfl mv_Law_89 (by decide) (Nat.le_of_ble_eq_true rfl) (Nat.le_of_ble_eq_true rfl) h_Mod rfl rfl ?_
      refine ax_G.mono hm (fun v M2 hv => ?_)
      obtain ⟨rfl, hR2⟩ := hv
      dsimp only [ax_rs]
      refine s_lcmp 709 rfl rfl ?_
      refine s_if_eq 1109 712 rfl rfl (by decide) (fun _ => ?_) (fun c => absurd (by unfold lg_cmp; simp) c)
      refine s_inc3 (nI (i + 6)) 1112 rfl rfl (nI_add i 6) rfl ?_
      refine s_goto 18 rfl (by decide) ?_
      exact ih (i + 6) M2 hR2 (by omega)
    | 17, _ =>
      refine s_tabIn 714 rfl (by decide) (by decide) rfl (by decide) ?_
      refine s_aload_n 715 rfl rfl rfl ?_
      refine s_xload_n 716 rfl rfl rfl ?_
      refine s_iload_n 717 rfl rfl rfl ?_
      refine s_iconst 1 718 rfl rfl (by decide) ?_
      refine s_iadd 719 rfl rfl ?_
      refine s_xaload (i + 1) 720 rfl rfl (nI_add i 1) (by omega) (by omega) ?_
      refine s_xload_n 721 rfl rfl rfl ?_
      refine s_iload_n 722 rfl rfl rfl ?_
      refine s_iconst 2 723 rfl rfl (by decide) ?_
      refine s_iadd 724 rfl rfl ?_
      refine s_xaload (i + 2) 725 rfl rfl (nI_add i 2) (by omega) (by omega) ?_
      have h0 := hR0 M hR
      obtain ⟨fs_Top, h_Top⟩ := h0
      refine c_callV2 11 728 rfl rfl mv_Law_90 (by decide) (Nat.le_of_ble_eq_true rfl) (Nat.le_of_ble_eq_true rfl) h_Top rfl rfl ?_
      refine ax_G.mono (hB.2.2.2.2.2.2.2.2.2.2.2.2.2.2.2.2.2.1 _ _ M hR) (fun v M1 hv => ?_)
      obtain ⟨r, rfl, h143, hm⟩ := hv
      dsimp only [ax_rs]
      refine s_aload_n 729 rfl rfl rfl ?_
      refine s_xload_n 730 rfl rfl rfl ?_
      refine s_iload_n 731 rfl rfl rfl ?_
      refine s_iconst 1 732 rfl rfl (by decide) ?_
      refine s_iadd 733 rfl rfl ?_
      refine s_xaload (i + 1) 734 rfl rfl (nI_add i 1) (by omega) (by omega) ?_
      refine s_xload_n 735 rfl rfl rfl ?_
      refine s_iload_n 736 rfl rfl rfl ?_
      refine s_iconst 2 737 rfl rfl (by decide) ?_
      refine s_iadd 738 rfl rfl ?_
      refine s_xaload (i + 2) 739 rfl rfl (nI_add i 2) (by omega) (by omega) ?_
      obtain ⟨fs_Mod, h_Mod⟩ := h143
      refine c_callV2 11 742 rfl rfl mv_Law_93 (by decide) (Nat.le_of_ble_eq_true rfl) (Nat.le_of_ble_eq_true rfl) h_Mod rfl rfl ?_
      refine ax_G.mono hm (fun v M2 hv => ?_)
      obtain ⟨rfl, hR2⟩ := hv
      dsimp only [ax_rs]
      refine s_icmp_eq 1109 745 rfl rfl (by decide) (fun _ => ?_) (fun c => absurd rfl c)
      refine s_inc3 (nI (i + 6)) 1112 rfl rfl (nI_add i 6) rfl ?_
      refine s_goto 18 rfl (by decide) ?_
      exact ih (i + 6) M2 hR2 (by omega)
    | 18, _ =>
      refine s_tabIn 747 rfl (by decide) (by decide) rfl (by decide) ?_
      refine s_aload_n 748 rfl rfl rfl ?_
      refine s_xload_n 749 rfl rfl rfl ?_
      refine s_iload_n 750 rfl rfl rfl ?_
      refine s_iconst 1 751 rfl rfl (by decide) ?_
      refine s_iadd 752 rfl rfl ?_
      refine s_xaload (i + 1) 753 rfl rfl (nI_add i 1) (by omega) (by omega) ?_
      have h0 := hR0 M hR
      obtain ⟨fs_Top, h_Top⟩ := h0
      refine c_callV1 11 756 rfl rfl mv_Law_94 (by decide) (Nat.le_of_ble_eq_true rfl) (Nat.le_of_ble_eq_true rfl) h_Top rfl rfl ?_
      refine ax_G.mono (hB.2.2.2.2.2.2.2.2.2.2.2.2.2.2.2.2.2.2.1 _ M hR) (fun v M1 hv => ?_)
      obtain ⟨r, rfl, h143, hm⟩ := hv
      dsimp only [ax_rs]
      refine s_aload_n 757 rfl rfl rfl ?_
      refine s_xload_n 758 rfl rfl rfl ?_
      refine s_iload_n 759 rfl rfl rfl ?_
      refine s_iconst 1 760 rfl rfl (by decide) ?_
      refine s_iadd 761 rfl rfl ?_
      refine s_xaload (i + 1) 762 rfl rfl (nI_add i 1) (by omega) (by omega) ?_
      obtain ⟨fs_Mod, h_Mod⟩ := h143
      refine c_callV1 11 765 rfl rfl mv_Law_97 (by decide) (Nat.le_of_ble_eq_true rfl) (Nat.le_of_ble_eq_true rfl) h_Mod rfl rfl ?_
      refine ax_G.mono hm (fun v M2 hv => ?_)
      obtain ⟨rfl, hR2⟩ := hv
      dsimp only [ax_rs]
      refine s_icmp_eq 1109 768 rfl rfl (by decide) (fun _ => ?_) (fun c => absurd rfl c)
      refine s_inc3 (nI (i + 6)) 1112 rfl rfl (nI_add i 6) rfl ?_
      refine s_goto 18 rfl (by decide) ?_
      exact ih (i + 6) M2 hR2 (by omega)
    | 19, _ =>
      refine s_tabIn 770 rfl (by decide) (by decide) rfl (by decide) ?_
      refine s_aload_n 771 rfl rfl rfl ?_
      refine s_xload_n 772 rfl rfl rfl ?_
      refine s_iload_n 773 rfl rfl rfl ?_
      refine s_iconst 1 774 rfl rfl (by decide) ?_
      refine s_iadd 775 rfl rfl ?_
      refine s_xaload (i + 1) 776 rfl rfl (nI_add i 1) (by omega) (by omega) ?_
      have h0 := hR0 M hR
      obtain ⟨fs_Top, h_Top⟩ := h0
      refine c_callV1 11 779 rfl rfl mv_Law_98 (by decide) (Nat.le_of_ble_eq_true rfl) (Nat.le_of_ble_eq_true rfl) h_Top rfl rfl ?_
      refine ax_G.mono (hB.2.2.2.2.2.2.2.2.2.2.2.2.2.2.2.2.2.2.2.1 _ M hR) (fun v M1 hv => ?_)
      obtain ⟨r, rfl, h143, hm⟩ := hv
      dsimp only [ax_rs]
      refine s_aload_n 780 rfl rfl rfl ?_
      refine s_xload_n 781 rfl rfl rfl ?_
      refine s_iload_n 782 rfl rfl rfl ?_
      refine s_iconst 1 783 rfl rfl (by decide) ?_
      refine s_iadd 784 rfl rfl ?_
      refine s_xaload (i + 1) 785 rfl rfl (nI_add i 1) (by omega) (by omega) ?_
      obtain ⟨fs_Mod, h_Mod⟩ := h143
      refine c_callV1 11 788 rfl rfl mv_Law_101 (by decide) (Nat.le_of_ble_eq_true rfl) (Nat.le_of_ble_eq_true rfl) h_Mod rfl rfl ?_
      refine ax_G.mono hm (fun v M2 hv => ?_)
      obtain ⟨rfl, hR2⟩ := hv
      dsimp only [ax_rs]
      refine s_icmp_eq 1109 791 rfl rfl (by decide) (fun _ => ?_) (fun c => absurd rfl c)
      refine s_inc3 (nI (i + 6)) 1112 rfl rfl (nI_add i 6) rfl ?_
      refine s_goto 18 rfl (by decide) ?_
      exact ih (i + 6) M2 hR2 (by omega)
    | 20, _ =>
      refine s_tabIn 793 rfl (by decide) (by decide) rfl (by decide) ?_
      refine s_aload_n 794 rfl rfl rfl ?_
      refine s_xload_n 795 rfl rfl rfl ?_
      refine s_iload_n 796 rfl rfl rfl ?_
      refine s_iconst 1 797 rfl rfl (by decide) ?_
      refine s_iadd 798 rfl rfl ?_
      refine s_xaload (i + 1) 799 rfl rfl (nI_add i 1) (by omega) (by omega) ?_
      have h0 := hR0 M hR
      obtain ⟨fs_Top, h_Top⟩ := h0
      refine c_callV1 11 802 rfl rfl mv_Law_102 (by decide) (Nat.le_of_ble_eq_true rfl) (Nat.le_of_ble_eq_true rfl) h_Top rfl rfl ?_
      refine ax_G.mono (hB.2.2.2.2.2.2.2.2.2.2.2.2.2.2.2.2.2.2.2.2.1 _ M hR) (fun v M1 hv => ?_)
      obtain ⟨r, rfl, h143, hm⟩ := hv
      dsimp only [ax_rs]
      refine s_aload_n 803 rfl rfl rfl ?_
      refine s_xload_n 804 rfl rfl rfl ?_
      refine s_iload_n 805 rfl rfl rfl ?_
      refine s_iconst 1 806 rfl rfl (by decide) ?_
      refine s_iadd 807 rfl rfl ?_
      refine s_xaload (i + 1) 808 rfl rfl (nI_add i 1) (by omega) (by omega) ?_
      obtain ⟨fs_Mod, h_Mod⟩ := h143
      refine c_callV1 11 811 rfl rfl mv_Law_105 (by decide) (Nat.le_of_ble_eq_true rfl) (Nat.le_of_ble_eq_true rfl) h_Mod rfl rfl ?_
      refine ax_G.mono hm (fun v M2 hv => ?_)
      obtain ⟨rfl, hR2⟩ := hv
      dsimp only [ax_rs]
      refine s_icmp_eq 1109 814 rfl rfl (by decide) (fun _ => ?_) (fun c => absurd rfl c)
      refine s_inc3 (nI (i + 6)) 1112 rfl rfl (nI_add i 6) rfl ?_
      refine s_goto 18 rfl (by decide) ?_
      exact ih (i + 6) M2 hR2 (by omega)
    | 21, _ =>
      refine s_tabIn 816 rfl (by decide) (by decide) rfl (by decide) ?_
      refine s_aload_n 817 rfl rfl rfl ?_
      refine s_xload_n 818 rfl rfl rfl ?_
      refine s_iload_n 819 rfl rfl rfl ?_
      refine s_iconst 1 820 rfl rfl (by decide) ?_
      refine s_iadd 821 rfl rfl ?_
      refine s_xaload (i + 1) 822 rfl rfl (nI_add i 1) (by omega) (by omega) ?_
      have h0 := hR0 M hR
      obtain ⟨fs_Top, h_Top⟩ := h0
      refine c_callV1 11 825 rfl rfl mv_Law_106 (by decide) (Nat.le_of_ble_eq_true rfl) (Nat.le_of_ble_eq_true rfl) h_Top rfl rfl ?_
      refine ax_G.mono (hB.2.2.2.2.2.2.2.2.2.2.2.2.2.2.2.2.2.2.2.2.2.1 _ M hR) (fun v M1 hv => ?_)
      obtain ⟨r, rfl, h143, hm⟩ := hv
      dsimp only [ax_rs]
      refine s_aload_n 826 rfl rfl rfl ?_
      refine s_xload_n 827 rfl rfl rfl ?_
      refine s_iload_n 828 rfl rfl rfl ?_
      refine s_iconst 1 829 rfl rfl (by decide) ?_
      refine s_iadd 830 rfl rfl ?_
      refine s_xaload (i + 1) 831 rfl rfl (nI_add i 1) (by omega) (by omega) ?_
      obtain ⟨fs_Mod, h_Mod⟩ := h143
      refine c_callV1 11 834 rfl rfl mv_Law_109 (by decide) (Nat.le_of_ble_eq_true rfl) (Nat.le_of_ble_eq_true rfl) h_Mod rfl rfl ?_
      refine ax_G.mono hm (fun v M2 hv => ?_)
      obtain ⟨rfl, hR2⟩ := hv
      dsimp only [ax_rs]
      refine s_icmp_eq 1109 837 rfl rfl (by decide) (fun _ => ?_) (fun c => absurd rfl c)
      refine s_inc3 (nI (i + 6)) 1112 rfl rfl (nI_add i 6) rfl ?_
      refine s_goto 18 rfl (by decide) ?_
      exact ih (i + 6) M2 hR2 (by omega)
    | 22, _ =>
      refine s_tabIn 839 rfl (by decide) (by decide) rfl (by decide) ?_
      refine s_aload_n 840 rfl rfl rfl ?_
      refine s_xload_n 841 rfl rfl rfl ?_
      refine s_iload_n 842 rfl rfl rfl ?_
      refine s_iconst 1 843 rfl rfl (by decide) ?_
      refine s_iadd 844 rfl rfl ?_
      refine s_xaload (i + 1) 845 rfl rfl (nI_add i 1) (by omega) (by omega) ?_
      have h0 := hR0 M hR
      obtain ⟨fs_Top, h_Top⟩ := h0
      refine c_callV1 11 848 rfl rfl mv_Law_110 (by decide) (Nat.le_of_ble_eq_true rfl) (Nat.le_of_ble_eq_true rfl) h_Top rfl rfl ?_
      refine ax_G.mono (hB.2.2.2.2.2.2.2.2.2.2.2.2.2.2.2.2.2.2.2.2.2.2.1 _ M hR) (fun v M1 hv => ?_)
      obtain ⟨r, rfl, h143, hm⟩ := hv
      dsimp only [ax_rs]
      refine s_aload_n 849 rfl rfl rfl ?_
      refine s_xload_n 850 rfl rfl rfl ?_
      refine s_iload_n 851 rfl rfl rfl ?_
      refine s_iconst 1 852 rfl rfl (by decide) ?_
      refine s_iadd 853 rfl rfl ?_
      refine s_xaload (i + 1) 854 rfl rfl (nI_add i 1) (by omega) (by omega) ?_
      obtain ⟨fs_Mod, h_Mod⟩ := h143
      refine c_callV1 11 857 rfl rfl mv_Law_113 (by decide) (Nat.le_of_ble_eq_true rfl) (Nat.le_of_ble_eq_true rfl) h_Mod rfl rfl ?_
      refine ax_G.mono hm (fun v M2 hv => ?_)
      obtain ⟨rfl, hR2⟩ := hv
      dsimp only [ax_rs]
      refine s_icmp_eq 1109 860 rfl rfl (by decide) (fun _ => ?_) (fun c => absurd rfl c)
      refine s_inc3 (nI (i + 6)) 1112 rfl rfl (nI_add i 6) rfl ?_
      refine s_goto 18 rfl (by decide) ?_
      exact ih (i + 6) M2 hR2 (by omega)
    | 23, _ =>
      refine s_tabIn 862 rfl (by decide) (by decide) rfl (by decide) ?_
      refine s_aload_n 863 rfl rfl rfl ?_
      refine s_xload_n 864 rfl rfl rfl ?_
      refine s_iload_n 865 rfl rfl rfl ?_
      refine s_iconst 1 866 rfl rfl (by decide) ?_
      refine s_iadd 867 rfl rfl ?_
      refine s_xaload (i + 1) 868 rfl rfl (nI_add i 1) (by omega) (by omega) ?_
      refine s_xload_n 869 rfl rfl rfl ?_
      refine s_iload_n 870 rfl rfl rfl ?_
      refine s_iconst 2 871 rfl rfl (by decide) ?_
      refine s_iadd 872 rfl rfl ?_
      refine s_xaload (i + 2) 873 rfl rfl (nI_add i 2) (by omega) (by omega) ?_
      have h0 := hR0 M hR
      obtain ⟨fs_Top, h_Top⟩ := h0
      refine c_callV2 11 876 rfl rfl mv_Law_114 (by decide) (Nat.le_of_ble_eq_true rfl) (Nat.le_of_ble_eq_true rfl) h_Top rfl rfl ?_
      refine ax_G.mono (hB.2.2.2.2.2.2.2.2.2.2.2.2.2.2.2.2.2.2.2.2.2.2.2.1 _ _ M hR) (fun v M1 hv => ?_)
      obtain ⟨r, rfl, h143, hm⟩ := hv
      dsimp only [ax_rs]
      refine s_aload_n 877 rfl rfl rfl ?_
      refine s_xload_n 878 rfl rfl rfl ?_
      refine s_iload_n 879 rfl rfl rfl ?_
      refine s_iconst 1 880 rfl rfl (by decide) ?_
      refine s_iadd 881 rfl rfl ?_
      refine s_xaload (i + 1) 882 rfl rfl (nI_add i 1) (by omega) (by omega) ?_
      refine s_xload_n 883 rfl rfl rfl ?_
      refine s_iload_n 884 rfl rfl rfl ?_
      refine s_iconst 2 885 rfl rfl (by decide) ?_
      refine s_iadd 886 rfl rfl ?_
      refine s_xaload (i + 2) 887 rfl rfl (nI_add i 2) (by omega) (by omega) ?_
      obtain ⟨fs_Mod, h_Mod⟩ := h143
      refine c_callV2 11 890 rfl rfl mv_Law_117 (by decide) (Nat.le_of_ble_eq_true rfl) (Nat.le_of_ble_eq_true rfl) h_Mod rfl rfl ?_
      refine ax_G.mono hm (fun v M2 hv => ?_)
      obtain ⟨rfl, hR2⟩ := hv
      dsimp only [ax_rs]
      refine s_icmp_eq 1109 893 rfl rfl (by decide) (fun _ => ?_) (fun c => absurd rfl c)
      refine s_inc3 (nI (i + 6)) 1112 rfl rfl (nI_add i 6) rfl ?_
      refine s_goto 18 rfl (by decide) ?_
      exact ih (i + 6) M2 hR2 (by omega)
    | 24, _ =>
      refine s_tabIn 895 rfl (by decide) (by decide) rfl (by decide) ?_
      refine s_aload_n 896 rfl rfl rfl ?_
      refine s_xload_n 897 rfl rfl rfl ?_
      refine s_iload_n 898 rfl rfl rfl ?_
      refine s_iconst 1 899 rfl rfl (by decide) ?_
      refine s_iadd 900 rfl rfl ?_
      refine s_xaload (i + 1) 901 rfl rfl (nI_add i 1) (by omega) (by omega) ?_
      have h0 := hR0 M hR
      obtain ⟨fs_Top, h_Top⟩ := h0
      refine c_callV1 11 904 rfl rfl mv_Law_118 (by decide) (Nat.le_of_ble_eq_true rfl) (Nat.le_of_ble_eq_true rfl) h_Top rfl rfl ?_
      refine ax_G.mono (hB.2.2.2.2.2.2.2.2.2.2.2.2.2.2.2.2.2.2.2.2.2.2.2.2.1 _ M hR) (fun v M1 hv => ?_)
      obtain ⟨r, rfl, h143, hm⟩ := hv
      dsimp only [ax_rs]
      refine s_aload_n 905 rfl rfl rfl ?_
      refine s_xload_n 906 rfl rfl rfl ?_
      refine s_iload_n 907 rfl rfl rfl ?_
      refine s_iconst 1 908 rfl rfl (by decide) ?_
      refine s_iadd 909 rfl rfl ?_
      refine s_xaload (i + 1) 910 rfl rfl (nI_add i 1) (by omega) (by omega) ?_
      obtain ⟨fs_Mod, h_Mod⟩ := h143
      refine c_callV1 11 913 rfl rfl mv_Law_121 (by decide) (Nat.le_of_ble_eq_true rfl) (Nat.le_of_ble_eq_true rfl) h_Mod rfl rfl ?_
      refine ax_G.mono hm (fun v M2 hv => ?_)
      obtain ⟨rfl, hR2⟩ := hv
      dsimp only [ax_rs]
      refine s_icmp_eq 1109 916 rfl rfl (by decide) (fun _ => ?_) (fun c => absurd rfl c)
      refine s_inc3 (nI (i + 6)) 1112 rfl rfl (nI_add i 6) rfl ?_
      refine s_goto 18 rfl (by decide) ?_
      exact ih (i + 6) M2 hR2 (by omega)
    | 25, _ =>
      refine s_tabIn 918 rfl (by decide) (by decide) rfl (by decide) ?_
      refine s_aload_n 919 rfl rfl rfl ?_
      refine s_xload_n 920 rfl rfl rfl ?_
      refine s_iload_n 921 rfl rfl rfl ?_
      refine s_iconst 1 922 rfl rfl (by decide) ?_
      refine s_iadd 923 rfl rfl ?_
      refine s_xaload (i + 1) 924 rfl rfl (nI_add i 1) (by omega) (by omega) ?_
      refine s_xload_n 925 rfl rfl rfl ?_
      refine s_iload_n 926 rfl rfl rfl ?_
      refine s_iconst 2 927 rfl rfl (by decide) ?_
      refine s_iadd 928 rfl rfl ?_
      refine s_xaload (i + 2) 929 rfl rfl (nI_add i 2) (by omega) (by omega) ?_
      refine s_xload_n 930 rfl rfl rfl ?_
      refine s_iload_n 931 rfl rfl rfl ?_
      refine s_iconst 3 932 rfl rfl (by decide) ?_
      refine s_iadd 933 rfl rfl ?_
      refine s_xaload (i + 3) 934 rfl rfl (nI_add i 3) (by omega) (by omega) ?_
      refine s_xload_n 935 rfl rfl rfl ?_
      refine s_iload_n 936 rfl rfl rfl ?_
      refine s_iconst 4 937 rfl rfl (by decide) ?_
      refine s_iadd 938 rfl rfl ?_
      refine s_xaload (i + 4) 939 rfl rfl (nI_add i 4) (by omega) (by omega) ?_
      have h0 := hR0 M hR
      obtain ⟨fs_Top, h_Top⟩ := h0
      refine c_callV4 11 942 rfl rfl mv_Law_122 (by decide) (Nat.le_of_ble_eq_true rfl) (Nat.le_of_ble_eq_true rfl) h_Top rfl rfl ?_
      refine ax_G.mono (hB.2.2.2.2.2.2.2.2.2.2.2.2.2.2.2.2.2.2.2.2.2.2.2.2.2.1 _ _ _ _ M hR) (fun v M1 hv => ?_)
      obtain ⟨r, rfl, h143, hm⟩ := hv
      dsimp only [ax_rs]
      refine s_aload_n 943 rfl rfl rfl ?_
      refine s_xload_n 944 rfl rfl rfl ?_
      refine s_iload_n 945 rfl rfl rfl ?_
      refine s_iconst 1 946 rfl rfl (by decide) ?_
      refine s_iadd 947 rfl rfl ?_
      refine s_xaload (i + 1) 948 rfl rfl (nI_add i 1) (by omega) (by omega) ?_
      refine s_xload_n 949 rfl rfl rfl ?_
      refine s_iload_n 950 rfl rfl rfl ?_
      refine s_iconst 2 951 rfl rfl (by decide) ?_
      refine s_iadd 952 rfl rfl ?_
      refine s_xaload (i + 2) 953 rfl rfl (nI_add i 2) (by omega) (by omega) ?_
      refine s_xload_n 954 rfl rfl rfl ?_
      refine s_iload_n 955 rfl rfl rfl ?_
      refine s_iconst 3 956 rfl rfl (by decide) ?_
      refine s_iadd 957 rfl rfl ?_
      refine s_xaload (i + 3) 958 rfl rfl (nI_add i 3) (by omega) (by omega) ?_
      refine s_xload_n 959 rfl rfl rfl ?_
      refine s_iload_n 960 rfl rfl rfl ?_
      refine s_iconst 4 961 rfl rfl (by decide) ?_
      refine s_iadd 962 rfl rfl ?_
      refine s_xaload (i + 4) 963 rfl rfl (nI_add i 4) (by omega) (by omega) ?_
      obtain ⟨fs_Mod, h_Mod⟩ := h143
      refine c_callV4 11 966 rfl rfl mv_Law_126 (by decide) (Nat.le_of_ble_eq_true rfl) (Nat.le_of_ble_eq_true rfl) h_Mod rfl rfl ?_
      refine ax_G.mono hm (fun v M2 hv => ?_)
      obtain ⟨rfl, hR2⟩ := hv
      dsimp only [ax_rs]
      refine s_icmp_eq 1109 969 rfl rfl (by decide) (fun _ => ?_) (fun c => absurd rfl c)
      refine s_inc3 (nI (i + 6)) 1112 rfl rfl (nI_add i 6) rfl ?_
      refine s_goto 18 rfl (by decide) ?_
      exact ih (i + 6) M2 hR2 (by omega)
    | 26, _ =>
      refine s_tabIn 971 rfl (by decide) (by decide) rfl (by decide) ?_
      refine s_aload_n 972 rfl rfl rfl ?_
      refine s_xload_n 973 rfl rfl rfl ?_
      refine s_iload_n 974 rfl rfl rfl ?_
      refine s_iconst 1 975 rfl rfl (by decide) ?_
      refine s_iadd 976 rfl rfl ?_
      refine s_xaload (i + 1) 977 rfl rfl (nI_add i 1) (by omega) (by omega) ?_
      refine s_xload_n 978 rfl rfl rfl ?_
      refine s_iload_n 979 rfl rfl rfl ?_
      refine s_iconst 2 980 rfl rfl (by decide) ?_
      refine s_iadd 981 rfl rfl ?_
      refine s_xaload (i + 2) 982 rfl rfl (nI_add i 2) (by omega) (by omega) ?_
      have h0 := hR0 M hR
      obtain ⟨fs_Top, h_Top⟩ := h0
      refine c_callV2 11 985 rfl rfl mv_Law_127 (by decide) (Nat.le_of_ble_eq_true rfl) (Nat.le_of_ble_eq_true rfl) h_Top rfl rfl ?_
      refine ax_G.mono (hB.2.2.2.2.2.2.2.2.2.2.2.2.2.2.2.2.2.2.2.2.2.2.2.2.2.2.1 _ _ M hR) (fun v M1 hv => ?_)
      obtain ⟨r, rfl, h143, hm⟩ := hv
      dsimp only [ax_rs]
      refine s_aload_n 986 rfl rfl rfl ?_
      refine s_xload_n 987 rfl rfl rfl ?_
      refine s_iload_n 988 rfl rfl rfl ?_
      refine s_iconst 1 989 rfl rfl (by decide) ?_
      refine s_iadd 990 rfl rfl ?_
      refine s_xaload (i + 1) 991 rfl rfl (nI_add i 1) (by omega) (by omega) ?_
      refine s_xload_n 992 rfl rfl rfl ?_
      refine s_iload_n 993 rfl rfl rfl ?_
      refine s_iconst 2 994 rfl rfl (by decide) ?_
      refine s_iadd 995 rfl rfl ?_
      refine s_xaload (i + 2) 996 rfl rfl (nI_add i 2) (by omega) (by omega) ?_
      obtain ⟨fs_Mod, h_Mod⟩ := h143
      refine c_callV2 11 999 rfl rfl mv_Law_130 (by decide) (Nat.le_of_ble_eq_true rfl) (Nat.le_of_ble_eq_true rfl) h_Mod rfl rfl ?_
      refine ax_G.mono hm (fun v M2 hv => ?_)
      obtain ⟨rfl, hR2⟩ := hv
      dsimp only [ax_rs]
      refine s_icmp_eq 1109 1002 rfl rfl (by decide) (fun _ => ?_) (fun c => absurd rfl c)
      refine s_inc3 (nI (i + 6)) 1112 rfl rfl (nI_add i 6) rfl ?_
      refine s_goto 18 rfl (by decide) ?_
      exact ih (i + 6) M2 hR2 (by omega)
    | 27, _ =>
      refine s_tabIn 1004 rfl (by decide) (by decide) rfl (by decide) ?_
      refine s_aload_n 1005 rfl rfl rfl ?_
      have h0 := hR0 M hR
      obtain ⟨fs_Top, h_Top⟩ := h0
      refine c_callV0 11 1008 rfl rfl mv_Law_131 (by decide) (Nat.le_of_ble_eq_true rfl) (Nat.le_of_ble_eq_true rfl) h_Top rfl rfl ?_
      refine ax_G.mono (hB.2.2.2.2.2.2.2.2.2.2.2.2.2.2.2.2.2.2.2.2.2.2.2.2.2.2.2.1 M hR) (fun v M1 hv => ?_)
      obtain ⟨r, rfl, h143, hm⟩ := hv
      dsimp only [ax_rs]
      refine s_aload_n 1009 rfl rfl rfl ?_
      obtain ⟨fs_Mod, h_Mod⟩ := h143
      refine c_callV0 11 1012 rfl rfl mv_Law_134 (by decide) (Nat.le_of_ble_eq_true rfl) (Nat.le_of_ble_eq_true rfl) h_Mod rfl rfl ?_
      refine ax_G.mono hm (fun v M2 hv => ?_)
      obtain ⟨rfl, hR2⟩ := hv
      dsimp only [ax_rs]
      refine s_icmp_eq 1109 1015 rfl rfl (by decide) (fun _ => ?_) (fun c => absurd rfl c)
      refine s_inc3 (nI (i + 6)) 1112 rfl rfl (nI_add i 6) rfl ?_
      refine s_goto 18 rfl (by decide) ?_
      exact ih (i + 6) M2 hR2 (by omega)
    | 28, _ =>
      refine s_tabIn 1017 rfl (by decide) (by decide) rfl (by decide) ?_
      refine s_aload_n 1018 rfl rfl rfl ?_
      refine s_xload_n 1019 rfl rfl rfl ?_
      refine s_iload_n 1020 rfl rfl rfl ?_
      refine s_iconst 1 1021 rfl rfl (by decide) ?_
      refine s_iadd 1022 rfl rfl ?_
      refine s_xaload (i + 1) 1023 rfl rfl (nI_add i 1) (by omega) (by omega) ?_
      have h0 := hR0 M hR
      obtain ⟨fs_Top, h_Top⟩ := h0
      refine c_callV1 11 1026 rfl rfl mv_Law_135 (by decide) (Nat.le_of_ble_eq_true rfl) (Nat.le_of_ble_eq_true rfl) h_Top rfl rfl ?_
      refine ax_G.mono (hB.2.2.2.2.2.2.2.2.2.2.2.2.2.2.2.2.2.2.2.2.2.2.2.2.2.2.2.2.1 _ M hR) (fun v M1 hv => ?_)
      obtain ⟨r, rfl, h143, hm⟩ := hv
      dsimp only [ax_rs]
      refine s_aload_n 1027 rfl rfl rfl ?_
      refine s_xload_n 1028 rfl rfl rfl ?_
      refine s_iload_n 1029 rfl rfl rfl ?_
      refine s_iconst 1 1030 rfl rfl (by decide) ?_
      refine s_iadd 1031 rfl rfl ?_
      refine s_xaload (i + 1) 1032 rfl rfl (nI_add i 1) (by omega) (by omega) ?_
      obtain ⟨fs_Mod, h_Mod⟩ := h143
      refine c_callV1 11 1035 rfl rfl mv_Law_138 (by decide) (Nat.le_of_ble_eq_true rfl) (Nat.le_of_ble_eq_true rfl) h_Mod rfl rfl ?_
      refine ax_G.mono hm (fun v M2 hv => ?_)
      obtain ⟨rfl, hR2⟩ := hv
      dsimp only [ax_rs]
      refine s_icmp_eq 1109 1038 rfl rfl (by decide) (fun _ => ?_) (fun c => absurd rfl c)
      refine s_inc3 (nI (i + 6)) 1112 rfl rfl (nI_add i 6) rfl ?_
      refine s_goto 18 rfl (by decide) ?_
      exact ih (i + 6) M2 hR2 (by omega)
    | 29, _ =>
      refine s_tabIn 1040 rfl (by decide) (by decide) rfl (by decide) ?_
      refine s_aload_n 1041 rfl rfl rfl ?_
      refine s_xload_n 1042 rfl rfl rfl ?_
      refine s_iload_n 1043 rfl rfl rfl ?_
      refine s_iconst 1 1044 rfl rfl (by decide) ?_
      refine s_iadd 1045 rfl rfl ?_
      refine s_xaload (i + 1) 1046 rfl rfl (nI_add i 1) (by omega) (by omega) ?_
      refine s_xload_n 1047 rfl rfl rfl ?_
      refine s_iload_n 1048 rfl rfl rfl ?_
      refine s_iconst 2 1049 rfl rfl (by decide) ?_
      refine s_iadd 1050 rfl rfl ?_
      refine s_xaload (i + 2) 1051 rfl rfl (nI_add i 2) (by omega) (by omega) ?_
      have h0 := hR0 M hR
      obtain ⟨fs_Top, h_Top⟩ := h0
      refine c_callV2 11 1054 rfl rfl mv_Law_139 (by decide) (Nat.le_of_ble_eq_true rfl) (Nat.le_of_ble_eq_true rfl) h_Top rfl rfl ?_
      refine ax_G.mono (hB.2.2.2.2.2.2.2.2.2.2.2.2.2.2.2.2.2.2.2.2.2.2.2.2.2.2.2.2.2.1 _ _ M hR) (fun v M1 hv => ?_)
      obtain ⟨r, rfl, h143, hm⟩ := hv
      dsimp only [ax_rs]
      refine s_aload_n 1055 rfl rfl rfl ?_
      refine s_xload_n 1056 rfl rfl rfl ?_
      refine s_iload_n 1057 rfl rfl rfl ?_
      refine s_iconst 1 1058 rfl rfl (by decide) ?_
      refine s_iadd 1059 rfl rfl ?_
      refine s_xaload (i + 1) 1060 rfl rfl (nI_add i 1) (by omega) (by omega) ?_
      refine s_xload_n 1061 rfl rfl rfl ?_
      refine s_iload_n 1062 rfl rfl rfl ?_
      refine s_iconst 2 1063 rfl rfl (by decide) ?_
      refine s_iadd 1064 rfl rfl ?_
      refine s_xaload (i + 2) 1065 rfl rfl (nI_add i 2) (by omega) (by omega) ?_
      obtain ⟨fs_Mod, h_Mod⟩ := h143
      refine c_callV2 11 1068 rfl rfl mv_Law_142 (by decide) (Nat.le_of_ble_eq_true rfl) (Nat.le_of_ble_eq_true rfl) h_Mod rfl rfl ?_
      refine ax_G.mono hm (fun v M2 hv => ?_)
      obtain ⟨rfl, hR2⟩ := hv
      dsimp only [ax_rs]
      refine s_icmp_eq 1109 1071 rfl rfl (by decide) (fun _ => ?_) (fun c => absurd rfl c)
      refine s_inc3 (nI (i + 6)) 1112 rfl rfl (nI_add i 6) rfl ?_
      refine s_goto 18 rfl (by decide) ?_
      exact ih (i + 6) M2 hR2 (by omega)
    | 30, _ =>
      refine s_tabIn 1073 rfl (by decide) (by decide) rfl (by decide) ?_
      refine s_aload_n 1074 rfl rfl rfl ?_
      have h0 := hR0 M hR
      obtain ⟨fs_Top, h_Top⟩ := h0
      refine c_callV0 11 1077 rfl rfl mv_Law_143 (by decide) (Nat.le_of_ble_eq_true rfl) (Nat.le_of_ble_eq_true rfl) h_Top rfl rfl ?_
      refine ax_G.mono (hB.2.2.2.2.2.2.2.2.2.2.2.2.2.2.2.2.2.2.2.2.2.2.2.2.2.2.2.2.2.2.1 M hR) (fun v M1 hv => ?_)
      obtain ⟨r, rfl, h143, hm⟩ := hv
      dsimp only [ax_rs]
      refine s_aload_n 1078 rfl rfl rfl ?_
      obtain ⟨fs_Mod, h_Mod⟩ := h143
      refine c_callV0 11 1081 rfl rfl mv_Law_146 (by decide) (Nat.le_of_ble_eq_true rfl) (Nat.le_of_ble_eq_true rfl) h_Mod rfl rfl ?_
      refine ax_G.mono hm (fun v M2 hv => ?_)
      obtain ⟨rfl, hR2⟩ := hv
      dsimp only [ax_rs]
      refine s_icmp_eq 1109 1084 rfl rfl (by decide) (fun _ => ?_) (fun c => absurd rfl c)
      refine s_inc3 (nI (i + 6)) 1112 rfl rfl (nI_add i 6) rfl ?_
      refine s_goto 18 rfl (by decide) ?_
      exact ih (i + 6) M2 hR2 (by omega)
    | 31, _ =>
      refine s_tabIn 1086 rfl (by decide) (by decide) rfl (by decide) ?_
      refine s_aload_n 1087 rfl rfl rfl ?_
      refine s_xload_n 1088 rfl rfl rfl ?_
      refine s_iload_n 1089 rfl rfl rfl ?_
      refine s_iconst 1 1090 rfl rfl (by decide) ?_
      refine s_iadd 1091 rfl rfl ?_
      refine s_xaload (i + 1) 1092 rfl rfl (nI_add i 1) (by omega) (by omega) ?_
      have h0 := hR0 M hR
      obtain ⟨fs_Top, h_Top⟩ := h0
      refine c_callV1 11 1095 rfl rfl mv_Law_147 (by decide) (Nat.le_of_ble_eq_true rfl) (Nat.le_of_ble_eq_true rfl) h_Top rfl rfl ?_
      refine ax_G.mono (hB.2.2.2.2.2.2.2.2.2.2.2.2.2.2.2.2.2.2.2.2.2.2.2.2.2.2.2.2.2.2.2 _ M hR) (fun v M1 hv => ?_)
      obtain ⟨r, rfl, h143, hm⟩ := hv
      dsimp only [ax_rs]
      refine s_aload_n 1096 rfl rfl rfl ?_
      refine s_xload_n 1097 rfl rfl rfl ?_
      refine s_iload_n 1098 rfl rfl rfl ?_
      refine s_iconst 1 1099 rfl rfl (by decide) ?_
      refine s_iadd 1100 rfl rfl ?_
      refine s_xaload (i + 1) 1101 rfl rfl (nI_add i 1) (by omega) (by omega) ?_
      obtain ⟨fs_Mod, h_Mod⟩ := h143
      refine c_callV1 11 1104 rfl rfl mv_Law_150 (by decide) (Nat.le_of_ble_eq_true rfl) (Nat.le_of_ble_eq_true rfl) h_Mod rfl rfl ?_
      refine ax_G.mono hm (fun v M2 hv => ?_)
      obtain ⟨rfl, hR2⟩ := hv
      dsimp only [ax_rs]
      refine s_icmp_eq 1109 1107 rfl rfl (by decide) (fun _ => ?_) (fun c => absurd rfl c)
      refine s_inc3 (nI (i + 6)) 1112 rfl rfl (nI_add i 6) rfl ?_
      refine s_goto 18 rfl (by decide) ?_
      exact ih (i + 6) M2 hR2 (by omega)
    | j + 32, h => exact absurd h (by omega)
