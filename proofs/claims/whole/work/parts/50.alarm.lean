/-! alarm -/
/-- the alarm's arguments are such as it takes -/
def av_ (ln : Nat) (x y w p q : Int32) : Prop := (∃ l, l < ln ∧ x = nI l) ∧ (∃ k, k < 10 ∧ y = nI k) ∧ (∃ c, c < 65536 ∧ w = nI c) ∧ ∃ d e, 1 ≤ d ∧ d ≤ 1000 ∧ q = nI d ∧ e ≤ d ∧ p = nI e
theorem upd_id {f : Nat → Int32} {i : Nat} {v : Int32} (h : f i = v) : upd f i v = f := by
  funext j
  unfold upd
  by_cases q : j = i
  · rw [if_pos q, q, h]
  · rw [if_neg q]
abbrev am_m (M : ax_M) (li ki wa pp qq st : Nat → Int32) (i n : Nat) (x y w p q : Int32) : ax_M := iP (iP (iP (iP (oP (iP (iP M 10 50 (upd li i x)) 11 50 (upd ki i y)) 9 0 (al_f n)) 12 50 (upd wa i w)) 13 50 (upd pp i p)) 14 50 (upd qq i q)) 15 50 (upd st i 0)
section ALM
variable {g : ax_Y} {M : ax_M} {Q : Option Value → ax_M → Prop} {h : Nat} {dw nw : Nat} {n bl dr ru pv si pa cm os gm tk pl bh : Int32} {va : Int64} {iw od : Int32} {ln al : Nat} {li ki wa pp qq st : Nat → Int32}
theorem c_alarm {x y w p q : Int32} (h_this : oC M 0 11 (tp_f dw nw bl pa)) (h_now : oC M nw 2 [.ref (nw + 1), .ref (nw + 2), .ref (nw + 3), .int (nI ln)]) (hln : ln ≤ 40) (h_alarms : oC M 9 0 (al_f al)) (h_line : iA M 10 50 li) (h_kind : iA M 11 50 ki) (h_wants : iA M 12 50 wa) (h_p : iA M 13 50 pp) (h_q : iA M 14 50 qq) (h_state : iA M 15 50 st) (hal : al ≤ 50) (h1 : ¬ av_ ln x y w p q → Q (some (.int (-2))) M) (h2 : av_ ln x y w p q → (∀ j, j < al → ¬ (st j ≠ 2 ∧ li j = x ∧ ki j = y)) → al = 50 → Q (some (.int (-4))) M) (h3 : av_ ln x y w p q → ∀ i n, ((i < al ∧ n = al ∧ (st i ≠ 2 ∧ li i = x ∧ ki i = y)) ∨ (i = al ∧ n = al + 1 ∧ al < 50 ∧ ∀ j, j < al → ¬ (st j ≠ 2 ∧ li j = x ∧ ki j = y))) → Q (some (.int (nI i))) (am_m M li ki wa pp qq st i n x y w p q)) : ax_G g mt_Top_alarm (h + 2) 0 0 0 [.ref 0, .int x, .int y, .int w, .int p, .int q, .float 0] [] M Q := by
  refine s_aload_n 1 rfl rfl rfl ?_
  refine s_getfield 11 13 4 rfl rfl fl_Top_87 h_this rfl ?_
  refine s_iload_n 5 rfl rfl rfl ?_
  refine c_callV1 (h+1) 8 rfl rfl mv_Top_132 (by omega) (Nat.le_of_ble_eq_true rfl) (Nat.le_of_ble_eq_true rfl) h_now rfl rfl ?_
  -- Top_alarm 8: call Lines_has
  refine m_Lines_has h_now ?_
  dsimp only [ax_rs]
  rcases in_or (x := x) (n := ln) (by omega) with ⟨l, hl, rfl⟩ | c
  · rw [bi_t (in_bi hl (by omega) rfl)]
    refine s_if_eq 28 11 rfl rfl (by decide) (fun c1 => ?_) (fun c1 => ?_)
    -- Top_alarm 11: branch 28 11
    · exact absurd c1 (by decide)
    · refine s_iload_n 12 rfl rfl rfl ?_
      refine s_if_lt 28 15 rfl rfl (by decide) (fun c2 => ?_) (fun c2 => ?_)
      -- Top_alarm 15: branch 28 15
      · refine s_bipush (-2) 30 rfl rfl (by decide) ?_
        -- Top_alarm 30: ireturn
        exact s_ireturn rfl .int rfl rfl (h1 (fun v => by obtain ⟨-, ⟨k, hk, e⟩, -⟩ := v; rw [e] at c2; exact nI_pos (by omega) c2))
      · obtain ⟨k, hk, rfl⟩ := nI_of c2
        refine s_iload_n 16 rfl rfl rfl ?_
        refine s_bipush 10 18 rfl rfl (by decide) ?_
        refine s_icmp_ge 28 21 rfl rfl (by decide) (fun c3 => ?_) (fun c3 => ?_)
        -- Top_alarm 21: branch 28 21
        · have hk2 := nn_le (a := 10) c3
          refine s_bipush (-2) 30 rfl rfl (by decide) ?_
          -- Top_alarm 30: ireturn
          exact s_ireturn rfl .int rfl rfl (h1 (fun v => by obtain ⟨-, ⟨k, hk, e⟩, -⟩ := v; have := nn_eq e; omega))
        · have hk2 := nn_nle (a := 10) c3
          refine s_iload_n 22 rfl rfl rfl ?_
          refine c_callS1 (h+1) 25 rfl rfl mv_Top_138 (by omega) (Nat.le_of_ble_eq_true rfl) (Nat.le_of_ble_eq_true rfl) ?_
          -- Top_alarm 25: call Top_isSet
          refine m_Top_isSet ?_
          dsimp only [ax_rs]
          rcases in_or (x := w) (n := 65536) (by omega) with ⟨c, hc, rfl⟩ | c
          · rw [bi_t (in_bi hc (by omega) rfl)]
            refine s_if_ne 31 28 rfl rfl (by decide) (fun c4 => ?_) (fun c4 => ?_)
            -- Top_alarm 28: branch 31 28
            · refine s_iload 33 rfl rfl rfl ?_
              refine s_iconst 1 34 rfl rfl (by decide) ?_
              refine s_icmp_lt 57 37 rfl rfl (by decide) (fun c5 => ?_) (fun c5 => ?_)
              -- Top_alarm 37: branch 57 37
              · refine s_bipush (-2) 59 rfl rfl (by decide) ?_
                -- Top_alarm 59: ireturn
                exact s_ireturn rfl .int rfl rfl (h1 (fun v => by obtain ⟨-, -, -, d, e, e1, e2, e3, e4, e5⟩ := v; rw [e3] at c5; exact absurd (nn_lt (b := 1) c5) (by omega)))
              · have c5 := Int32.not_lt.mp c5
                obtain ⟨d, hd, rfl⟩ := nI_of (x := q) (Int32.not_lt.mpr (Int32.le_trans (by decide) c5))
                have hd1 := nn_le (a := 1) c5
                refine s_iload 39 rfl rfl rfl ?_
                refine s_sipush 1000 42 rfl rfl (by decide) ?_
                refine s_icmp_gt 57 45 rfl rfl (by decide) (fun c6 => ?_) (fun c6 => ?_)
                -- Top_alarm 45: branch 57 45
                · refine s_bipush (-2) 59 rfl rfl (by decide) ?_
                  -- Top_alarm 59: ireturn
                  exact s_ireturn rfl .int rfl rfl (h1 (fun v => by obtain ⟨-, -, -, d, e, e1, e2, e3, e4, e5⟩ := v; have := nn_lt (a := 1000) c6; have := nn_eq e3; omega))
                · have hd2 := nn_nlt (a := 1000) c6
                  refine s_iload 47 rfl rfl rfl ?_
                  refine s_if_lt 57 50 rfl rfl (by decide) (fun c7 => ?_) (fun c7 => ?_)
                  -- Top_alarm 50: branch 57 50
                  · refine s_bipush (-2) 59 rfl rfl (by decide) ?_
                    -- Top_alarm 59: ireturn
                    exact s_ireturn rfl .int rfl rfl (h1 (fun v => by obtain ⟨-, -, -, d, e, e1, e2, e3, e4, e5⟩ := v; rw [e5] at c7; exact nI_pos (by omega) c7))
                  · obtain ⟨e, he, rfl⟩ := nI_of c7
                    refine s_iload 52 rfl rfl rfl ?_
                    refine s_iload 54 rfl rfl rfl ?_
                    refine s_icmp_le 60 57 rfl rfl (by decide) (fun c8 => ?_) (fun c8 => ?_)
                    -- Top_alarm 57: branch 60 57
                    · have hed := nn_le c8
                      have V : av_ ln (nI l) (nI k) (nI c) (nI e) (nI d) := ⟨⟨l, hl, rfl⟩, ⟨k, hk2, rfl⟩, ⟨c, hc, rfl⟩, d, e, hd1, hd2, rfl, hed, rfl⟩
                      refine s_aload_n 61 rfl rfl rfl ?_
                      refine s_getfield 11 3 64 rfl rfl fl_Top_31 h_this rfl ?_
                      refine s_iload_n 65 rfl rfl rfl ?_
                      refine s_iload_n 66 rfl rfl rfl ?_
                      refine c_callV2 (h+1) 69 rfl rfl mv_Top_141 (by omega) (Nat.le_of_ble_eq_true rfl) (Nat.le_of_ble_eq_true rfl) h_alarms rfl rfl ?_
                      -- Top_alarm 69: call Alarms_find
                      refine m_Alarms_find h_alarms h_line h_kind h_state hal (fun r hr => ?_)
                      dsimp only [ax_rs]
                      rcases hr with ⟨i, hi, hP, hf, rfl⟩ | ⟨hf, rfl⟩
                      · have h3 := h3 V i al (Or.inl ⟨hi, rfl, hP⟩)
                        unfold am_m iP oP at h3
                        rw [upd_id hP.2.1, upd_id hP.2.2, ax_id h_line, ax_id h_kind, ax_id h_alarms] at h3
                        refine s_ist6 71 rfl rfl rfl ?_
                        refine s_iload 73 rfl rfl rfl ?_
                        refine s_iconst (-1) 74 rfl rfl (by decide) ?_
                        refine s_icmp_ne 103 77 rfl rfl (by decide) (fun c9 => ?_) (fun c9 => ?_)
                        -- Top_alarm 77: branch 103 77
                        · refine s_aload_n 104 rfl rfl rfl ?_
                          refine s_getfield 11 3 107 rfl rfl fl_Top_31 h_this rfl ?_
                          refine s_iload 109 rfl rfl rfl ?_
                          refine s_iload_n 110 rfl rfl rfl ?_
                          refine s_iload 112 rfl rfl rfl ?_
                          refine s_iload 114 rfl rfl rfl ?_
                          refine c_callV4 (h+1) 117 rfl rfl mv_Top_148 (by omega) (Nat.le_of_ble_eq_true rfl) (Nat.le_of_ble_eq_true rfl) h_alarms rfl rfl ?_
                          -- Top_alarm 117: call Alarms_tell
                          refine m_Alarms_tell h_alarms h_wants h_p h_q h_state hal hi ?_
                          dsimp only [ax_rs]
                          refine s_iload 119 rfl rfl rfl ?_
                          -- Top_alarm 119: ireturn
                          exact s_ireturn rfl .int rfl rfl (h3)
                        · exact absurd c9 (nn_m1 (by omega))
                      · skip
                        refine s_ist6 71 rfl rfl rfl ?_
                        refine s_iload 73 rfl rfl rfl ?_
                        refine s_iconst (-1) 74 rfl rfl (by decide) ?_
                        refine s_icmp_ne 103 77 rfl rfl (by decide) (fun c10 => ?_) (fun c10 => ?_)
                        -- Top_alarm 77: branch 103 77
                        · exact absurd rfl c10
                        · refine s_aload_n 78 rfl rfl rfl ?_
                          refine s_getfield 11 3 81 rfl rfl fl_Top_31 h_this rfl ?_
                          refine s_getfield 0 6 84 rfl rfl fl_Top_145 h_alarms rfl ?_
                          refine s_bipush 50 86 rfl rfl (by decide) ?_
                          refine s_icmp_lt 92 89 rfl rfl (by decide) (fun c11 => ?_) (fun c11 => ?_)
                          -- Top_alarm 89: branch 92 89
                          · have ha50 := nn_lt (b := 50) c11
                            refine s_aload_n 93 rfl rfl rfl ?_
                            refine s_getfield 11 3 96 rfl rfl fl_Top_31 h_this rfl ?_
                            refine s_iload_n 97 rfl rfl rfl ?_
                            refine s_iload_n 98 rfl rfl rfl ?_
                            refine c_callV2 (h+1) 101 rfl rfl mv_Top_146 (by omega) (Nat.le_of_ble_eq_true rfl) (Nat.le_of_ble_eq_true rfl) h_alarms rfl rfl ?_
                            -- Top_alarm 101: call Alarms_add
                            refine m_Alarms_add h_alarms h_line h_kind ha50 ?_
                            dsimp only [ax_rs]
                            refine s_ist6 103 rfl rfl rfl ?_
                            refine s_aload_n 104 rfl rfl rfl ?_
                            refine s_getfield 11 3 107 rfl rfl fl_Top_31 h_this rfl ?_
                            refine s_iload 109 rfl rfl rfl ?_
                            refine s_iload_n 110 rfl rfl rfl ?_
                            refine s_iload 112 rfl rfl rfl ?_
                            refine s_iload 114 rfl rfl rfl ?_
                            refine c_callV4 (h+1) 117 rfl rfl mv_Top_148 (by omega) (Nat.le_of_ble_eq_true rfl) (Nat.le_of_ble_eq_true rfl) rfl rfl rfl ?_
                            -- Top_alarm 117: call Alarms_tell
                            refine m_Alarms_tell (M := oP (iP (iP M 10 50 (upd li al (nI l))) 11 50 (upd ki al (nI k))) 9 0 (al_f (al + 1))) rfl h_wants h_p h_q h_state ha50 (Nat.lt_succ_self al) ?_
                            dsimp only [ax_rs]
                            refine s_iload 119 rfl rfl rfl ?_
                            -- Top_alarm 119: ireturn
                            exact s_ireturn rfl .int rfl rfl (h3 V al (al + 1) (Or.inr ⟨rfl, rfl, ha50, hf⟩))
                          · have := nn_nlt (b := 50) c11
                            refine s_bipush (-4) 91 rfl rfl (by decide) ?_
                            -- Top_alarm 91: ireturn
                            exact s_ireturn rfl .int rfl rfl (h2 V hf (by omega))
                    · have hed := nn_nle c8
                      refine s_bipush (-2) 59 rfl rfl (by decide) ?_
                      -- Top_alarm 59: ireturn
                      exact s_ireturn rfl .int rfl rfl (h1 (fun v => by obtain ⟨-, -, -, d, e, e1, e2, e3, e4, e5⟩ := v; have := nn_eq e3; have := nn_eq e5; omega))
            · exact absurd c4 (by decide)
          · rw [bi_f (in_no c)]
            refine s_if_ne 31 28 rfl rfl (by decide) (fun c12 => ?_) (fun c12 => ?_)
            -- Top_alarm 28: branch 31 28
            · exact absurd rfl c12
            · refine s_bipush (-2) 30 rfl rfl (by decide) ?_
              -- Top_alarm 30: ireturn
              exact s_ireturn rfl .int rfl rfl (h1 (fun v => by obtain ⟨-, -, ⟨d, hd, e⟩, -⟩ := v; exact in_no (n := 65536) c (in_bi hd (by omega) e)))
  · rw [bi_f (in_no c)]
    refine s_if_eq 28 11 rfl rfl (by decide) (fun c13 => ?_) (fun c13 => ?_)
    -- Top_alarm 11: branch 28 11
    · refine s_bipush (-2) 30 rfl rfl (by decide) ?_
      -- Top_alarm 30: ireturn
      exact s_ireturn rfl .int rfl rfl (h1 (fun v => by obtain ⟨⟨d, hd, e⟩, -⟩ := v; exact in_no c (in_bi hd (by omega) e)))
    · exact absurd rfl c13
abbrev dm_m (M : ax_M) (li ki wa pp qq st : Nat → Int32) (i : Nat) (x y w p q : Int32) : ax_M := iP (iP (iP (iP (iP (iP M 155 50 (upd li i x)) 156 50 (upd ki i y)) 157 50 (upd wa i w)) 158 50 (upd pp i p)) 159 50 (upd qq i q)) 160 50 (upd st i 0)
theorem d_alarm {x y w p q : Int32} {ob : Nat → Int32} (h_this : oC M 143 12 (md_f n bl (nI ln) dr (nI al) ru pv si pa cm os gm tk pl bh va iw od)) (hln : ln ≤ 40) (h_lineOf : iA M 155 50 li) (h_kindOf : iA M 156 50 ki) (h_wants : iA M 157 50 wa) (h_above : iA M 158 50 pp) (h_below : iA M 159 50 qq) (h_state : iA M 160 50 st) (h_ofBuilds : iA M 161 50 ob) (hal : al ≤ 50) (h1 : ¬ av_ ln x y w p q → Q (some (.int (-2))) M) (h2 : av_ ln x y w p q → (∀ j, j < al → ¬ (st j ≠ 2 ∧ li j = x ∧ ki j = y)) → al = 50 → Q (some (.int (-4))) M) (h3 : av_ ln x y w p q → ∀ i, i < al → (st i ≠ 2 ∧ li i = x ∧ ki i = y) → Q (some (.int (nI i))) (dm_m M li ki wa pp qq st i x y w p q)) (h4 : av_ ln x y w p q → al < 50 → (∀ j, j < al → ¬ (st j ≠ 2 ∧ li j = x ∧ ki j = y)) → Q (some (.int (nI al))) (dm_m (iP (md_m M n bl (nI ln) dr (nI (al + 1)) ru pv si pa cm os gm tk pl bh va iw od) 161 50 (upd ob al 0)) li ki wa pp qq st al x y w p q)) : ax_G g mt_Mod_alarm (h + 1) 0 0 0 [.ref 143, .int x, .int y, .int w, .int p, .int q, .float 0, .float 0] [] M Q := by
  refine s_iload_n 1 rfl rfl rfl ?_
  refine s_i2l 2 rfl rfl ?_
  refine s_lconst 0 3 rfl rfl (by decide) ?_
  refine s_aload_n 4 rfl rfl rfl ?_
  refine s_getfield 12 3 7 rfl rfl fl_Mod_149 h_this rfl ?_
  refine s_iconst 1 8 rfl rfl (by decide) ?_
  refine s_isub 9 rfl rfl ?_
  refine s_i2l 10 rfl rfl ?_
  refine c_callS3 h 13 rfl rfl mv_Mod_134 (by omega) (Nat.le_of_ble_eq_true rfl) (Nat.le_of_ble_eq_true rfl) ?_
  -- Mod_alarm 13: call Mod_in
  refine m_Mod_inI (lo := 0) (hi := nI ln - 1) (by decide) rfl ?_
  dsimp only [ax_rs]
  rcases in_or (x := x) (n := ln) (by omega) with ⟨l, hl, rfl⟩ | c
  · rw [bi_t (in_le hl (by omega) rfl)]
    refine s_if_eq 66 16 rfl rfl (by decide) (fun c1 => ?_) (fun c1 => ?_)
    -- Mod_alarm 16: branch 66 16
    · exact absurd c1 (by decide)
    · refine s_iload_n 17 rfl rfl rfl ?_
      refine s_i2l 18 rfl rfl ?_
      refine s_lconst 0 19 rfl rfl (by decide) ?_
      refine s_ldc2_w 9 22 rfl rfl kl_Mod_172 ?_
      refine c_callS3 h 25 rfl rfl mv_Mod_134 (by omega) (Nat.le_of_ble_eq_true rfl) (Nat.le_of_ble_eq_true rfl) ?_
      -- Mod_alarm 25: call Mod_in
      refine m_Mod_inI (lo := 0) (hi := nI 10 - 1) (by decide) (by decide) ?_
      dsimp only [ax_rs]
      rcases in_or (x := y) (n := 10) (by omega) with ⟨k, hk, rfl⟩ | c
      · rw [bi_t (in_le hk (by omega) rfl)]
        refine s_if_eq 66 28 rfl rfl (by decide) (fun c2 => ?_) (fun c2 => ?_)
        -- Mod_alarm 28: branch 66 28
        · exact absurd c2 (by decide)
        · refine s_iload_n 29 rfl rfl rfl ?_
          refine s_i2l 30 rfl rfl ?_
          refine s_lconst 0 31 rfl rfl (by decide) ?_
          refine s_ldc2_w 65535 34 rfl rfl kl_Mod_174 ?_
          refine c_callS3 h 37 rfl rfl mv_Mod_134 (by omega) (Nat.le_of_ble_eq_true rfl) (Nat.le_of_ble_eq_true rfl) ?_
          -- Mod_alarm 37: call Mod_in
          refine m_Mod_inI (lo := 0) (hi := nI 65536 - 1) (by decide) (by decide) ?_
          dsimp only [ax_rs]
          rcases in_or (x := w) (n := 65536) (by omega) with ⟨c, hc, rfl⟩ | c
          · rw [bi_t (in_le (n := 65536) hc (by omega) rfl)]
            refine s_if_eq 66 40 rfl rfl (by decide) (fun c3 => ?_) (fun c3 => ?_)
            -- Mod_alarm 40: branch 66 40
            · exact absurd c3 (by decide)
            · refine s_iload 42 rfl rfl rfl ?_
              refine s_i2l 43 rfl rfl ?_
              refine s_lconst 1 44 rfl rfl (by decide) ?_
              refine s_ldc2_w 1000 47 rfl rfl kl_Mod_176 ?_
              refine c_callS3 h 50 rfl rfl mv_Mod_134 (by omega) (Nat.le_of_ble_eq_true rfl) (Nat.le_of_ble_eq_true rfl) ?_
              -- Mod_alarm 50: call Mod_in
              refine m_Mod_inI (lo := 1) (hi := nI 1000) (by decide) (by decide) ?_
              dsimp only [ax_rs]
              refine s_if_eq 66 53 rfl rfl (by decide) (fun c4 => ?_) (fun c4 => ?_)
              -- Mod_alarm 53: branch 66 53
              · rw [bi_0] at c4
                refine s_bipush (-2) 68 rfl rfl (by decide) ?_
                -- Mod_alarm 68: ireturn
                exact s_ireturn rfl .int rfl rfl (h1 (fun v => by obtain ⟨-, -, -, d, e, e1, e2, e3, e4, e5⟩ := v; rw [e3] at c4; exact c4 ⟨nI_le (a := 1) e1 (by omega), nI_le e2 (by omega)⟩))
              · rw [bi_0, Classical.not_not] at c4
                obtain ⟨d, hd, rfl⟩ := nI_of (x := q) (Int32.not_lt.mpr (Int32.le_trans (by decide) c4.1))
                have hd1 := nn_le (a := 1) c4.1
                have hd2 := nn_le (b := 1000) c4.2
                refine s_iload 55 rfl rfl rfl ?_
                refine s_i2l 56 rfl rfl ?_
                refine s_lconst 0 57 rfl rfl (by decide) ?_
                refine s_iload 59 rfl rfl rfl ?_
                refine s_i2l 60 rfl rfl ?_
                refine c_callS3 h 63 rfl rfl mv_Mod_134 (by omega) (Nat.le_of_ble_eq_true rfl) (Nat.le_of_ble_eq_true rfl) ?_
                -- Mod_alarm 63: call Mod_in
                refine m_Mod_inI (lo := 0) (hi := nI d) (by decide) rfl ?_
                dsimp only [ax_rs]
                refine s_if_ne 69 66 rfl rfl (by decide) (fun c5 => ?_) (fun c5 => ?_)
                -- Mod_alarm 66: branch 69 66
                · rw [bi_0, Classical.not_not] at c5
                  obtain ⟨e, he, rfl⟩ := nI_of (x := p) (Int32.not_lt.mpr c5.1)
                  have hed := nn_le c5.2
                  have V : av_ ln (nI l) (nI k) (nI c) (nI e) (nI d) := ⟨⟨l, hl, rfl⟩, ⟨k, hk, rfl⟩, ⟨c, hc, rfl⟩, d, e, hd1, hd2, rfl, hed, rfl⟩
                  refine s_iconst (-1) 70 rfl rfl (by decide) ?_
                  refine s_ist6 72 rfl rfl rfl ?_
                  refine s_iconst 0 73 rfl rfl (by decide) ?_
                  refine s_ist7 75 rfl rfl rfl ?_
                  -- Mod_alarm 75: end
                  have fin : ∀ r, ((∃ i, i < al ∧ (st i ≠ 2 ∧ li i = nI l ∧ ki i = nI k) ∧ r = nI i) ∨ ((∀ j, j < al → ¬ (st j ≠ 2 ∧ li j = nI l ∧ ki j = nI k)) ∧ r = -1)) → ax_G g mt_Mod_alarm (h + 1) 0 0 132 [.ref 143, .int (nI l), .int (nI k), .int (nI c), .int (nI e), .int (nI d), .int r, .int (nI al)] [] M Q := by
                    intro r hr
                    rcases hr with ⟨i, hi, hP, rfl⟩ | ⟨hf, rfl⟩
                    · refine s_iload 134 rfl rfl rfl ?_
                      refine s_iconst (-1) 135 rfl rfl (by decide) ?_
                      refine s_icmp_ne 150 138 rfl rfl (by decide) (fun c6 => ?_) (fun c6 => ?_)
                      -- Mod_alarm 138: branch 150 138
                      · refine s_iload 152 rfl rfl rfl ?_
                        refine s_iconst (-1) 153 rfl rfl (by decide) ?_
                        refine s_icmp_ne 180 156 rfl rfl (by decide) (fun c7 => ?_) (fun c7 => ?_)
                        -- Mod_alarm 156: branch 180 156
                        · refine s_aload_n 181 rfl rfl rfl ?_
                          refine s_getfield 12 16 184 rfl rfl fl_Mod_43 h_this rfl ?_
                          refine s_iload 186 rfl rfl rfl ?_
                          refine s_iload_n 187 rfl rfl rfl ?_
                          refine s_iastore (i) 188 rfl rfl h_lineOf rfl (by omega) (by decide) ?_
                          refine s_aload_n 189 rfl rfl rfl ?_
                          refine s_getfield 12 17 192 rfl rfl fl_Mod_46 h_this rfl ?_
                          refine s_iload 194 rfl rfl rfl ?_
                          refine s_iload_n 195 rfl rfl rfl ?_
                          refine s_iastore (i) 196 rfl rfl h_kindOf rfl (by omega) (by decide) ?_
                          refine s_aload_n 197 rfl rfl rfl ?_
                          refine s_getfield 12 18 200 rfl rfl fl_Mod_49 h_this rfl ?_
                          refine s_iload 202 rfl rfl rfl ?_
                          refine s_iload_n 203 rfl rfl rfl ?_
                          refine s_iastore (i) 204 rfl rfl h_wants rfl (by omega) (by decide) ?_
                          refine s_aload_n 205 rfl rfl rfl ?_
                          refine s_getfield 12 19 208 rfl rfl fl_Mod_52 h_this rfl ?_
                          refine s_iload 210 rfl rfl rfl ?_
                          refine s_iload 212 rfl rfl rfl ?_
                          refine s_iastore (i) 213 rfl rfl h_above rfl (by omega) (by decide) ?_
                          refine s_aload_n 214 rfl rfl rfl ?_
                          refine s_getfield 12 20 217 rfl rfl fl_Mod_55 h_this rfl ?_
                          refine s_iload 219 rfl rfl rfl ?_
                          refine s_iload 221 rfl rfl rfl ?_
                          refine s_iastore (i) 222 rfl rfl h_below rfl (by omega) (by decide) ?_
                          refine s_aload_n 223 rfl rfl rfl ?_
                          refine s_getfield 12 21 226 rfl rfl fl_Mod_58 h_this rfl ?_
                          refine s_iload 228 rfl rfl rfl ?_
                          refine s_iconst 0 229 rfl rfl (by decide) ?_
                          refine s_iastore (i) 230 rfl rfl h_state rfl (by omega) (by decide) ?_
                          refine s_iload 232 rfl rfl rfl ?_
                          -- Mod_alarm 232: ireturn
                          exact s_ireturn rfl .int rfl rfl (h3 V i hi hP)
                        · exact absurd c7 (nn_m1 (by omega))
                      · exact absurd c6 (nn_m1 (by omega))
                    · refine s_iload 134 rfl rfl rfl ?_
                      refine s_iconst (-1) 135 rfl rfl (by decide) ?_
                      refine s_icmp_ne 150 138 rfl rfl (by decide) (fun c8 => ?_) (fun c8 => ?_)
                      -- Mod_alarm 138: branch 150 138
                      · exact absurd rfl c8
                      · refine s_aload_n 139 rfl rfl rfl ?_
                        refine s_getfield 12 15 142 rfl rfl fl_Mod_169 h_this rfl ?_
                        refine s_bipush 50 144 rfl rfl (by decide) ?_
                        refine s_icmp_ne 150 147 rfl rfl (by decide) (fun c9 => ?_) (fun c9 => ?_)
                        -- Mod_alarm 147: branch 150 147
                        · have ha50 : al < 50 := by have := nn_ne (b := 50) c9; omega
                          refine s_iload 152 rfl rfl rfl ?_
                          refine s_iconst (-1) 153 rfl rfl (by decide) ?_
                          refine s_icmp_ne 180 156 rfl rfl (by decide) (fun c10 => ?_) (fun c10 => ?_)
                          -- Mod_alarm 156: branch 180 156
                          · exact absurd rfl c10
                          · refine s_aload_n 157 rfl rfl rfl ?_
                            refine s_getfield 12 15 160 rfl rfl fl_Mod_169 h_this rfl ?_
                            refine s_ist6 162 rfl rfl rfl ?_
                            refine s_aload_n 163 rfl rfl rfl ?_
                            refine s_dup 164 rfl rfl rfl ?_
                            refine s_getfield 12 15 167 rfl rfl fl_Mod_169 h_this rfl ?_
                            refine s_iconst 1 168 rfl rfl (by decide) ?_
                            refine s_iadd 169 rfl rfl ?_
                            -- Mod_alarm 169: end
                            rw [nI_1]
                            refine s_putfield 12 15 (.int) 172 rfl rfl fp_Mod_169 h_this (Nat.le_of_ble_eq_true rfl) ⟨rfl, rfl⟩ (fun h => absurd h (by decide)) ?_
                            refine s_aload_n 173 rfl rfl rfl ?_
                            refine s_getfield 12 22 176 rfl rfl fl_Mod_61 rfl rfl ?_
                            refine s_iload 178 rfl rfl rfl ?_
                            refine s_iconst 0 179 rfl rfl (by decide) ?_
                            refine s_iastore (al) 180 rfl rfl h_ofBuilds rfl (by omega) (by decide) ?_
                            refine s_aload_n 181 rfl rfl rfl ?_
                            refine s_getfield 12 16 184 rfl rfl fl_Mod_43 rfl rfl ?_
                            refine s_iload 186 rfl rfl rfl ?_
                            refine s_iload_n 187 rfl rfl rfl ?_
                            refine s_iastore (al) 188 rfl rfl h_lineOf rfl (by omega) (by decide) ?_
                            refine s_aload_n 189 rfl rfl rfl ?_
                            refine s_getfield 12 17 192 rfl rfl fl_Mod_46 rfl rfl ?_
                            refine s_iload 194 rfl rfl rfl ?_
                            refine s_iload_n 195 rfl rfl rfl ?_
                            refine s_iastore (al) 196 rfl rfl h_kindOf rfl (by omega) (by decide) ?_
                            refine s_aload_n 197 rfl rfl rfl ?_
                            refine s_getfield 12 18 200 rfl rfl fl_Mod_49 rfl rfl ?_
                            refine s_iload 202 rfl rfl rfl ?_
                            refine s_iload_n 203 rfl rfl rfl ?_
                            refine s_iastore (al) 204 rfl rfl h_wants rfl (by omega) (by decide) ?_
                            refine s_aload_n 205 rfl rfl rfl ?_
                            refine s_getfield 12 19 208 rfl rfl fl_Mod_52 rfl rfl ?_
                            refine s_iload 210 rfl rfl rfl ?_
                            refine s_iload 212 rfl rfl rfl ?_
                            refine s_iastore (al) 213 rfl rfl h_above rfl (by omega) (by decide) ?_
                            refine s_aload_n 214 rfl rfl rfl ?_
                            refine s_getfield 12 20 217 rfl rfl fl_Mod_55 rfl rfl ?_
                            refine s_iload 219 rfl rfl rfl ?_
                            refine s_iload 221 rfl rfl rfl ?_
                            refine s_iastore (al) 222 rfl rfl h_below rfl (by omega) (by decide) ?_
                            refine s_aload_n 223 rfl rfl rfl ?_
                            refine s_getfield 12 21 226 rfl rfl fl_Mod_58 rfl rfl ?_
                            refine s_iload 228 rfl rfl rfl ?_
                            refine s_iconst 0 229 rfl rfl (by decide) ?_
                            refine s_iastore (al) 230 rfl rfl h_state rfl (by omega) (by decide) ?_
                            refine s_iload 232 rfl rfl rfl ?_
                            -- Mod_alarm 232: ireturn
                            exact s_ireturn rfl .int rfl rfl (h4 V ha50 hf)
                        · have := nn_eq (b := 50) c9
                          refine s_bipush (-4) 149 rfl rfl (by decide) ?_
                          -- Mod_alarm 149: ireturn
                          exact s_ireturn rfl .int rfl rfl (h2 V hf this)
                  have loop : ∀ (dd i : Nat) (r : Int32), i + dd = al → ((∃ j, j < i ∧ (st j ≠ 2 ∧ li j = nI l ∧ ki j = nI k) ∧ r = nI j) ∨ ((∀ j, j < i → ¬ (st j ≠ 2 ∧ li j = nI l ∧ ki j = nI k)) ∧ r = -1)) → ax_G g mt_Mod_alarm (h + 1) 0 0 75 [.ref 143, .int (nI l), .int (nI k), .int (nI c), .int (nI e), .int (nI d), .int r, .int (nI i)] [] M Q := by
                    intro dd
                    induction dd with
                    | zero =>
                      intro i r hi hr
                      obtain rfl : i = al := by omega
                      refine s_iload 77 rfl rfl rfl ?_
                      refine s_aload_n 78 rfl rfl rfl ?_
                      refine s_getfield 12 15 81 rfl rfl fl_Mod_169 h_this rfl ?_
                      refine s_icmp_ge 132 84 rfl rfl (by decide) (fun c11 => ?_) (fun c11 => ?_)
                      -- Mod_alarm 84: branch 132 84
                      · exact fin r hr
                      · exact absurd (nn_nle c11) (by omega)
                    | succ dd ih =>
                      intro i r hi hr
                      have no : ¬ (st i ≠ 2 ∧ li i = nI l ∧ ki i = nI k) → ax_G g mt_Mod_alarm (h + 1) 0 0 122 [.ref 143, .int (nI l), .int (nI k), .int (nI c), .int (nI e), .int (nI d), .int r, .int (nI i)] [] M Q := by
                        intro hP
                        refine s_iload 124 rfl rfl rfl ?_
                        refine s_ist6 126 rfl rfl rfl ?_
                        refine s_inc7 _ 129 rfl rfl rfl rfl ?_
                        refine s_goto 75 rfl (by decide) ?_
                        -- Mod_alarm 75: end
                        rw [inc1]
                        refine ih (i + 1) r (by omega) ?_
                        rcases hr with ⟨j, hj, q1, q2⟩ | ⟨q1, q2⟩
                        · exact Or.inl ⟨j, by omega, q1, q2⟩
                        · exact Or.inr ⟨lt_sw (p := fun j => st j ≠ 2 ∧ li j = nI l ∧ ki j = nI k) q1 hP, q2⟩
                      refine s_iload 77 rfl rfl rfl ?_
                      refine s_aload_n 78 rfl rfl rfl ?_
                      refine s_getfield 12 15 81 rfl rfl fl_Mod_169 h_this rfl ?_
                      refine s_icmp_ge 132 84 rfl rfl (by decide) (fun c12 => ?_) (fun c12 => ?_)
                      -- Mod_alarm 84: branch 132 84
                      · exact absurd (nn_le c12) (by omega)
                      · refine s_aload_n 85 rfl rfl rfl ?_
                        refine s_getfield 12 21 88 rfl rfl fl_Mod_58 h_this rfl ?_
                        refine s_iload 90 rfl rfl rfl ?_
                        refine s_iaload (i) 91 rfl rfl h_state rfl (by omega) (by decide) ?_
                        refine s_iconst 2 92 rfl rfl (by decide) ?_
                        refine s_icmp_eq 122 95 rfl rfl (by decide) (fun c13 => ?_) (fun c13 => ?_)
                        -- Mod_alarm 95: branch 122 95
                        · exact no (fun q => q.1 c13)
                        · refine s_aload_n 96 rfl rfl rfl ?_
                          refine s_getfield 12 16 99 rfl rfl fl_Mod_43 h_this rfl ?_
                          refine s_iload 101 rfl rfl rfl ?_
                          refine s_iaload (i) 102 rfl rfl h_lineOf rfl (by omega) (by decide) ?_
                          refine s_iload_n 103 rfl rfl rfl ?_
                          refine s_icmp_ne 122 106 rfl rfl (by decide) (fun c14 => ?_) (fun c14 => ?_)
                          -- Mod_alarm 106: branch 122 106
                          · exact no (fun q => c14 q.2.1)
                          · refine s_aload_n 107 rfl rfl rfl ?_
                            refine s_getfield 12 17 110 rfl rfl fl_Mod_46 h_this rfl ?_
                            refine s_iload 112 rfl rfl rfl ?_
                            refine s_iaload (i) 113 rfl rfl h_kindOf rfl (by omega) (by decide) ?_
                            refine s_iload_n 114 rfl rfl rfl ?_
                            refine s_icmp_ne 122 117 rfl rfl (by decide) (fun c15 => ?_) (fun c15 => ?_)
                            -- Mod_alarm 117: branch 122 117
                            · exact no (fun q => c15 q.2.2)
                            · refine s_iload 119 rfl rfl rfl ?_
                              refine s_goto 124 rfl (by decide) ?_
                              refine s_ist6 126 rfl rfl rfl ?_
                              refine s_inc7 _ 129 rfl rfl rfl rfl ?_
                              refine s_goto 75 rfl (by decide) ?_
                              -- Mod_alarm 75: end
                              rw [inc1]
                              exact ih (i + 1) _ (by omega) (Or.inl ⟨i, by omega, ⟨c13, c14, c15⟩, rfl⟩)
                  exact loop al 0 (-1) (by omega) (Or.inr ⟨fun j hj => by omega, rfl⟩)
                · rw [bi_0] at c5
                  refine s_bipush (-2) 68 rfl rfl (by decide) ?_
                  -- Mod_alarm 68: ireturn
                  exact s_ireturn rfl .int rfl rfl (h1 (fun v => by obtain ⟨-, -, -, d', e, e1, e2, e3, e4, e5⟩ := v; have := nn_eq e3; rw [e5] at c5; exact c5 ⟨nI_pos' (by omega), nI_le (by omega) (by omega)⟩))
          · rw [bi_f (in_nle (n := 65536) (by omega) c)]
            refine s_if_eq 66 40 rfl rfl (by decide) (fun c16 => ?_) (fun c16 => ?_)
            -- Mod_alarm 40: branch 66 40
            · refine s_bipush (-2) 68 rfl rfl (by decide) ?_
              -- Mod_alarm 68: ireturn
              exact s_ireturn rfl .int rfl rfl (h1 (fun v => by obtain ⟨-, -, ⟨d, hd, e⟩, -⟩ := v; exact in_no (n := 65536) c (in_bi hd (by omega) e)))
            · exact absurd rfl c16
      · rw [bi_f (in_nle (n := 10) (by omega) c)]
        refine s_if_eq 66 28 rfl rfl (by decide) (fun c17 => ?_) (fun c17 => ?_)
        -- Mod_alarm 28: branch 66 28
        · refine s_bipush (-2) 68 rfl rfl (by decide) ?_
          -- Mod_alarm 68: ireturn
          exact s_ireturn rfl .int rfl rfl (h1 (fun v => by obtain ⟨-, ⟨d, hd, e⟩, -⟩ := v; exact in_no (n := 10) c (in_bi hd (by omega) e)))
        · exact absurd rfl c17
  · rw [bi_f (in_nle (by omega) c)]
    refine s_if_eq 66 16 rfl rfl (by decide) (fun c18 => ?_) (fun c18 => ?_)
    -- Mod_alarm 16: branch 66 16
    · refine s_bipush (-2) 68 rfl rfl (by decide) ?_
      -- Mod_alarm 68: ireturn
      exact s_ireturn rfl .int rfl rfl (h1 (fun v => by obtain ⟨⟨d, hd, e⟩, -⟩ := v; exact in_no c (in_bi hd (by omega) e)))
    · exact absurd rfl c18
theorem ra_new {bl ln al i n : Nat} {li ki wa pp qq st l2 k2 w2 p2 q2 s2 ob ob2 : Nat → Int32} {x y w p q : Int32} (V : av_ ln x y w p q) (hi : i < n) (hn : n ≤ al + 1) (hn2 : al ≤ n) (hd : (i < al ∧ n = al ∧ (st i ≠ 2 ∧ li i = x ∧ ki i = y) ∧ ob2 = ob) ∨ (i = al ∧ n = al + 1 ∧ (∀ j, j < al → ¬ (st j ≠ 2 ∧ li j = x ∧ ki j = y)) ∧ ob2 = upd ob al 0))
    (a19 : ∀ a, a < al → (l2 a = li a ∧ k2 a = ki a ∧ w2 a = wa a ∧ p2 a = pp a ∧ q2 a = qq a ∧ s2 a = st a) ∧ (st a = 0 ∨ st a = 1 ∨ st a = 2) ∧ (st a = 2 → li a = -1) ∧ (st a ≠ 2 → ∃ c, c < ln ∧ li a = nI c) ∧ (∃ c, c < 10 ∧ ki a = nI c) ∧ (∃ c, c < 65536 ∧ wa a = nI c) ∧ (∃ c d, c ≤ d ∧ 1 ≤ d ∧ d ≤ 1000 ∧ pp a = nI c ∧ qq a = nI d) ∧ ∀ b, bl ≤ b + 1 → b < 32 → bt (ob a) b = false)
    (a20 : ∀ a b, a < al → b < al → st a ≠ 2 → st b ≠ 2 → li a = li b → ki a = ki b → a = b) : (∀ a, a < n → (upd l2 i x a = upd li i x a ∧ upd k2 i y a = upd ki i y a ∧ upd w2 i w a = upd wa i w a ∧ upd p2 i p a = upd pp i p a ∧ upd q2 i q a = upd qq i q a ∧ upd s2 i 0 a = upd st i 0 a) ∧ (upd st i 0 a = 0 ∨ upd st i 0 a = 1 ∨ upd st i 0 a = 2) ∧ (upd st i 0 a = 2 → upd li i x a = -1) ∧ (upd st i 0 a ≠ 2 → ∃ c, c < ln ∧ upd li i x a = nI c) ∧ (∃ c, c < 10 ∧ upd ki i y a = nI c) ∧ (∃ c, c < 65536 ∧ upd wa i w a = nI c) ∧ (∃ c d, c ≤ d ∧ 1 ≤ d ∧ d ≤ 1000 ∧ upd pp i p a = nI c ∧ upd qq i q a = nI d) ∧ ∀ b, bl ≤ b + 1 → b < 32 → bt (ob2 a) b = false) ∧
    (∀ a b, a < n → b < n → upd st i 0 a ≠ 2 → upd st i 0 b ≠ 2 → upd li i x a = upd li i x b → upd ki i y a = upd ki i y b → a = b) := by
  obtain ⟨v1, v2, v3, d, e, e1, e2, e3, e4, e5⟩ := V
  have un : ∀ b, b < n → b ≠ i → ¬ (st b ≠ 2 ∧ li b = x ∧ ki b = y) := by
    intro b hb hbi hP
    rcases hd with ⟨h1, h2, h3, -⟩ | ⟨h1, h2, h3, -⟩
    · exact hbi (a20 b i (by omega) h1 hP.1 h3.1 (hP.2.1.trans h3.2.1.symm) (hP.2.2.trans h3.2.2.symm))
    · exact h3 b (by omega) hP
  refine ⟨fun a ha => ?_, fun a b ha hb => ?_⟩
  · unfold upd
    by_cases z : a = i
    · subst z
      simp only [if_true]
      refine ⟨⟨trivial, trivial, trivial, trivial, trivial, trivial⟩, Or.inl trivial, fun q => absurd q (by decide), fun _ => v1, v2, v3, ⟨e, d, e4, e1, e2, e5, e3⟩, fun b h1 h2 => ?_⟩
      rcases hd with ⟨g1, g2, g3, g4⟩ | ⟨g1, g2, g3, g4⟩
      · rw [g4]
        exact (a19 a g1).2.2.2.2.2.2.2 b h1 h2
      · rw [g4, g1]
        unfold upd
        rw [if_pos rfl]
        exact b_0 b
    · simp only [if_neg z]
      have ha2 : a < al := by omega
      have q := a19 a ha2
      refine ⟨q.1, q.2.1, q.2.2.1, q.2.2.2.1, q.2.2.2.2.1, q.2.2.2.2.2.1, q.2.2.2.2.2.2.1, fun b h1 h2 => ?_⟩
      rcases hd with ⟨g1, g2, g3, g4⟩ | ⟨g1, g2, g3, g4⟩
      · rw [g4]
        exact q.2.2.2.2.2.2.2 b h1 h2
      · rw [g4]
        unfold upd
        rw [if_neg (by omega)]
        exact q.2.2.2.2.2.2.2 b h1 h2
  · unfold upd
    by_cases z1 : a = i
    · by_cases z2 : b = i
      · intros; omega
      · rw [if_pos z1, if_neg z2, if_pos z1, if_neg z2, if_pos z1, if_neg z2]
        intro _ s1 s2 s3
        exact absurd ⟨s1, s2.symm, s3.symm⟩ (un b hb z2)
    · by_cases z2 : b = i
      · rw [if_neg z1, if_pos z2, if_neg z1, if_pos z2, if_neg z1, if_pos z2]
        intro s1 _ s2 s3
        exact absurd ⟨s1, s2, s3⟩ (un a ha z1)
      · rw [if_neg z1, if_neg z2, if_neg z1, if_neg z2, if_neg z1, if_neg z2]
        exact a20 a b (by omega) (by omega)
theorem both_alarm (x y w p q : Int32) : BI g (Rel g) mt_Top_alarm mt_Mod_alarm [.int x, .int y, .int w, .int p, .int q] := by
  intro M hR
  have hR' := hR
  obtain ⟨n, bl, ln, dr, al, ru, si, pa, cm, os, dw, nw, pv, gm, tk, pl, bh, va, iw, od, h0, h143, hT, hL, ⟨li, ki, wa, pp, qq, st, l2, k2, w2, p2, q2, s2, ob, tr, ps, a1, a2, a3, a4, a5, a6, a7, a8, a9, a10, a11, a12, a13, a14, a15, a16, a17, a18, a19, a20, a21⟩, hF, hS, hO, hU, hC, hX, hz⟩ := hR
  have hln : ln ≤ 40 := hL.2.choose_spec.choose_spec.choose_spec.choose_spec.choose_spec.choose_spec.choose_spec.choose_spec.choose_spec.choose_spec.choose_spec.2.2.2.2.2.2.2.2.2.2.2.2.2.1
  have h1 := hL.2.choose_spec.choose_spec.choose_spec.choose_spec.choose_spec.choose_spec.choose_spec.choose_spec.choose_spec.choose_spec.choose_spec.1
  have hnw : 79 ≤ nw ∧ 79 ≤ dw := by have := hL.1; omega
  have eP : ∀ j, j < al → ((s2 j ≠ 2 ∧ l2 j = x ∧ k2 j = y) ↔ (st j ≠ 2 ∧ li j = x ∧ ki j = y)) := by
    intro j hj
    obtain ⟨⟨e1, e2, e3, e4, e5, e6⟩, -⟩ := a19 j hj
    rw [e1, e2, e6]
  refine c_alarm (h := 9) h0 h1 hln a1 a2 a3 a4 a5 a6 a7 a17 (fun nV => ?_) (fun V hf h50 => ?_) (fun V i m hd => ?_)
  · exact ⟨_, rfl, ⟨_, h143⟩, d_alarm (h := 10) h143 hln a9 a10 a11 a12 a13 a14 a15 a17 (fun _ => ⟨rfl, hR'⟩) (fun V => absurd V nV) (fun V => absurd V nV) (fun V => absurd V nV)⟩
  · exact ⟨_, rfl, ⟨_, h143⟩, d_alarm (h := 10) h143 hln a9 a10 a11 a12 a13 a14 a15 a17 (fun nV => absurd V nV) (fun _ _ _ => ⟨rfl, hR'⟩) (fun _ i hi hP => absurd ((eP i hi).mp hP) (hf i hi)) (fun _ h _ => by omega)⟩
  · have k1 : ∀ k, ¬ (9 ≤ k ∧ k ≤ 15) → (am_m M li ki wa pp qq st i m x y w p q).2 k = M.2 k := fun k hk => ax_ne (by omega) (ax_ne (by omega) (ax_ne (by omega) (ax_ne (by omega) (ax_ne (by omega) (ax_ne (by omega) (ax_ne (by omega) rfl))))))
    refine ⟨_, rfl, ⟨_, (k1 143 (by omega)).trans h143⟩, d_alarm (h := 10) (M := am_m M li ki wa pp qq st i m x y w p q) h143 hln a9 a10 a11 a12 a13 a14 a15 a17 (fun nV => absurd V nV) (fun _ hf2 h50 => ?_) (fun _ i2 hi2 hP2 => ?_) (fun _ ha50 hf2 => ?_)⟩
    · rcases hd with ⟨g1, g2, g3⟩ | ⟨g1, g2, g3, g4⟩
      · exact absurd ((eP i g1).mpr g3) (hf2 i g1)
      · omega
    · rcases hd with ⟨g1, rfl, g3⟩ | ⟨g1, g2, g3, g4⟩
      · have hP2 := (eP i2 hi2).mp hP2
        obtain rfl : i = i2 := a20 i i2 g1 hi2 g3.1 hP2.1 (g3.2.1.trans hP2.2.1.symm) (g3.2.2.trans hP2.2.2.symm)
        refine ⟨rfl, ?_⟩
        obtain ⟨r1, r2⟩ := ra_new (n := m) (ob2 := ob) V g1 (by omega) (by omega) (Or.inl ⟨g1, rfl, g3, rfl⟩) a19 a20
        have key : ∀ k, ¬ ((9 ≤ k ∧ k ≤ 15) ∨ (155 ≤ k ∧ k ≤ 160)) → (dm_m (am_m M li ki wa pp qq st i m x y w p q) l2 k2 w2 p2 q2 s2 i x y w p q).2 k = M.2 k := fun k hk => ax_ne (by omega) (ax_ne (by omega) (ax_ne (by omega) (ax_ne (by omega) (ax_ne (by omega) (ax_ne (by omega) (k1 k (by omega)))))))
        refine ⟨n, bl, ln, dr, m, ru, si, pa, cm, os, dw, nw, pv, gm, tk, pl, bh, va, iw, od, h0, h143, hT.mv ?_, hL.mv ?_, ⟨_, _, _, _, _, _, _, _, _, _, _, _, ob, tr, ps, rfl, rfl, rfl, rfl, rfl, rfl, rfl, a8, rfl, rfl, rfl, rfl, rfl, rfl, a15, a16, a17, a18, r1, r2, a21⟩, hF.mv ?_, hS.mv ?_, hO.mv ?_, hU.mv ?_, hC.mv ?_, hX.mv ?_, hz⟩
        all_goals exact fun k hk => key k (by omega)
      · exact absurd ((eP i2 hi2).mp hP2) (g4 i2 hi2)
    · rcases hd with ⟨g1, g2, g3⟩ | ⟨rfl, rfl, g3, g4⟩
      · exact absurd ((eP i g1).mpr g3) (hf2 i g1)
      · refine ⟨rfl, ?_⟩
        obtain ⟨r1, r2⟩ := ra_new (n := i + 1) (ob2 := upd ob i 0) V (Nat.lt_succ_self i) (by omega) (by omega) (Or.inr ⟨rfl, rfl, g4, rfl⟩) a19 a20
        have key : ∀ k, ¬ ((9 ≤ k ∧ k ≤ 15) ∨ k = 143 ∨ (155 ≤ k ∧ k ≤ 161)) → (dm_m (iP (md_m (am_m M li ki wa pp qq st i (i + 1) x y w p q) (nI n) (nI bl) (nI ln) (nI dr) (nI (i + 1)) (nI ru) pv (nI si) (nI pa) (nI cm) (nI os) gm tk pl bh va iw od) 161 50 (upd ob i 0)) l2 k2 w2 p2 q2 s2 i x y w p q).2 k = M.2 k := fun k hk => ax_ne (by omega) (ax_ne (by omega) (ax_ne (by omega) (ax_ne (by omega) (ax_ne (by omega) (ax_ne (by omega) (ax_ne (by omega) (ax_ne (by omega) (k1 k (by omega)))))))))
        refine ⟨n, bl, ln, dr, i + 1, ru, si, pa, cm, os, dw, nw, pv, gm, tk, pl, bh, va, iw, od, h0, rfl, hT.mv ?_, hL.mv ?_, ⟨_, _, _, _, _, _, _, _, _, _, _, _, upd ob i 0, tr, ps, rfl, rfl, rfl, rfl, rfl, rfl, rfl, a8, rfl, rfl, rfl, rfl, rfl, rfl, rfl, a16, by omega, a18, r1, r2, fun b hb => ⟨fun a ha => ?_, (a21 b hb).2⟩⟩, hF.mv ?_, hS.mv ?_, hO.mv ?_, hU.mv ?_, hC.mv ?_, hX.mv ?_, hz⟩
        case refine_3 =>
          rw [(a21 b hb).1 a ha]
          unfold upd
          by_cases z : a = i
          · rw [if_pos z, b_0, decide_eq_false (by omega)]
            simp
          · rw [if_neg z]
            congr 1
            by_cases z2 : a < i
            · rw [decide_eq_true z2, decide_eq_true (by omega)]
            · rw [decide_eq_false z2, decide_eq_false (by omega)]
        all_goals exact fun k hk => key k (by omega)
end ALM
