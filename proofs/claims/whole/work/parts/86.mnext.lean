/-! the reference: next -/
section MNEXT
variable {g : ax_Y} {M : ax_M} {Q : Option Value → ax_M → Prop} {h n : Nat} {bl ln dr al ru pv si pa cm os gm tk pl bh : Int32} {va : Int64} {iw od : Int32} {f2 : Nat → Int32}
theorem m_Mod_next {p : Nat} (h_this : oC M 143 12 (md_f (nI n) bl ln dr al ru pv si pa cm os gm tk pl (nI p) va iw od)) (h_text : iA M 144 160 f2) (hn : n ≤ 160) (hp : p ≤ n) (hf : ∀ j, j < n → ∃ c, c < 256 ∧ f2 j = nI c) (hq : ∀ (bh2 : Int32) (va2 : Int64), ((tk_ (tb_ f2 n) p).1 ≠ 0 → (tk_ (tb_ f2 n) p).1 ≠ 5 → bh2 = nI (tk_ (tb_ f2 n) p).2.2) → ((tk_ (tb_ f2 n) p).1 = 1 → va2 = ev_ (tb_ f2 n) (tk_ (tb_ f2 n) p).2.1 ((tk_ (tb_ f2 n) p).2.2 - (tk_ (tb_ f2 n) p).2.1)) → ((tk_ (tb_ f2 n) p).1 = 2 → va2 = nl_ (tb_ f2 n) (tk_ (tb_ f2 n) p).2.1 ((tk_ (tb_ f2 n) p).2.2 - (tk_ (tb_ f2 n) p).2.1)) → Q none (md_m M (nI n) bl ln dr al ru pv si pa cm os gm (nI (tk_ (tb_ f2 n) p).1) (nI (tk_ (tb_ f2 n) p).2.1) bh2 va2 iw od)) : ax_G g mt_Mod_next (h + 2) 0 0 0 [.ref 143, .float 0] [] M Q := by
  have ab := ru_b (f := f2) (n := n) (lo := 32) (hi := 32) (by decide) 200 p hp
  generalize hq0 : ru_ (tb_ f2 n) 32 32 200 p = q0 at ab
  have fin : ∀ (t : Nat × Nat × Nat) (tk2 x : Int32) (va2 : Int64), tk_ (tb_ f2 n) p = t → t.2.1 = q0 → tk2 = nI t.1 → (t.1 ≠ 0 → t.1 ≠ 5 → x = nI t.2.2) → (t.1 = 1 → va2 = ev_ (tb_ f2 n) q0 (t.2.2 - q0)) → (t.1 = 2 → va2 = nl_ (tb_ f2 n) q0 (t.2.2 - q0)) → ax_G g mt_Mod_next (h + 2) 0 0 325 [.ref 143, .int x] [] (md_m M (nI n) bl ln dr al ru pv si pa cm os gm tk2 (nI q0) (nI p) va2 iw od) Q := by
    intro t tk2 x va2 e1 e2 e3 e4 e5 e6
    subst e1
    subst e3
    have hq := hq x va2 e4 (fun w => by rw [e2]; exact e5 w) (fun w => by rw [e2]; exact e6 w)
    rw [e2] at hq
    refine s_aload_n 326 rfl rfl rfl ?_
    refine s_iload_n 327 rfl rfl rfl ?_
    refine s_putfield 12 40 (.int) 330 rfl rfl fp_Mod_225 rfl (Nat.le_of_ble_eq_true rfl) ⟨rfl, rfl⟩ (fun h => absurd h (by decide)) ?_
    -- Mod_next 330: end
    rw [ax_pp]
    exact s_return rfl rfl hq
  have words : (97 ≤ tb_ f2 n q0 ∧ tb_ f2 n q0 ≤ 122) → ax_G g mt_Mod_next (h + 2) 0 0 71 [.ref 143, .int (nI q0)] [] (md_m M (nI n) bl ln dr al ru pv si pa cm os gm 1 (nI q0) (nI p) 0 iw od) Q := by
    intro z
    have ht : tk_ (tb_ f2 n) p = (1, q0, ru_ (tb_ f2 n) 97 122 200 q0) := by unfold tk_; rw [hq0, if_pos z]
    have loop : ∀ (d i : Nat), q0 + i ≤ n → n < q0 + i + d → ru_ (tb_ f2 n) 97 122 d (q0 + i) = ru_ (tb_ f2 n) 97 122 200 q0 → ax_G g mt_Mod_next (h + 2) 0 0 71 [.ref 143, .int (nI (q0 + i))] [] (md_m M (nI n) bl ln dr al ru pv si pa cm os gm 1 (nI q0) (nI p) (ev_ (tb_ f2 n) q0 i) iw od) Q := by
      intro d
      induction d with
      | zero => intro i h1 h2; omega
      | succ d ih =>
        intro i h1 h2 e
        rw [ru_] at e
        refine s_aload_n 72 rfl rfl rfl ?_
        refine s_iload_n 73 rfl rfl rfl ?_
        refine s_bipush 97 75 rfl rfl (by decide) ?_
        refine s_bipush 122 77 rfl rfl (by decide) ?_
        refine c_callV3 (h+1) 80 rfl rfl mv_Mod_228 (by omega) (Nat.le_of_ble_eq_true rfl) (Nat.le_of_ble_eq_true rfl) rfl rfl rfl ?_
        -- Mod_next 80: call Mod_isAt
        refine m_Mod_isAt (h := h) (nn := 0) rfl h_text hn (by omega) (by decide) ?_
        dsimp only [ax_rs]
        refine s_if_eq 325 83 rfl rfl (by decide) (fun c1 => ?_) (fun c1 => ?_)
        -- Mod_next 83: branch 325 83
        · rw [bi_0] at c1
          rw [if_neg c1] at e
          refine fin _ 1 _ _ ht rfl rfl (fun _ _ => ?_) (fun _ => ?_) (fun w => absurd (show (1 : Nat) = 2 from w) (by decide))
          · show nI (q0 + i) = nI (ru_ (tb_ f2 n) 97 122 200 q0)
            rw [← e]
          · show _ = ev_ (tb_ f2 n) q0 (ru_ (tb_ f2 n) 97 122 200 q0 - q0)
            rw [← e, show q0 + i - q0 = i by omega]
        · rw [bi_0, Classical.not_not] at c1
          rw [if_pos c1] at e
          have qn := tb_ge (f := f2) (n := n) (by decide) c1.1
          have tail : ∀ v, v = ev_ (tb_ f2 n) q0 (i + 1) → ax_G g mt_Mod_next (h + 2) 0 0 119 [.ref 143, .int (nI (q0 + i))] [.long v, .ref 143] (md_m M (nI n) bl ln dr al ru pv si pa cm os gm 1 (nI q0) (nI p) (ev_ (tb_ f2 n) q0 i) iw od) Q := by
            intro v hv
            subst hv
            refine s_putfield 12 41 (.long) 122 rfl rfl fp_Mod_235 rfl (Nat.le_of_ble_eq_true rfl) ⟨rfl, rfl⟩ (fun h => absurd h (by decide)) ?_
            refine s_inc1 _ 125 rfl rfl rfl rfl ?_
            refine s_goto 71 rfl (by decide) ?_
            -- Mod_next 71: end
            rw [ax_pp, inc1, show q0 + i + 1 = q0 + (i + 1) by omega]
            exact ih (i + 1) (by omega) (by omega) e
          refine s_aload_n 84 rfl rfl rfl ?_
          refine s_iload_n 85 rfl rfl rfl ?_
          refine s_aload_n 86 rfl rfl rfl ?_
          refine s_getfield 12 39 89 rfl rfl fl_Mod_232 rfl rfl ?_
          refine s_isub 90 rfl rfl ?_
          -- Mod_next 90: end
          rw [pk_sub (by omega), show q0 + i - q0 = i by omega]
          refine s_bipush 12 92 rfl rfl (by decide) ?_
          refine s_icmp_ge 118 95 rfl rfl (by decide) (fun c2 => ?_) (fun c2 => ?_)
          -- Mod_next 95: branch 118 95
          · have c2 := nn_le (a := 12) c2
            refine s_lconst 0 119 rfl rfl (by decide) ?_
            -- Mod_next 119: end
            exact tail _ (by rw [ev_, if_neg (by omega)])
          · have c2 := nn_nle (a := 12) c2
            refine s_aload_n 96 rfl rfl rfl ?_
            refine s_getfield 12 41 99 rfl rfl fl_Mod_235 rfl rfl ?_
            refine s_ldc2_w 32 102 rfl rfl kl_Mod_242 ?_
            refine s_lmul 103 rfl rfl ?_
            refine s_aload_n 104 rfl rfl rfl ?_
            refine s_getfield 12 0 107 rfl rfl fl_Mod_7 rfl rfl ?_
            refine s_iload_n 108 rfl rfl rfl ?_
            refine s_iaload (q0 + i) 109 rfl rfl h_text rfl (by omega) (by decide) ?_
            refine s_i2l 110 rfl rfl ?_
            refine s_ladd 111 rfl rfl ?_
            refine s_ldc2_w 96 114 rfl rfl kl_Mod_244 ?_
            refine s_lsub 115 rfl rfl ?_
            refine s_goto 119 rfl (by decide) ?_
            -- Mod_next 119: end
            exact tail _ (by rw [ev_, if_pos (by omega), tb_in qn])
    exact loop 200 0 ab.2 (by omega) rfl
  have digits : (¬ (97 ≤ tb_ f2 n q0 ∧ tb_ f2 n q0 ≤ 122)) → (48 ≤ tb_ f2 n q0 ∧ tb_ f2 n q0 ≤ 57) → ax_G g mt_Mod_next (h + 2) 0 0 140 [.ref 143, .int (nI q0)] [] (md_m M (nI n) bl ln dr al ru pv si pa cm os gm 5 (nI q0) (nI p) 0 iw od) Q := by
    intro z1 z
    have ht : tk_ (tb_ f2 n) p = (if 6 < ru_ (tb_ f2 n) 48 57 200 q0 - q0 then 5 else 2, q0, ru_ (tb_ f2 n) 48 57 200 q0) := by unfold tk_; rw [hq0, if_neg z1, if_pos z]
    have loop : ∀ (d i : Nat), q0 + i ≤ n → n < q0 + i + d → ru_ (tb_ f2 n) 48 57 d (q0 + i) = ru_ (tb_ f2 n) 48 57 200 q0 → ax_G g mt_Mod_next (h + 2) 0 0 140 [.ref 143, .int (nI (q0 + i))] [] (md_m M (nI n) bl ln dr al ru pv si pa cm os gm 5 (nI q0) (nI p) (nl_ (tb_ f2 n) q0 i) iw od) Q := by
      intro d
      induction d with
      | zero => intro i h1 h2; omega
      | succ d ih =>
        intro i h1 h2 e
        rw [ru_] at e
        refine s_aload_n 141 rfl rfl rfl ?_
        refine s_iload_n 142 rfl rfl rfl ?_
        refine s_bipush 48 144 rfl rfl (by decide) ?_
        refine s_bipush 57 146 rfl rfl (by decide) ?_
        refine c_callV3 (h+1) 149 rfl rfl mv_Mod_228 (by omega) (Nat.le_of_ble_eq_true rfl) (Nat.le_of_ble_eq_true rfl) rfl rfl rfl ?_
        -- Mod_next 149: call Mod_isAt
        refine m_Mod_isAt (h := h) (nn := 0) rfl h_text hn (by omega) (by decide) ?_
        dsimp only [ax_rs]
        refine s_if_eq 200 152 rfl rfl (by decide) (fun c3 => ?_) (fun c3 => ?_)
        -- Mod_next 152: branch 200 152
        · rw [bi_0] at c3
          rw [if_neg c3] at e
          rw [← e, show q0 + i - q0 = i by omega] at ht
          refine s_aload_n 201 rfl rfl rfl ?_
          refine s_iload_n 202 rfl rfl rfl ?_
          refine s_aload_n 203 rfl rfl rfl ?_
          refine s_getfield 12 39 206 rfl rfl fl_Mod_232 rfl rfl ?_
          refine s_isub 207 rfl rfl ?_
          -- Mod_next 207: end
          rw [pk_sub (by omega), show q0 + i - q0 = i by omega]
          refine s_bipush 6 209 rfl rfl (by decide) ?_
          refine s_icmp_le 216 212 rfl rfl (by decide) (fun c4 => ?_) (fun c4 => ?_)
          -- Mod_next 212: branch 216 212
          · have c4 := nn_le (b := 6) c4
            rw [if_neg (by omega)] at ht
            refine s_iconst 2 217 rfl rfl (by decide) ?_
            refine s_putfield 12 38 (.int) 220 rfl rfl fp_Mod_239 rfl (Nat.le_of_ble_eq_true rfl) ⟨rfl, rfl⟩ (fun h => absurd h (by decide)) ?_
            -- Mod_next 220: end
            rw [ax_pp]
            refine s_goto 325 rfl (by decide) ?_
            -- Mod_next 325: end
            exact fin _ 2 _ _ ht rfl rfl (fun _ _ => rfl) (fun w => absurd (show (2 : Nat) = 1 from w) (by decide)) (fun _ => by show _ = nl_ (tb_ f2 n) q0 (q0 + i - q0); rw [show q0 + i - q0 = i by omega])
          · have c4 := nn_nle (b := 6) c4
            rw [if_pos (by omega)] at ht
            refine s_iconst 5 213 rfl rfl (by decide) ?_
            refine s_goto 217 rfl (by decide) ?_
            refine s_putfield 12 38 (.int) 220 rfl rfl fp_Mod_239 rfl (Nat.le_of_ble_eq_true rfl) ⟨rfl, rfl⟩ (fun h => absurd h (by decide)) ?_
            -- Mod_next 220: end
            rw [ax_pp]
            refine s_goto 325 rfl (by decide) ?_
            -- Mod_next 325: end
            exact fin _ 5 _ _ ht rfl rfl (fun _ w => absurd rfl w) (fun w => absurd (show (5 : Nat) = 1 from w) (by decide)) (fun w => absurd (show (5 : Nat) = 2 from w) (by decide))
        · rw [bi_0, Classical.not_not] at c3
          rw [if_pos c3] at e
          have qn := tb_ge (f := f2) (n := n) (by decide) c3.1
          have tail : ∀ v, v = nl_ (tb_ f2 n) q0 (i + 1) → ax_G g mt_Mod_next (h + 2) 0 0 191 [.ref 143, .int (nI (q0 + i))] [.long v, .ref 143] (md_m M (nI n) bl ln dr al ru pv si pa cm os gm 5 (nI q0) (nI p) (nl_ (tb_ f2 n) q0 i) iw od) Q := by
            intro v hv
            subst hv
            refine s_putfield 12 41 (.long) 194 rfl rfl fp_Mod_235 rfl (Nat.le_of_ble_eq_true rfl) ⟨rfl, rfl⟩ (fun h => absurd h (by decide)) ?_
            refine s_inc1 _ 197 rfl rfl rfl rfl ?_
            refine s_goto 140 rfl (by decide) ?_
            -- Mod_next 140: end
            rw [ax_pp, inc1, show q0 + i + 1 = q0 + (i + 1) by omega]
            exact ih (i + 1) (by omega) (by omega) e
          refine s_aload_n 153 rfl rfl rfl ?_
          refine s_iload_n 154 rfl rfl rfl ?_
          refine s_aload_n 155 rfl rfl rfl ?_
          refine s_getfield 12 39 158 rfl rfl fl_Mod_232 rfl rfl ?_
          refine s_isub 159 rfl rfl ?_
          -- Mod_next 159: end
          rw [pk_sub (by omega), show q0 + i - q0 = i by omega]
          refine s_bipush 6 161 rfl rfl (by decide) ?_
          refine s_icmp_ge 187 164 rfl rfl (by decide) (fun c5 => ?_) (fun c5 => ?_)
          -- Mod_next 164: branch 187 164
          · have c5 := nn_le (a := 6) c5
            refine s_aload_n 188 rfl rfl rfl ?_
            refine s_getfield 12 41 191 rfl rfl fl_Mod_235 rfl rfl ?_
            -- Mod_next 191: end
            exact tail _ (by rw [nl_, if_neg (by omega)])
          · have c5 := nn_nle (a := 6) c5
            refine s_ldc2_w 10 167 rfl rfl kl_Mod_246 ?_
            refine s_aload_n 168 rfl rfl rfl ?_
            refine s_getfield 12 41 171 rfl rfl fl_Mod_235 rfl rfl ?_
            refine s_lmul 172 rfl rfl ?_
            refine s_aload_n 173 rfl rfl rfl ?_
            refine s_getfield 12 0 176 rfl rfl fl_Mod_7 rfl rfl ?_
            refine s_iload_n 177 rfl rfl rfl ?_
            refine s_iaload (q0 + i) 178 rfl rfl h_text rfl (by omega) (by decide) ?_
            refine s_i2l 179 rfl rfl ?_
            refine s_ladd 180 rfl rfl ?_
            refine s_ldc2_w 48 183 rfl rfl kl_Mod_248 ?_
            refine s_lsub 184 rfl rfl ?_
            refine s_goto 191 rfl (by decide) ?_
            -- Mod_next 191: end
            exact tail _ (by rw [nl_, if_pos (by omega), tb_in qn])
    exact loop 200 0 ab.2 (by omega) rfl
  have quotes : ¬ (97 ≤ tb_ f2 n q0 ∧ tb_ f2 n q0 ≤ 122) → ¬ (48 ≤ tb_ f2 n q0 ∧ tb_ f2 n q0 ≤ 57) → q0 < n → tb_ f2 n q0 = 39 → ax_G g mt_Mod_next (h + 2) 0 0 235 [.ref 143, .int (nI q0)] [] (md_m M (nI n) bl ln dr al ru pv si pa cm os gm 5 (nI q0) (nI p) 0 iw od) Q := by
    intro z1 z2 qn z
    have ht : tk_ (tb_ f2 n) p = (if tb_ f2 n (qr_ (tb_ f2 n) 20 (q0 + 1)) = 39 then 3 else 5, q0, qr_ (tb_ f2 n) 20 (q0 + 1) + 1) := by unfold tk_; rw [hq0, if_neg z1, if_neg z2, if_neg (by rw [z]; decide), if_neg (by rw [z]; decide), if_pos z]
    have b := qr_b (f := f2) (n := n) 20 (q0 + 1) (by omega)
    have out : ax_G g mt_Mod_next (h + 2) 0 0 278 [.ref 143, .int (nI (qr_ (tb_ f2 n) 20 (q0 + 1)))] [] (md_m M (nI n) bl ln dr al ru pv si pa cm os gm 5 (nI q0) (nI p) 0 iw od) Q := by
      refine s_aload_n 279 rfl rfl rfl ?_
      refine s_aload_n 280 rfl rfl rfl ?_
      refine s_iload_n 281 rfl rfl rfl ?_
      refine s_bipush 39 283 rfl rfl (by decide) ?_
      refine s_bipush 39 285 rfl rfl (by decide) ?_
      refine c_callV3 (h+1) 288 rfl rfl mv_Mod_228 (by omega) (Nat.le_of_ble_eq_true rfl) (Nat.le_of_ble_eq_true rfl) rfl rfl rfl ?_
      -- Mod_next 288: call Mod_isAt
      refine m_Mod_isAt (h := h) (nn := 0) rfl h_text hn (by omega) (by decide) ?_
      dsimp only [ax_rs]
      refine s_if_eq 295 291 rfl rfl (by decide) (fun c6 => ?_) (fun c6 => ?_)
      -- Mod_next 291: branch 295 291
      · rw [bi_0] at c6
        rw [if_neg (fun w => c6 (by rw [w]; decide))] at ht
        refine s_iconst 5 296 rfl rfl (by decide) ?_
        refine s_putfield 12 38 (.int) 299 rfl rfl fp_Mod_239 rfl (Nat.le_of_ble_eq_true rfl) ⟨rfl, rfl⟩ (fun h => absurd h (by decide)) ?_
        -- Mod_next 299: end
        rw [ax_pp]
        refine s_inc1 _ 302 rfl rfl rfl rfl ?_
        refine s_goto 325 rfl (by decide) ?_
        -- Mod_next 325: end
        exact fin _ 5 _ _ ht rfl rfl (fun _ w => absurd rfl w) (fun w => absurd (show (5 : Nat) = 1 from w) (by decide)) (fun w => absurd (show (5 : Nat) = 2 from w) (by decide))
      · rw [bi_0, Classical.not_not] at c6
        rw [if_pos (Int32.le_antisymm c6.2 c6.1)] at ht
        refine s_iconst 3 292 rfl rfl (by decide) ?_
        refine s_goto 296 rfl (by decide) ?_
        refine s_putfield 12 38 (.int) 299 rfl rfl fp_Mod_239 rfl (Nat.le_of_ble_eq_true rfl) ⟨rfl, rfl⟩ (fun h => absurd h (by decide)) ?_
        -- Mod_next 299: end
        rw [ax_pp]
        refine s_inc1 _ 302 rfl rfl rfl rfl ?_
        refine s_goto 325 rfl (by decide) ?_
        -- Mod_next 325: end
        rw [inc1]
        exact fin _ 3 _ _ ht rfl rfl (fun _ _ => rfl) (fun w => absurd (show (3 : Nat) = 1 from w) (by decide)) (fun w => absurd (show (3 : Nat) = 2 from w) (by decide))
    have loop : ∀ (d i : Nat), i + d = 20 → q0 + 1 + i ≤ n → qr_ (tb_ f2 n) d (q0 + 1 + i) = qr_ (tb_ f2 n) 20 (q0 + 1) → ax_G g mt_Mod_next (h + 2) 0 0 238 [.ref 143, .int (nI (q0 + 1 + i))] [] (md_m M (nI n) bl ln dr al ru pv si pa cm os gm 5 (nI q0) (nI p) 0 iw od) Q := by
      intro d
      induction d with
      | zero =>
        intro i hi h1 e
        rw [qr_] at e
        refine s_iload_n 239 rfl rfl rfl ?_
        refine s_aload_n 240 rfl rfl rfl ?_
        refine s_getfield 12 39 243 rfl rfl fl_Mod_232 rfl rfl ?_
        refine s_isub 244 rfl rfl ?_
        -- Mod_next 244: end
        rw [pk_sub (by omega)]
        refine s_bipush 21 246 rfl rfl (by decide) ?_
        refine s_icmp_ge 278 249 rfl rfl (by decide) (fun c7 => ?_) (fun c7 => ?_)
        -- Mod_next 249: branch 278 249
        · rw [e]
          exact out
        · exact absurd (nn_nle (a := 21) c7) (by omega)
      | succ d ih =>
        intro i hi h1 e
        rw [qr_] at e
        refine s_iload_n 239 rfl rfl rfl ?_
        refine s_aload_n 240 rfl rfl rfl ?_
        refine s_getfield 12 39 243 rfl rfl fl_Mod_232 rfl rfl ?_
        refine s_isub 244 rfl rfl ?_
        -- Mod_next 244: end
        rw [pk_sub (by omega)]
        refine s_bipush 21 246 rfl rfl (by decide) ?_
        refine s_icmp_ge 278 249 rfl rfl (by decide) (fun c8 => ?_) (fun c8 => ?_)
        -- Mod_next 249: branch 278 249
        · exact absurd (nn_le (a := 21) c8) (by omega)
        · refine s_aload_n 250 rfl rfl rfl ?_
          refine s_iload_n 251 rfl rfl rfl ?_
          refine s_bipush 32 253 rfl rfl (by decide) ?_
          refine s_bipush 126 255 rfl rfl (by decide) ?_
          refine c_callV3 (h+1) 258 rfl rfl mv_Mod_228 (by omega) (Nat.le_of_ble_eq_true rfl) (Nat.le_of_ble_eq_true rfl) rfl rfl rfl ?_
          -- Mod_next 258: call Mod_isAt
          refine m_Mod_isAt (h := h) (nn := 0) rfl h_text hn (by omega) (by decide) ?_
          dsimp only [ax_rs]
          refine s_if_eq 278 261 rfl rfl (by decide) (fun c9 => ?_) (fun c9 => ?_)
          -- Mod_next 261: branch 278 261
          · rw [bi_0] at c9
            rw [if_neg (fun w => c9 ⟨(of_decide_eq_true w).1, (of_decide_eq_true w).2.1⟩)] at e
            rw [e]
            exact out
          · rw [bi_0, Classical.not_not] at c9
            have qn2 := tb_ge (f := f2) (n := n) (by decide) c9.1
            refine s_aload_n 262 rfl rfl rfl ?_
            refine s_getfield 12 0 265 rfl rfl fl_Mod_7 rfl rfl ?_
            refine s_iload_n 266 rfl rfl rfl ?_
            refine s_iaload (q0 + 1 + i) 267 rfl rfl h_text rfl (by omega) (by decide) ?_
            refine s_bipush 39 269 rfl rfl (by decide) ?_
            refine s_icmp_eq 278 272 rfl rfl (by decide) (fun c10 => ?_) (fun c10 => ?_)
            -- Mod_next 272: branch 278 272
            · rw [if_neg (fun w => (of_decide_eq_true w).2.2 (by rw [tb_in qn2]; exact c10))] at e
              rw [e]
              exact out
            · rw [if_pos (show qb_ (tb_ f2 n (q0 + 1 + i)) = true from decide_eq_true ⟨c9.1, c9.2, by rw [tb_in qn2]; exact c10⟩)] at e
              refine s_inc1 _ 275 rfl rfl rfl rfl ?_
              refine s_goto 238 rfl (by decide) ?_
              -- Mod_next 238: end
              rw [inc1, show q0 + 1 + i + 1 = q0 + 1 + (i + 1) by omega]
              exact ih (i + 1) (by omega) (by omega) e
    refine s_inc1 _ 238 rfl rfl rfl rfl ?_
    -- Mod_next 238: end
    rw [inc1]
    exact loop 20 0 (by omega) (by omega) rfl
  have rest : ax_G g mt_Mod_next (h + 2) 0 0 23 [.ref 143, .int (nI q0)] [] M Q := by
    refine s_aload_n 24 rfl rfl rfl ?_
    refine s_iload_n 25 rfl rfl rfl ?_
    refine s_putfield 12 39 (.int) 28 rfl rfl fp_Mod_232 h_this (Nat.le_of_ble_eq_true rfl) ⟨rfl, rfl⟩ (fun h => absurd h (by decide)) ?_
    refine s_aload_n 29 rfl rfl rfl ?_
    refine s_lconst 0 30 rfl rfl (by decide) ?_
    refine s_putfield 12 41 (.long) 33 rfl rfl fp_Mod_235 rfl (Nat.le_of_ble_eq_true rfl) ⟨rfl, rfl⟩ (fun h => absurd h (by decide)) ?_
    refine s_aload_n 34 rfl rfl rfl ?_
    refine s_iconst 5 35 rfl rfl (by decide) ?_
    refine s_putfield 12 38 (.int) 38 rfl rfl fp_Mod_239 rfl (Nat.le_of_ble_eq_true rfl) ⟨rfl, rfl⟩ (fun h => absurd h (by decide)) ?_
    -- Mod_next 38: end
    rw [ax_pp, ax_pp]
    show ax_G g mt_Mod_next (h + 2) 0 0 38 [.ref 143, .int (nI q0)] [] (md_m M (nI n) bl ln dr al ru pv si pa cm os gm 5 (nI q0) (nI p) 0 iw od) Q
    refine s_iload_n 39 rfl rfl rfl ?_
    refine s_aload_n 40 rfl rfl rfl ?_
    refine s_getfield 12 1 43 rfl rfl fl_Mod_138 rfl rfl ?_
    refine s_icmp_ne 54 46 rfl rfl (by decide) (fun c1 => ?_) (fun c1 => ?_)
    -- Mod_next 46: branch 54 46
    · have c1 : q0 ≠ n := fun w => c1 (by rw [w])
      have qn : q0 < n := by omega
      refine s_aload_n 55 rfl rfl rfl ?_
      refine s_iload_n 56 rfl rfl rfl ?_
      refine s_bipush 97 58 rfl rfl (by decide) ?_
      refine s_bipush 122 60 rfl rfl (by decide) ?_
      refine c_callV3 (h+1) 63 rfl rfl mv_Mod_228 (by omega) (Nat.le_of_ble_eq_true rfl) (Nat.le_of_ble_eq_true rfl) rfl rfl rfl ?_
      -- Mod_next 63: call Mod_isAt
      refine m_Mod_isAt (h := h) (nn := 0) rfl h_text hn (by omega) (by decide) ?_
      dsimp only [ax_rs]
      refine s_if_eq 128 66 rfl rfl (by decide) (fun c2 => ?_) (fun c2 => ?_)
      -- Mod_next 66: branch 128 66
      · rw [bi_0] at c2
        refine s_aload_n 129 rfl rfl rfl ?_
        refine s_iload_n 130 rfl rfl rfl ?_
        refine s_bipush 48 132 rfl rfl (by decide) ?_
        refine s_bipush 57 134 rfl rfl (by decide) ?_
        refine c_callV3 (h+1) 137 rfl rfl mv_Mod_228 (by omega) (Nat.le_of_ble_eq_true rfl) (Nat.le_of_ble_eq_true rfl) rfl rfl rfl ?_
        -- Mod_next 137: call Mod_isAt
        refine m_Mod_isAt (h := h) (nn := 0) rfl h_text hn (by omega) (by decide) ?_
        dsimp only [ax_rs]
        refine s_if_eq 223 140 rfl rfl (by decide) (fun c3 => ?_) (fun c3 => ?_)
        -- Mod_next 140: branch 223 140
        · rw [bi_0] at c3
          refine s_aload_n 224 rfl rfl rfl ?_
          refine s_iload_n 225 rfl rfl rfl ?_
          refine s_bipush 39 227 rfl rfl (by decide) ?_
          refine s_bipush 39 229 rfl rfl (by decide) ?_
          refine c_callV3 (h+1) 232 rfl rfl mv_Mod_228 (by omega) (Nat.le_of_ble_eq_true rfl) (Nat.le_of_ble_eq_true rfl) rfl rfl rfl ?_
          -- Mod_next 232: call Mod_isAt
          refine m_Mod_isAt (h := h) (nn := 0) rfl h_text hn (by omega) (by decide) ?_
          dsimp only [ax_rs]
          have nm : ¬ tb_ f2 n q0 = -1 := by
            obtain ⟨c, hc, e⟩ := hf q0 qn
            rw [tb_in qn, e]
            exact nn_m1 (by omega)
          refine s_if_eq 305 235 rfl rfl (by decide) (fun c4 => ?_) (fun c4 => ?_)
          -- Mod_next 235: branch 305 235
          · rw [bi_0] at c4
            refine s_aload_n 306 rfl rfl rfl ?_
            refine s_iload_n 307 rfl rfl rfl ?_
            refine s_bipush 59 309 rfl rfl (by decide) ?_
            refine s_bipush 59 311 rfl rfl (by decide) ?_
            refine c_callV3 (h+1) 314 rfl rfl mv_Mod_228 (by omega) (Nat.le_of_ble_eq_true rfl) (Nat.le_of_ble_eq_true rfl) rfl rfl rfl ?_
            -- Mod_next 314: call Mod_isAt
            refine m_Mod_isAt (h := h) (nn := 0) rfl h_text hn (by omega) (by decide) ?_
            dsimp only [ax_rs]
            refine s_if_eq 325 317 rfl rfl (by decide) (fun c5 => ?_) (fun c5 => ?_)
            -- Mod_next 317: branch 325 317
            · rw [bi_0] at c5
              have ht : tk_ (tb_ f2 n) p = (5, q0, q0 + 1) := by unfold tk_; rw [hq0, if_neg c2, if_neg c3, if_neg nm, if_neg (fun w => c5 (by rw [w]; decide)), if_neg (fun w => c4 (by rw [w]; decide))]
              exact fin _ 5 _ _ ht rfl rfl (fun _ w => absurd rfl w) (fun w => absurd (show (5 : Nat) = 1 from w) (by decide)) (fun w => absurd (show (5 : Nat) = 2 from w) (by decide))
            · rw [bi_0, Classical.not_not] at c5
              have ht : tk_ (tb_ f2 n) p = (4, q0, q0 + 1) := by unfold tk_; rw [hq0, if_neg c2, if_neg c3, if_neg nm, if_pos (Int32.le_antisymm c5.2 c5.1)]
              refine s_aload_n 318 rfl rfl rfl ?_
              refine s_iconst 4 319 rfl rfl (by decide) ?_
              refine s_putfield 12 38 (.int) 322 rfl rfl fp_Mod_239 rfl (Nat.le_of_ble_eq_true rfl) ⟨rfl, rfl⟩ (fun h => absurd h (by decide)) ?_
              -- Mod_next 322: end
              rw [ax_pp]
              refine s_inc1 _ 325 rfl rfl rfl rfl ?_
              -- Mod_next 325: end
              rw [inc1]
              exact fin _ 4 _ _ ht rfl rfl (fun _ _ => rfl) (fun w => absurd (show (4 : Nat) = 1 from w) (by decide)) (fun w => absurd (show (4 : Nat) = 2 from w) (by decide))
          · rw [bi_0, Classical.not_not] at c4
            exact quotes c2 c3 qn (Int32.le_antisymm c4.2 c4.1)
        · rw [bi_0, Classical.not_not] at c3
          exact digits c2 c3
      · rw [bi_0, Classical.not_not] at c2
        refine s_aload_n 67 rfl rfl rfl ?_
        refine s_iconst 1 68 rfl rfl (by decide) ?_
        refine s_putfield 12 38 (.int) 71 rfl rfl fp_Mod_239 rfl (Nat.le_of_ble_eq_true rfl) ⟨rfl, rfl⟩ (fun h => absurd h (by decide)) ?_
        -- Mod_next 71: end
        rw [ax_pp]
        exact words c2
    · have c1 : q0 = n := nn_eq c1
      have tm : tb_ f2 n q0 = -1 := tb_m1 (by omega)
      have ht : tk_ (tb_ f2 n) p = (0, q0, q0 + 1) := by unfold tk_; rw [hq0, tm]; rfl
      refine s_aload_n 47 rfl rfl rfl ?_
      refine s_iconst 0 48 rfl rfl (by decide) ?_
      refine s_putfield 12 38 (.int) 51 rfl rfl fp_Mod_239 rfl (Nat.le_of_ble_eq_true rfl) ⟨rfl, rfl⟩ (fun h => absurd h (by decide)) ?_
      -- Mod_next 51: end
      rw [ax_pp]
      refine s_goto 325 rfl (by decide) ?_
      -- Mod_next 325: end
      exact fin _ 0 _ _ ht rfl rfl (fun w => absurd rfl w) (fun w => absurd (show (0 : Nat) = 1 from w) (by decide)) (fun w => absurd (show (0 : Nat) = 2 from w) (by decide))
  have loop1 : ∀ (d q : Nat), q ≤ n → n < q + d → ru_ (tb_ f2 n) 32 32 d q = q0 → ax_G g mt_Mod_next (h + 2) 0 0 5 [.ref 143, .int (nI q)] [] M Q := by
    intro d
    induction d with
    | zero => intro q h1 h2; omega
    | succ d ih =>
      intro q h1 h2 e
      rw [ru_] at e
      refine s_aload_n 6 rfl rfl rfl ?_
      refine s_iload_n 7 rfl rfl rfl ?_
      refine s_bipush 32 9 rfl rfl (by decide) ?_
      refine s_bipush 32 11 rfl rfl (by decide) ?_
      refine c_callV3 (h+1) 14 rfl rfl mv_Mod_228 (by omega) (Nat.le_of_ble_eq_true rfl) (Nat.le_of_ble_eq_true rfl) h_this rfl rfl ?_
      -- Mod_next 14: call Mod_isAt
      refine m_Mod_isAt (h := h) (nn := 0) h_this h_text hn (by omega) (by decide) ?_
      dsimp only [ax_rs]
      refine s_if_eq 23 17 rfl rfl (by decide) (fun c1 => ?_) (fun c1 => ?_)
      -- Mod_next 17: branch 23 17
      · rw [bi_0] at c1
        rw [if_neg c1] at e
        rw [e]
        exact rest
      · rw [bi_0, Classical.not_not] at c1
        rw [if_pos c1] at e
        have qn := tb_ge (f := f2) (n := n) (by decide) c1.1
        refine s_inc1 _ 20 rfl rfl rfl rfl ?_
        refine s_goto 5 rfl (by decide) ?_
        -- Mod_next 5: end
        rw [inc1]
        exact ih (q + 1) (by omega) (by omega) e
  refine s_aload_n 1 rfl rfl rfl ?_
  refine s_getfield 12 40 4 rfl rfl fl_Mod_225 h_this rfl ?_
  refine s_ist1 5 rfl rfl rfl ?_
  -- Mod_next 5: end
  exact loop1 200 p hp (by omega) hq0
end MNEXT
