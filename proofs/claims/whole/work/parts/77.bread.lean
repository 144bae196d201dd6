/-! both: read -/
theorem ro_vs {T : Nat → Int32} : ∀ d k p vs vs2, (ro_ T d k p vs).1 = (ro_ T d k p vs2).1 ∧ (ro_ T d k p vs).2.1 = (ro_ T d k p vs2).2.1 ∧ ((ro_ T d k p vs).1 = true → ∀ j, j < k + d → (j < k → vs j = vs2 j) → (ro_ T d k p vs).2.2 j = (ro_ T d k p vs2).2.2 j) := by
  intro d
  induction d with
  | zero => intro k p vs vs2; exact ⟨rfl, rfl, fun _ j hj hh => hh (by omega)⟩
  | succ d ih =>
    intro k p vs vs2
    rw [ro_, ro_]
    by_cases z : (rf_ T k p).1 = true
    · rw [if_pos z, if_pos z]
      obtain ⟨a1, a2, a3⟩ := ih (k + 1) ((rf_ T k p).2.1 + 1) (upd vs k (rf_ T k p).2.2) (upd vs2 k (rf_ T k p).2.2)
      refine ⟨a1, a2, fun q j hj hh => a3 q j (by omega) (fun hk => ?_)⟩
      unfold upd
      by_cases w : j = k
      · rw [if_pos w, if_pos w]
      · rw [if_neg w, if_neg w]
        exact hh (by omega)
    · rw [if_neg z, if_neg z]
      exact ⟨rfl, rfl, fun q => (by cases q)⟩
theorem cr_vs {T : Nat → Int32} {n : Nat} {told : (Nat → Int32) → Bool} (ht : ∀ v w, (∀ j, j < 4 → v j = w j) → told v = told w) : ∀ d p c vs vs2, cr_ T n told d p c vs = cr_ T n told d p c vs2 := by
  intro d
  induction d with
  | zero => intro p c vs vs2; rfl
  | succ d ih =>
    intro p c vs vs2
    obtain ⟨a1, a2, a3⟩ := ro_vs (T := T) 4 0 p vs vs2
    rw [cr_, cr_]
    by_cases z : p < n
    · rw [if_pos z, if_pos z, a1, a2]
      by_cases w : (ro_ T 4 0 p vs2).1 = true
      · rw [if_pos w, if_pos w, ht _ (ro_ T 4 0 p vs2).2.2 (fun j hj => a3 (a1.trans w) j (by omega) (fun q => by omega))]
        exact ih _ _ _ _
      · rw [if_neg w, if_neg w]
    · rw [if_neg z, if_neg z]
theorem rf_gt {T : Nat → Int32} {k p : Nat} : (dg_ T p = true → p < (rf_ T k p).2.1) ∧ (dg_ T p = false → (rf_ T k p).2.1 = p) := by
  have ge : ∀ d p v, p ≤ (rd_ T d p v).1 := by
    intro d
    induction d with
    | zero => intro p v; exact Nat.le_refl _
    | succ d ih =>
      intro p v
      rw [rd_]
      split
      · have := ih (p + 1) (v * 10 + T p - 48)
        omega
      · exact Nat.le_refl _
  have gt : ∀ d v, dg_ T p = true → p < (rd_ T (d + 1) p v).1 := by
    intro d v q
    rw [rd_, if_pos q]
    have := ge d (p + 1) (v * 10 + T p - 48)
    omega
  have eq : ∀ d v, dg_ T p = false → (rd_ T (d + 1) p v).1 = p := by
    intro d v q
    rw [rd_, if_neg (by rw [q]; decide)]
  unfold rf_
  by_cases z : T p = 48
  · rw [if_pos z]
    exact ⟨gt 0 0, eq 0 0⟩
  · rw [if_neg z]
    exact ⟨gt 3 0, eq 3 0⟩
section MR2
variable {g : ax_Y} {M : ax_M} {Q : Option Value → ax_M → Prop} {h n : Nat} {s : Sta} {dr pa cm os gm tk pl bh : Int32} {va : Int64} {iw od : Int32} {f2 : Nat → Int32}
theorem rd_fields {z2 : Value} (h2 : z2.category = 1) (hK : KM M s (nI n) dr pa cm os gm tk pl bh va iw od) (h_text : iA M 144 160 f2) (hn : n ≤ 160) : ∀ (d k p : Nat) (ws : Nat → Int32) (z5 z6 z7 : Value), z5.category = 1 → z6.category = 1 → z7.category = 1 → k + d = 4 → p ≤ n → ((ro_ (tb_ f2 n) d k p ws).1 = true → ∀ z4 z5 z6 z7 : Value, z4.category = 1 → z5.category = 1 → z6.category = 1 → z7.category = 1 → ax_G g mt_Mod_read (h + 2) 0 0 185 [.ref 143, .int (nI (ro_ (tb_ f2 n) d k p ws).2.1), z2, .int 1, z4, z5, z6, z7] [] (iP M 183 4 (ro_ (tb_ f2 n) d k p ws).2.2) Q) → ((ro_ (tb_ f2 n) d k p ws).1 = false → ∀ (ws' : Nat → Int32) (z4 z5 z6 z7 : Value), z4.category = 1 → z5.category = 1 → z6.category = 1 → z7.category = 1 → ax_G g mt_Mod_read (h + 2) 0 0 185 [.ref 143, .int (nI (ro_ (tb_ f2 n) d k p ws).2.1), z2, .int 0, z4, z5, z6, z7] [] (iP M 183 4 ws') Q) → ax_G g mt_Mod_read (h + 2) 0 0 21 [.ref 143, .int (nI p), z2, .int 1, .int (nI k), z5, z6, z7] [] (iP M 183 4 ws) Q := by
  intro d
  induction d with
  | zero =>
    intro k p ws z5 z6 z7 w5 w6 w7 hk hp h1 h0
    obtain rfl : k = 4 := by omega
    refine s_iload 23 rfl rfl rfl ?_
    refine s_iconst 4 24 rfl rfl (by decide) ?_
    refine s_icmp_ge 185 27 rfl rfl (by decide) (fun c1 => ?_) (fun c1 => ?_)
    -- Mod_read 27: branch 185 27
    · exact h1 rfl _ _ _ _ rfl w5 w6 w7
    · exact absurd (by decide) c1
  | succ d ih =>
    intro k p ws z5 z6 z7 w5 w6 w7 hk hp h1 h0
    obtain ⟨r1, r2, r3⟩ := rf_n (f := f2) (n := n) (k := k) (by omega) hp
    obtain ⟨g1, g2⟩ := rf_gt (T := tb_ f2 n) (k := k) (p := p)
    obtain ⟨-, e2, -⟩ := zs_b k (by omega)
    have hK2 : KM (iP M 183 4 ws) s (nI n) dr pa cm os gm tk pl bh va iw od := hK.mv hK.this (fun k hk => ax_ne (by omega) rfl)
    rw [ro_] at h1 h0
    have e0 : (rf_ (tb_ f2 n) 0 p).2 = (rf_ (tb_ f2 n) k p).2 := rfl
    -- behind the sign
    have last : ∀ (b : Bool) (z7 : Value), z7.category = 1 → b = (rf_ (tb_ f2 n) k p).1 → ax_G g mt_Mod_read (h + 2) 0 0 157 [.ref 143, .int (nI (rf_ (tb_ f2 n) k p).2.1), z2, .int 1, .int (nI k), .int (nI p), .int (rf_ (tb_ f2 n) k p).2.2, z7] [.int (if b then 1 else 0)] (iP M 183 4 ws) Q := by
      intro b z7 w7 hb
      refine s_ist3 158 rfl rfl h2 ?_
      refine s_iload_n 159 rfl rfl rfl ?_
      refine s_iload_n 160 rfl rfl rfl ?_
      refine s_if_eq 167 163 rfl rfl (by decide) (fun c1 => ?_) (fun c1 => ?_)
      -- Mod_read 163: branch 167 163
      · rw [i01] at c1
        subst c1
        rw [if_neg (by rw [← hb]; decide)] at h0
        refine s_iconst 0 168 rfl rfl (by decide) ?_
        refine s_iadd 169 rfl rfl ?_
        -- Mod_read 169: end
        rw [show nI (rf_ (tb_ f2 n) k p).2.1 + 0 = nI ((rf_ (tb_ f2 n) k p).2.1 + 0) from nI_add _ 0, Nat.add_zero]
        refine s_ist1 170 rfl rfl rfl ?_
        refine s_aload_n 171 rfl rfl rfl ?_
        refine s_getfield 12 57 174 rfl rfl fl_Mod_129 hK.this rfl ?_
        refine s_iload 176 rfl rfl rfl ?_
        refine s_iload 178 rfl rfl rfl ?_
        refine s_iastore (k) 179 rfl rfl rfl rfl (by omega) (by decide) ?_
        refine s_inc4 _ 182 rfl rfl rfl rfl ?_
        refine s_goto 21 rfl (by decide) ?_
        -- Mod_read 21: end
        unfold iP
        rw [ax_pp, inc1]
        refine s_iload 23 rfl rfl rfl ?_
        refine s_iconst 4 24 rfl rfl (by decide) ?_
        refine s_icmp_ge 185 27 rfl rfl (by decide) (fun c2 => ?_) (fun c2 => ?_)
        -- Mod_read 27: branch 185 27
        · exact h0 rfl _ _ _ _ _ rfl rfl rfl w7
        · refine s_iload_n 28 rfl rfl rfl ?_
          refine s_if_eq 185 31 rfl rfl (by decide) (fun c3 => ?_) (fun c3 => ?_)
          -- Mod_read 31: branch 185 31
          · exact h0 rfl _ _ _ _ _ rfl rfl rfl w7
          · exact absurd rfl c3
      · rw [i01] at c1
        have c1 : b = true := by simpa using c1
        subst c1
        rw [if_pos hb.symm] at h0 h1
        have lt := r3 hb.symm
        refine s_iconst 1 164 rfl rfl (by decide) ?_
        refine s_goto 168 rfl (by decide) ?_
        refine s_iadd 169 rfl rfl ?_
        -- Mod_read 169: end
        rw [nI_1]
        refine s_ist1 170 rfl rfl rfl ?_
        refine s_aload_n 171 rfl rfl rfl ?_
        refine s_getfield 12 57 174 rfl rfl fl_Mod_129 hK.this rfl ?_
        refine s_iload 176 rfl rfl rfl ?_
        refine s_iload 178 rfl rfl rfl ?_
        refine s_iastore (k) 179 rfl rfl rfl rfl (by omega) (by decide) ?_
        refine s_inc4 _ 182 rfl rfl rfl rfl ?_
        refine s_goto 21 rfl (by decide) ?_
        -- Mod_read 21: end
        unfold iP
        rw [ax_pp, inc1]
        exact ih (k + 1) _ _ _ _ _ rfl rfl w7 (by omega) (by omega) h1 h0
    -- the sign
    have sign : ∀ z7 : Value, z7.category = 1 → ax_G g mt_Mod_read (h + 2) 0 0 132 [.ref 143, .int (nI (rf_ (tb_ f2 n) k p).2.1), z2, .int 1, .int (nI k), .int (nI p), .int (rf_ (tb_ f2 n) k p).2.2, z7] [.int (nI (zs_ k))] (iP M 183 4 ws) Q := by
      intro z7 _
      refine s_ist7 134 rfl rfl rfl ?_
      refine s_iload_n 135 rfl rfl rfl ?_
      refine s_iload 137 rfl rfl rfl ?_
      refine s_icmp_le 156 140 rfl rfl (by decide) (fun c1 => ?_) (fun c1 => ?_)
      -- Mod_read 140: branch 156 140
      · have c1 := nn_le c1
        have df : dg_ (tb_ f2 n) p = false := by
          cases e : dg_ (tb_ f2 n) p with
          | false => rfl
          | true => have := g1 e; omega
        refine s_iconst 0 157 rfl rfl (by decide) ?_
        -- Mod_read 157: end
        refine last false _ rfl ?_
        unfold rf_
        rw [df]
        rfl
      · have c1 := nn_nle c1
        have dt : dg_ (tb_ f2 n) p = true := by
          cases e : dg_ (tb_ f2 n) p with
          | true => rfl
          | false => have := g2 e; omega
        refine s_aload_n 141 rfl rfl rfl ?_
        refine s_iload_n 142 rfl rfl rfl ?_
        refine s_iload 144 rfl rfl rfl ?_
        refine s_iload 146 rfl rfl rfl ?_
        refine c_callV3 (h+1) 149 rfl rfl mv_Mod_228 (by omega) (Nat.le_of_ble_eq_true rfl) (Nat.le_of_ble_eq_true rfl) hK.this rfl rfl ?_
        -- Mod_read 149: call Mod_isAt
        refine m_Mod_isAt (h := h) (nn := 0) (M := iP M 183 4 ws) hK.this h_text hn (by omega) (by rw [Int32.le_iff_toInt_le, nI_toInt (by omega)]; show (0 : Int) ≤ _; omega) ?_
        dsimp only [ax_rs]
        have ee : (nI (zs_ k) ≤ tb_ f2 n (rf_ (tb_ f2 n) k p).2.1 ∧ tb_ f2 n (rf_ (tb_ f2 n) k p).2.1 ≤ nI (zs_ k)) ↔ (rf_ (tb_ f2 n) k p).1 = true := by
          constructor
          · intro q
            exact Bool.and_eq_true_iff.mpr ⟨dt, decide_eq_true (Int32.le_antisymm q.2 q.1)⟩
          · intro q
            have q := of_decide_eq_true (Bool.and_eq_true_iff.mp q).2
            have q : tb_ f2 n (rf_ (tb_ f2 n) k p).2.1 = nI (zs_ k) := q
            rw [q]
            exact ⟨Int32.le_refl _, Int32.le_refl _⟩
        refine s_if_eq 156 152 rfl rfl (by decide) (fun c2 => ?_) (fun c2 => ?_)
        -- Mod_read 152: branch 156 152
        · rw [bi_0, ee] at c2
          refine s_iconst 0 157 rfl rfl (by decide) ?_
          -- Mod_read 157: end
          exact last false _ rfl (by simpa using c2)
        · rw [bi_0, Classical.not_not, ee] at c2
          refine s_iconst 1 153 rfl rfl (by decide) ?_
          refine s_goto 157 rfl (by decide) ?_
          -- Mod_read 157: end
          exact last true _ rfl c2.symm
    refine s_iload 23 rfl rfl rfl ?_
    refine s_iconst 4 24 rfl rfl (by decide) ?_
    refine s_icmp_ge 185 27 rfl rfl (by decide) (fun c1 => ?_) (fun c1 => ?_)
    -- Mod_read 27: branch 185 27
    · exact absurd (nn_le (a := 4) c1) (by omega)
    · refine s_iload_n 28 rfl rfl rfl ?_
      refine s_if_eq 185 31 rfl rfl (by decide) (fun c2 => ?_) (fun c2 => ?_)
      -- Mod_read 31: branch 185 31
      · exact absurd c2 (by decide)
      · refine s_iload_n 32 rfl rfl rfl ?_
        refine s_ist5 34 rfl rfl rfl ?_
        refine s_iconst 0 35 rfl rfl (by decide) ?_
        refine s_ist6 37 rfl rfl rfl ?_
        -- Mod_read 37: end
        refine rd_loop (h := h) (at2 := 0) h2 rfl rfl hK2 h_text hn hp ?_
        rw [e0]
        rcases (by omega : k = 0 ∨ k = 1 ∨ k = 2 ∨ k = 3) with rfl | rfl | rfl | rfl
        · refine s_iload 100 rfl rfl rfl ?_
          refine s_if_ne 108 103 rfl rfl (by decide) (fun c3 => ?_) (fun c3 => ?_)
          -- Mod_read 103: branch 108 103
          · exact absurd rfl c3
          · refine s_bipush 64 105 rfl rfl (by decide) ?_
            refine s_goto 132 rfl (by decide) ?_
            -- Mod_read 132: end
            exact sign _ w7
        · refine s_iload 100 rfl rfl rfl ?_
          refine s_if_ne 108 103 rfl rfl (by decide) (fun c4 => ?_) (fun c4 => ?_)
          -- Mod_read 103: branch 108 103
          · refine s_iload 110 rfl rfl rfl ?_
            refine s_iconst 1 111 rfl rfl (by decide) ?_
            refine s_icmp_ne 119 114 rfl rfl (by decide) (fun c5 => ?_) (fun c5 => ?_)
            -- Mod_read 114: branch 119 114
            · exact absurd rfl c5
            · refine s_bipush 32 116 rfl rfl (by decide) ?_
              refine s_goto 132 rfl (by decide) ?_
              -- Mod_read 132: end
              exact sign _ w7
          · exact absurd c4 (by decide)
        · refine s_iload 100 rfl rfl rfl ?_
          refine s_if_ne 108 103 rfl rfl (by decide) (fun c6 => ?_) (fun c6 => ?_)
          -- Mod_read 103: branch 108 103
          · refine s_iload 110 rfl rfl rfl ?_
            refine s_iconst 1 111 rfl rfl (by decide) ?_
            refine s_icmp_ne 119 114 rfl rfl (by decide) (fun c7 => ?_) (fun c7 => ?_)
            -- Mod_read 114: branch 119 114
            · refine s_iload 121 rfl rfl rfl ?_
              refine s_iconst 2 122 rfl rfl (by decide) ?_
              refine s_icmp_ne 130 125 rfl rfl (by decide) (fun c8 => ?_) (fun c8 => ?_)
              -- Mod_read 125: branch 130 125
              · exact absurd rfl c8
              · refine s_bipush 47 127 rfl rfl (by decide) ?_
                refine s_goto 132 rfl (by decide) ?_
                -- Mod_read 132: end
                exact sign _ w7
            · exact absurd c7 (by decide)
          · exact absurd c6 (by decide)
        · refine s_iload 100 rfl rfl rfl ?_
          refine s_if_ne 108 103 rfl rfl (by decide) (fun c9 => ?_) (fun c9 => ?_)
          -- Mod_read 103: branch 108 103
          · refine s_iload 110 rfl rfl rfl ?_
            refine s_iconst 1 111 rfl rfl (by decide) ?_
            refine s_icmp_ne 119 114 rfl rfl (by decide) (fun c10 => ?_) (fun c10 => ?_)
            -- Mod_read 114: branch 119 114
            · refine s_iload 121 rfl rfl rfl ?_
              refine s_iconst 2 122 rfl rfl (by decide) ?_
              refine s_icmp_ne 130 125 rfl rfl (by decide) (fun c11 => ?_) (fun c11 => ?_)
              -- Mod_read 125: branch 130 125
              · refine s_bipush 59 132 rfl rfl (by decide) ?_
                -- Mod_read 132: end
                exact sign _ w7
              · exact absurd c11 (by decide)
            · exact absurd c10 (by decide)
          · exact absurd c9 (by decide)
theorem d_read {vs : Nat → Int32} {told : (Nat → Int32) → Bool} (hK : KM M s (nI n) dr pa cm os gm tk pl bh va iw od) (h_text : iA M 144 160 f2) (hn : n ≤ 160) (h_four : iA M 183 4 vs) (ht : ∀ v, told v = true ↔ ∃ a, a < sAl s ∧ sSt s a = 0 ∧ sKi s a = v 0 ∧ sLi s a = v 1 ∧ sPp s a = v 2 ∧ sQq s a = v 3) (hq : ∀ vs', Q (some (.int (cr_ (tb_ f2 n) n told (n + 1) 0 0 vs))) (md_m (iP M 183 4 vs') (nI 0) (nI (sBl s)) (nI (sLn s)) dr (nI (sAl s)) (nI (sRu s)) (sPv s) (nI (sSi s)) pa cm os gm tk pl bh va iw od)) : ax_G g mt_Mod_read (h + 2) 0 0 0 [.ref 143, .float 0, .float 0, .float 0, .float 0, .float 0, .float 0, .float 0] [] M Q := by
  have fin1 : ∀ (p c : Nat) (ws : Nat → Int32) (z4 z5 z6 z7 : Value), (∀ vs', Q (some (.int (nI c))) (md_m (iP M 183 4 vs') (nI 0) (nI (sBl s)) (nI (sLn s)) dr (nI (sAl s)) (nI (sRu s)) (sPv s) (nI (sSi s)) pa cm os gm tk pl bh va iw od)) → ax_G g mt_Mod_read (h + 2) 0 0 207 [.ref 143, .int (nI p), .int (nI c), .int 1, z4, z5, z6, z7] [] (iP M 183 4 ws) Q := by
    intro p c ws z4 z5 z6 z7 hq
    refine s_aload_n 208 rfl rfl rfl ?_
    refine s_iconst 0 209 rfl rfl (by decide) ?_
    refine s_putfield 12 1 (.int) 212 rfl rfl fp_Mod_138 hK.this (Nat.le_of_ble_eq_true rfl) ⟨rfl, rfl⟩ (fun h => absurd h (by decide)) ?_
    refine s_iload_n 213 rfl rfl rfl ?_
    refine s_if_eq 220 216 rfl rfl (by decide) (fun c1 => ?_) (fun c1 => ?_)
    -- Mod_read 216: branch 220 216
    · exact absurd c1 (by decide)
    · refine s_iload_n 217 rfl rfl rfl ?_
      refine s_goto 224 rfl (by decide) ?_
      -- Mod_read 224: ireturn
      exact s_ireturn rfl .int rfl rfl (hq ws)
  have fin0 : ∀ (p : Nat) (z2 : Value) (ws : Nat → Int32) (z4 z5 z6 z7 : Value), (∀ vs', Q (some (.int (-10 - nI p))) (md_m (iP M 183 4 vs') (nI 0) (nI (sBl s)) (nI (sLn s)) dr (nI (sAl s)) (nI (sRu s)) (sPv s) (nI (sSi s)) pa cm os gm tk pl bh va iw od)) → ax_G g mt_Mod_read (h + 2) 0 0 207 [.ref 143, .int (nI p), z2, .int 0, z4, z5, z6, z7] [] (iP M 183 4 ws) Q := by
    intro p z2 ws z4 z5 z6 z7 hq
    refine s_aload_n 208 rfl rfl rfl ?_
    refine s_iconst 0 209 rfl rfl (by decide) ?_
    refine s_putfield 12 1 (.int) 212 rfl rfl fp_Mod_138 hK.this (Nat.le_of_ble_eq_true rfl) ⟨rfl, rfl⟩ (fun h => absurd h (by decide)) ?_
    refine s_iload_n 213 rfl rfl rfl ?_
    refine s_if_eq 220 216 rfl rfl (by decide) (fun c2 => ?_) (fun c2 => ?_)
    -- Mod_read 216: branch 220 216
    · refine s_bipush (-10) 222 rfl rfl (by decide) ?_
      refine s_iload_n 223 rfl rfl rfl ?_
      refine s_isub 224 rfl rfl ?_
      -- Mod_read 224: ireturn
      exact s_ireturn rfl .int rfl rfl (hq ws)
    · exact absurd rfl c2
  have loop : ∀ (d p c : Nat) (ws : Nat → Int32) (z4 z5 z6 z7 : Value), z4.category = 1 → z5.category = 1 → z6.category = 1 → z7.category = 1 → p ≤ n → n < p + d → (∀ vs', Q (some (.int (cr_ (tb_ f2 n) n told d p c ws))) (md_m (iP M 183 4 vs') (nI 0) (nI (sBl s)) (nI (sLn s)) dr (nI (sAl s)) (nI (sRu s)) (sPv s) (nI (sSi s)) pa cm os gm tk pl bh va iw od)) → ax_G g mt_Mod_read (h + 2) 0 0 6 [.ref 143, .int (nI p), .int (nI c), .int 1, z4, z5, z6, z7] [] (iP M 183 4 ws) Q := by
    intro d
    induction d with
    | zero => intro p c ws z4 z5 z6 z7 _ _ _ _ hp hd; omega
    | succ d ih =>
      intro p c ws z4 z5 z6 z7 w4 w5 w6 w7 hp hd hq
      rw [cr_] at hq
      have hK2 : ∀ ws, KM (iP M 183 4 ws) s (nI n) dr pa cm os gm tk pl bh va iw od := fun ws => hK.mv hK.this (fun k hk => ax_ne (by omega) rfl)
      obtain ⟨r1, r2, r3⟩ := ro_n (f := f2) (n := n) 4 0 p ws (by omega) hp
      refine s_iload_n 7 rfl rfl rfl ?_
      refine s_if_eq 207 10 rfl rfl (by decide) (fun c1 => ?_) (fun c1 => ?_)
      -- Mod_read 10: branch 207 10
      · exact absurd c1 (by decide)
      · refine s_iload_n 11 rfl rfl rfl ?_
        refine s_aload_n 12 rfl rfl rfl ?_
        refine s_getfield 12 1 15 rfl rfl fl_Mod_138 hK.this rfl ?_
        refine s_icmp_ge 207 18 rfl rfl (by decide) (fun c2 => ?_) (fun c2 => ?_)
        -- Mod_read 18: branch 207 18
        · rw [if_neg (by have := nn_le c2; omega)] at hq
          exact fin1 p c ws _ _ _ _ hq
        · have c2 := nn_nle c2
          rw [if_pos c2] at hq
          refine s_iconst 0 19 rfl rfl (by decide) ?_
          refine s_ist4 21 rfl rfl rfl ?_
          -- Mod_read 21: end
          refine rd_fields (h := h) rfl hK h_text hn 4 0 p ws _ _ _ w5 w6 w7 (by omega) hp (fun e y4 y5 y6 y7 v4 v5 v6 v7 => ?_) (fun e ws' y4 y5 y6 y7 v4 v5 v6 v7 => ?_)
          · rw [if_pos e] at hq
            have r3 := r3 e
            generalize ro_ (tb_ f2 n) 4 0 p ws = R at hq r1 r2 r3 ⊢
            have tail : ∀ b : Bool, b = told R.2.2 → ax_G g mt_Mod_read (h + 2) 0 0 202 [.ref 143, .int (nI R.2.1), .int (nI c), .int 1, y4, y5, y6, y7] [.int (if b then 1 else 0), .int (nI c)] (iP M 183 4 R.2.2) Q := by
              intro b hb
              rw [← hb] at hq
              refine s_iadd 203 rfl rfl ?_
              -- Mod_read 203: end
              rw [show nI c + (if b = true then 1 else 0) = nI (c + if b = true then 1 else 0) by
                cases b
                · exact nI_add _ 0
                · exact nI_1 _]
              refine s_ist2 204 rfl rfl rfl ?_
              refine s_goto 6 rfl (by decide) ?_
              -- Mod_read 6: end
              exact ih _ _ _ _ _ _ _ v4 v5 v6 v7 r1 (by omega) hq
            refine s_iload_n 186 rfl rfl rfl ?_
            refine s_iload_n 187 rfl rfl rfl ?_
            refine s_if_eq 201 190 rfl rfl (by decide) (fun c3 => ?_) (fun c3 => ?_)
            -- Mod_read 190: branch 201 190
            · exact absurd c3 (by decide)
            · refine s_aload_n 191 rfl rfl rfl ?_
              refine c_callV0 (h+1) 194 rfl rfl mv_Mod_356 (by omega) (Nat.le_of_ble_eq_true rfl) (Nat.le_of_ble_eq_true rfl) hK.this rfl rfl ?_
              -- Mod_read 194: call Mod_isTold
              refine m_Mod_isTold (a := 0) (hK2 R.2.2) rfl (fun b hb => ?_)
              dsimp only [ax_rs]
              rw [← ht] at hb
              refine s_if_eq 201 197 rfl rfl (by decide) (fun c4 => ?_) (fun c4 => ?_)
              -- Mod_read 197: branch 201 197
              · rw [i01] at c4
                refine s_iconst 0 202 rfl rfl (by decide) ?_
                -- Mod_read 202: end
                exact tail false (by
                  cases e2 : told R.2.2 with
                  | false => rfl
                  | true => rw [hb.mpr e2] at c4; cases c4)
              · rw [i01] at c4
                refine s_iconst 1 198 rfl rfl (by decide) ?_
                refine s_goto 202 rfl (by decide) ?_
                -- Mod_read 202: end
                exact tail true (by rw [hb.mp (by simpa using c4)])
          · rw [if_neg (by rw [e]; decide)] at hq
            refine s_iload_n 186 rfl rfl rfl ?_
            refine s_iload_n 187 rfl rfl rfl ?_
            refine s_if_eq 201 190 rfl rfl (by decide) (fun c5 => ?_) (fun c5 => ?_)
            -- Mod_read 190: branch 201 190
            · refine s_iconst 0 202 rfl rfl (by decide) ?_
              refine s_iadd 203 rfl rfl ?_
              -- Mod_read 203: end
              rw [show nI c + 0 = nI (c + 0) from nI_add _ 0, Nat.add_zero]
              refine s_ist2 204 rfl rfl rfl ?_
              refine s_goto 6 rfl (by decide) ?_
              -- Mod_read 6: end
              refine s_iload_n 7 rfl rfl rfl ?_
              refine s_if_eq 207 10 rfl rfl (by decide) (fun c6 => ?_) (fun c6 => ?_)
              -- Mod_read 10: branch 207 10
              · exact fin0 _ _ ws' _ _ _ _ hq
              · exact absurd rfl c6
            · exact absurd rfl c5
  refine s_iconst 0 1 rfl rfl (by decide) ?_
  refine s_ist1 2 rfl rfl rfl ?_
  refine s_iconst 0 3 rfl rfl (by decide) ?_
  refine s_ist2 4 rfl rfl rfl ?_
  refine s_iconst 1 5 rfl rfl (by decide) ?_
  refine s_ist3 6 rfl rfl rfl ?_
  -- Mod_read 6: end
  have h0 := loop (n + 1) 0 0 vs (.float 0) (.float 0) (.float 0) (.float 0) rfl rfl rfl rfl (Nat.zero_le _) (by omega) hq
  unfold iP at h0
  rw [ax_id h_four] at h0
  exact h0
end MR2
section BREAD
variable {g : ax_Y} {M : ax_M} {Q : Option Value → ax_M → Prop} {h n : Nat} {dw nw : Nat} {bl pa : Int32} {f1 f2 : Nat → Int32}
theorem c_read {al : Nat} {li ki pp qq st : Nat → Int32} {vs : Nat → Int32} {z0 : Int32} {told : (Nat → Int32) → Bool} (h_this : oC M 0 11 (tp_f dw nw bl pa)) (h73 : oC M 73 3 [.ref 74, .int z0]) (h74 : iA M 74 4 vs) (h_text : oC M 1 7 [.ref 2, .int (nI n)]) (h_bytes : bA M 2 160 f1) (hb : by_ n f1 f2) (hn : n ≤ 160) (h_alarms : oC M 9 0 (al_f al)) (h_line : iA M 10 50 li) (h_kind : iA M 11 50 ki) (h_p : iA M 13 50 pp) (h_q : iA M 14 50 qq) (h_state : iA M 15 50 st) (hal : al ≤ 50) (ht : ∀ v, told v = true ↔ ∃ i, i < al ∧ (st i ≠ 2 ∧ li i = v 1 ∧ ki i = v 0) ∧ (∀ j, j < i → ¬ (st j ≠ 2 ∧ li j = v 1 ∧ ki j = v 0)) ∧ st i = 0 ∧ pp i = v 2 ∧ qq i = v 3) (hq : ∀ vs' p, Q (some (.int (cr_ (tb_ f2 n) n told (n + 1) 0 0 vs))) (oP (rl_m M vs' p) 1 7 [.ref 2, .int (nI 0)])) : ax_G g mt_Top_read (h + 6) 0 0 0 [.ref 0, .float 0] [] M Q := by
  refine s_aload_n 1 rfl rfl rfl ?_
  refine s_getfield 11 7 4 rfl rfl fl_Top_59 h_this rfl ?_
  refine s_aload_n 5 rfl rfl rfl ?_
  refine s_getfield 11 0 8 rfl rfl fl_Top_14 h_this rfl ?_
  refine s_aload_n 9 rfl rfl rfl ?_
  refine s_getfield 11 3 12 rfl rfl fl_Top_31 h_this rfl ?_
  refine c_callV2 (h+5) 15 rfl rfl mv_Top_322 (by omega) (Nat.le_of_ble_eq_true rfl) (Nat.le_of_ble_eq_true rfl) h73 rfl rfl ?_
  -- Top_read 15: call Lists_countTold
  refine m_Lists_countTold (h := h) (told := told) h73 h74 h_text h_bytes hb hn h_alarms h_line h_kind h_p h_q h_state hal ht (fun vs' p => ?_)
  dsimp only [ax_rs]
  refine s_ist1 16 rfl rfl rfl ?_
  refine s_aload_n 17 rfl rfl rfl ?_
  refine s_getfield 11 0 20 rfl rfl fl_Top_14 h_this rfl ?_
  refine c_callV0 (h+5) 23 rfl rfl mv_Top_229 (by omega) (Nat.le_of_ble_eq_true rfl) (Nat.le_of_ble_eq_true rfl) h_text rfl rfl ?_
  -- Top_read 23: call Row_clear
  refine m_Row_clear (a := 1) (b := 2) (n := n) h_text ?_
  dsimp only [ax_rs]
  refine s_iload_n 24 rfl rfl rfl ?_
  -- Top_read 24: ireturn
  exact s_ireturn rfl .int rfl rfl (hq vs' p)
theorem both_read : BI g (Rel g) mt_Top_read mt_Mod_read [] := by
  intro M hR
  have hR' := hR
  obtain ⟨s, t, dw, nw, gc, sl, n, pa, dr, cm, os, gm, tk, pl, bh, va, iw, od, hC, hM, hg, ⟨f1, f2, t1, t2, t3, t4, t5⟩, hL, hA, hF, hS, hO, hU, hH, hX, hz⟩ := hR.get
  obtain ⟨b1, b2, b3, b4, b5⟩ := hC.bd
  obtain ⟨q1, q2, q3, q4, q5, q6, q7⟩ := hg.sc
  obtain ⟨zz, h73⟩ := (hX.2.2.2.2.2.2.2.2.2.2.1 : ∃ z : Int32, oC M 73 3 [.ref 74, .int z])
  obtain ⟨v74, h74⟩ := (hX.2.2.2.2.2.2.2.2.2.2.2.1 : sI M 74 4)
  obtain ⟨v183, h183⟩ := (hX.2.2.2.2.2.2.2.2.2.2.2.2.2.2.2.2.2.2.2.2.2 : sI M 183 4)
  have hA' := hA
  obtain ⟨li, ki, wa, pp, qq, st, l2, k2, w2, p2, qq2, s2', ob, trr, pst, a1, a2, a3, a4, a5, a6, a7, a8, a9, a10, a11, a12, a13, a14, a15, a16, a17, a18, a19, a20, a21⟩ := hA'
  have dec : ∀ v : Nat → Int32, ∃ b : Bool, b = true ↔ ∃ a, a < sAl s ∧ st a = 0 ∧ ki a = v 0 ∧ li a = v 1 ∧ pp a = v 2 ∧ qq a = v 3 := by
    intro v
    by_cases z : ∃ a, a < sAl s ∧ st a = 0 ∧ ki a = v 0 ∧ li a = v 1 ∧ pp a = v 2 ∧ qq a = v 3
    · exact ⟨true, fun _ => z, fun _ => rfl⟩
    · exact ⟨false, fun q => (by cases q), fun q => absurd q z⟩
  obtain ⟨told, htd⟩ := Classical.axiomOfChoice dec
  have hc : ∀ v, told v = true ↔ ∃ i, i < sAl s ∧ (st i ≠ 2 ∧ li i = v 1 ∧ ki i = v 0) ∧ (∀ j, j < i → ¬ (st j ≠ 2 ∧ li j = v 1 ∧ ki j = v 0)) ∧ st i = 0 ∧ pp i = v 2 ∧ qq i = v 3 := by
    intro v
    rw [htd v]
    constructor
    · rintro ⟨a, h1, h2, h3, h4, h5, h6⟩
      refine ⟨a, h1, ⟨by rw [h2]; decide, h4, h3⟩, fun j hj q => ?_, h2, h5, h6⟩
      have := a20 j a (by omega) h1 q.1 (by rw [h2]; decide) (q.2.1.trans h4.symm) (q.2.2.trans h3.symm)
      omega
    · rintro ⟨a, h1, h2, -, h4, h5, h6⟩
      exact ⟨a, h1, h4, h2.2.2, h2.2.1, h5, h6⟩
  have g1 := iA_j hC.line a2
  have g2 := iA_j hC.kind a3
  have g3 := iA_j hC.p a5
  have g4 := iA_j hC.q a6
  have g5 := iA_j hC.state a7
  have hd : ∀ v, told v = true ↔ ∃ a, a < sAl t ∧ sSt t a = 0 ∧ sKi t a = v 0 ∧ sLi t a = v 1 ∧ sPp t a = v 2 ∧ sQq t a = v 3 := by
    intro v
    rw [htd v, q1]
    constructor
    · rintro ⟨a, h1, h2⟩
      obtain ⟨d1, d2, d3, d4, d5, d6⟩ := hg.al a h1
      refine ⟨a, h1, ?_⟩
      rw [d1, d2, d4, d5, d6, g1, g2, g3, g4, g5]
      exact h2
    · rintro ⟨a, h1, h2⟩
      obtain ⟨d1, d2, d3, d4, d5, d6⟩ := hg.al a h1
      refine ⟨a, h1, ?_⟩
      rw [d1, d2, d4, d5, d6, g1, g2, g3, g4, g5] at h2
      exact h2
  have tv : ∀ v w : Nat → Int32, (∀ j, j < 4 → v j = w j) → told v = told w := by
    intro v w e
    rw [Bool.eq_iff_iff, htd v, htd w, e 0 (by omega), e 1 (by omega), e 2 (by omega), e 3 (by omega)]
  refine c_read (h := 5) (told := told) hC.top h73 h74 t1 t2 t5 t4 a1 a2 a3 a5 a6 a7 b1 hc (fun vs' p => ?_)
  have hM2 : KM (oP (rl_m M vs' p) 1 7 [.ref 2, .int (nI 0)]) t (nI n) (nI dr) (nI pa) (nI cm) (nI os) gm tk pl bh va iw od := hM.mv hM.this (fun k hk => ax_ne (by omega) (ax_ne (by omega) (ax_ne (by omega) rfl)))
  refine ⟨_, rfl, ⟨_, hM.this⟩, d_read (h := 9) (told := told) hM2 t3 t4 h183 hd (fun ws => ?_)⟩
  rw [cr_vs tv (n + 1) 0 0 v183 v74]
  refine ⟨rfl, ?_⟩
  have key : ∀ k, ¬ (k = 1 ∨ k = 73 ∨ k = 74 ∨ k = 143 ∨ k = 183) → (md_m (iP (oP (rl_m M vs' p) 1 7 [.ref 2, .int (nI 0)]) 183 4 ws) (nI 0) (nI (sBl t)) (nI (sLn t)) (nI dr) (nI (sAl t)) (nI (sRu t)) (sPv t) (nI (sSi t)) (nI pa) (nI cm) (nI os) gm tk pl bh va iw od).2 k = M.2 k := fun k hk => ax_ne (by omega) (ax_ne (by omega) (ax_ne (by omega) (ax_ne (by omega) (ax_ne (by omega) rfl))))
  refine Rel.mk2 hg hC.top rfl ⟨f1, f2, rfl, t2, t3, by omega, fun j hj => absurd hj (Nat.not_lt_zero j)⟩ (hL.mv ?_) (hA.mv ?_) (hF.mv ?_) (hS.mv ?_) (hO.mv ?_) (hU.mv ?_) (hH.mv ?_) (hX.set (fun k hk => ?_)) hz
  case refine_8 =>
    by_cases e : k = 73 ∨ k = 74 ∨ k = 183
    · rcases e with rfl | rfl | rfl
      · exact Or.inr ⟨_, rfl⟩
      · exact Or.inr ⟨_, rfl⟩
      · exact Or.inr ⟨_, rfl⟩
    · exact Or.inl (key k (by omega))
  all_goals exact fun k hk => key k (by omega)
end BREAD
