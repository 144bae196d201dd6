/-! the order of alarms: Ranks.order, arrange -/
abbrev cKM (k : Nat) : Prop := k = 145 ∨ (155 ≤ k ∧ k ≤ 160) ∨ k = 162 ∨ k = 163 ∨ (166 ≤ k ∧ k ≤ 170)
theorem KM.mv {M N : ax_M} {s : Sta} {n dr pa cm os gm tk pl bh : Int32} {va : Int64} {iw od : Int32} {n' dr' pa' cm' os' gm' tk' pl' bh' : Int32} {va' : Int64} {iw' od' : Int32} (h : KM M s n dr pa cm os gm tk pl bh va iw od) (h1 : oC N 143 12 (md_f n' (nI (sBl s)) (nI (sLn s)) dr' (nI (sAl s)) (nI (sRu s)) (sPv s) (nI (sSi s)) pa' cm' os' gm' tk' pl' bh' va' iw' od')) (e : ∀ k, cKM k → N.2 k = M.2 k) : KM N s n' dr' pa' cm' os' gm' tk' pl' bh' va' iw' od' := by
  obtain ⟨-, x1, x2, x3, x4, x5, x6, x7, x8, x9, x10, x11, x12, x13, x14, x15, x16⟩ := h
  exact ⟨h1, (e _ (by omega)).trans x1, (e _ (by omega)).trans x2, (e _ (by omega)).trans x3, (e _ (by omega)).trans x4, (e _ (by omega)).trans x5, (e _ (by omega)).trans x6, (e _ (by omega)).trans x7, (e _ (by omega)).trans x8, (e _ (by omega)).trans x9, x10, (e _ (by omega)).trans x11, (e _ (by omega)).trans x12, (e _ (by omega)).trans x13, (e _ (by omega)).trans x14, (e _ (by omega)).trans x15, x16⟩
/-- a goes before b -/
def ah_ (s : Sta) (o : Bool) (a b : Nat) : Bool := if o = true ∧ sPp s a * sQq s b ≠ sPp s b * sQq s a then decide (sPp s b * sQq s a < sPp s a * sQq s b) else if sLi s a = sLi s b then decide (sKi s a < sKi s b) else decide (sLi s a < sLi s b)
theorem ah_ag {s t : Sta} (h : Ag s t) (o : Bool) {a b : Nat} (ha : a < sAl s) (hb : b < sAl s) : ah_ t o a b = ah_ s o a b := by
  obtain ⟨e1, e2, e3, e4, e5, e6⟩ := h.al a ha
  obtain ⟨d1, d2, d3, d4, d5, d6⟩ := h.al b hb
  unfold ah_
  rw [e1, e2, e4, e5, d1, d2, d4, d5]
/-- a put into a row, at k or ahead of it -/
def sh_ (s : Sta) (o : Bool) (a : Nat) : Nat → (Nat → Int32) → (Nat → Int32)
  | 0, f => upd f 0 (nI a)
  | k + 1, f => if ah_ s o a (f k).toNatClampNeg then sh_ s o a k (upd f (k + 1) (f k)) else upd f (k + 1) (nI a)
theorem sh_p {s : Sta} {o : Bool} {a : Nat} {P : Int32 → Prop} (hP : P (nI a)) {n : Nat} : ∀ (k : Nat) (f : Nat → Int32), k ≤ n → (∀ j, j < n + 1 → j ≠ k → P (f j)) → ∀ j, j < n + 1 → P (sh_ s o a k f j) := by
  intro k
  induction k with
  | zero =>
    intro f _ h j hj
    rw [sh_]
    unfold upd
    by_cases q : j = 0
    · rw [if_pos q]; exact hP
    · rw [if_neg q]; exact h j hj q
  | succ k ih =>
    intro f hk h j hj
    rw [sh_]
    split
    · refine ih _ (by omega) (fun i hi hik => ?_) j hj
      unfold upd
      by_cases q : i = k + 1
      · rw [if_pos q]; exact h k (by omega) (by omega)
      · rw [if_neg q]; exact h i hi q
    · unfold upd
      by_cases q : j = k + 1
      · rw [if_pos q]; exact hP
      · rw [if_neg q]; exact h j hj q
theorem sh_ag {s t : Sta} (hg : Ag s t) {o : Bool} {a : Nat} (ha : a < sAl s) (hal : sAl s ≤ 50) {n : Nat} : ∀ (k : Nat) (f f2 : Nat → Int32), k ≤ n → (∀ j, j < n + 1 → j ≠ k → f2 j = f j ∧ ∃ c, c < sAl s ∧ f j = nI c) → ∀ j, j < n + 1 → sh_ t o a k f2 j = sh_ s o a k f j := by
  intro k
  induction k with
  | zero =>
    intro f f2 _ h j hj
    rw [sh_, sh_]
    unfold upd
    by_cases q : j = 0
    · rw [if_pos q, if_pos q]
    · rw [if_neg q, if_neg q]; exact (h j hj q).1
  | succ k ih =>
    intro f f2 hk h j hj
    rw [sh_, sh_]
    obtain ⟨e, c, hc, e2⟩ := h k (by omega) (by omega)
    rw [e, e2, nI_clamp (by omega), ah_ag hg o ha hc]
    by_cases z : ah_ s o a c = true
    · rw [if_pos z, if_pos z]
      refine ih _ _ (by omega) (fun i hi hik => ?_) j hj
      unfold upd
      by_cases q : i = k + 1
      · rw [if_pos q, if_pos q]; exact ⟨rfl, c, hc, rfl⟩
      · rw [if_neg q, if_neg q]; exact h i hi q
    · rw [if_neg z, if_neg z]
      unfold upd
      by_cases q : j = k + 1
      · rw [if_pos q, if_pos q]
      · rw [if_neg q, if_neg q]; exact (h j hj q).1
/-- the alarms below i with p, in order, in a row that held f -/
def od_ (s : Sta) (o : Bool) (p : Nat → Bool) (f : Nat → Int32) : Nat → (Nat → Int32) × Nat
  | 0 => (f, 0)
  | i + 1 => if p i then (sh_ s o i (od_ s o p f i).2 (od_ s o p f i).1, (od_ s o p f i).2 + 1) else od_ s o p f i
theorem od_le (s : Sta) (o : Bool) (p : Nat → Bool) (f : Nat → Int32) : ∀ i, (od_ s o p f i).2 ≤ i := by
  intro i
  induction i with
  | zero => exact Nat.le_refl 0
  | succ i ih =>
    rw [od_]
    split
    · exact Nat.succ_le_succ ih
    · omega
theorem od_in (s : Sta) (o : Bool) (p : Nat → Bool) (f : Nat → Int32) : ∀ i j, j < (od_ s o p f i).2 → ∃ c, c < i ∧ p c = true ∧ (od_ s o p f i).1 j = nI c := by
  intro i
  induction i with
  | zero => intro j hj; exact absurd hj (Nat.not_lt_zero j)
  | succ i ih =>
    intro j
    rw [od_]
    by_cases hp : p i = true
    · rw [if_pos hp]
      intro hj
      refine sh_p (P := fun x => ∃ c, c < i + 1 ∧ p c = true ∧ x = nI c) ⟨i, by omega, hp, rfl⟩ (n := (od_ s o p f i).2) _ _ (Nat.le_refl _) (fun k hk hne => ?_) j hj
      obtain ⟨c, h1, h2, h3⟩ := ih k (by omega)
      exact ⟨c, by omega, h2, h3⟩
    · rw [if_neg hp]
      intro hj
      obtain ⟨c, h1, h2, h3⟩ := ih j hj
      exact ⟨c, by omega, h2, h3⟩
theorem od_ag {s t : Sta} (hg : Ag s t) {o : Bool} (hal : sAl s ≤ 50) {p q : Nat → Bool} (hp : ∀ a, a < sAl s → q a = p a) (f f2 : Nat → Int32) : ∀ i, i ≤ sAl s → (od_ t o q f2 i).2 = (od_ s o p f i).2 ∧ ∀ j, j < (od_ s o p f i).2 → (od_ t o q f2 i).1 j = (od_ s o p f i).1 j := by
  intro i
  induction i with
  | zero => intro _; exact ⟨rfl, fun j hj => absurd hj (Nat.not_lt_zero j)⟩
  | succ i ih =>
    intro hi
    obtain ⟨e1, e2⟩ := ih (by omega)
    have od := od_in s o p f i
    rw [od_, od_, hp i (by omega)]
    by_cases z : p i = true
    · rw [if_pos z, if_pos z]
      refine ⟨by rw [e1], fun j hj => ?_⟩
      show sh_ t o i (od_ t o q f2 i).2 (od_ t o q f2 i).1 j = _
      rw [e1]
      refine sh_ag hg (by omega) hal (n := (od_ s o p f i).2) _ _ _ (Nat.le_refl _) (fun k hk hne => ?_) j hj
      obtain ⟨c, h1, h2, h3⟩ := od k (by omega)
      exact ⟨e2 k (by omega), c, by omega, h3⟩
    · rw [if_neg z, if_neg z]
      exact ⟨e1, e2⟩
abbrev rk_f (n : Nat) (cm : Int32) : List Value := [.ref 70, .ref 71, .int (nI n), .int cm, .ref 72]
abbrev rk_m (M : ax_M) (f : Nat → Int32) (n : Nat) (cm : Int32) : ax_M := oP (iP M 70 50 f) 69 6 (rk_f n cm)
section ORD
variable {g : ax_Y} {M : ax_M} {Q : Option Value → ax_M → Prop} {h : Nat} {s : Sta} {n dr pa cm os gm tk pl bh : Int32} {va : Int64} {iw od : Int32}
theorem m_Ranks_isAhead {o : Bool} {a b : Nat} (h_alarms : oC M 9 0 (al_f (sAl s))) (h_line : iA M 10 50 (sLi s)) (h_kind : iA M 11 50 (sKi s)) (h_p : iA M 13 50 (sPp s)) (h_q : iA M 14 50 (sQq s)) (ha : a < 50) (hb : b < 50) (hq : Q (some (.int (bi (ah_ s o a b = true)))) M) : ax_G g mt_Ranks_isAhead h 0 0 0 [.ref 9, .int (nI a), .int (nI b), .int (bi (o = true)), .float 0, .float 0] [] M Q := by
  unfold ah_ at hq
  have partB : ∀ z4 z5 : Value, z4.category = 1 → z5.category = 1 → ¬ (o = true ∧ sPp s a * sQq s b ≠ sPp s b * sQq s a) → ax_G g mt_Ranks_isAhead h 0 0 54 [.ref 9, .int (nI a), .int (nI b), .int (bi (o = true)), z4, z5] [] M Q := by
    intro z4 z5 _ _ hn
    rw [if_neg hn] at hq
    refine s_aload_n 55 rfl rfl rfl ?_
    refine s_getfield 0 0 58 rfl rfl fl_Ranks_42 h_alarms rfl ?_
    refine s_iload_n 59 rfl rfl rfl ?_
    refine s_iaload (a) 60 rfl rfl h_line rfl (by omega) (by decide) ?_
    refine s_aload_n 61 rfl rfl rfl ?_
    refine s_getfield 0 0 64 rfl rfl fl_Ranks_42 h_alarms rfl ?_
    refine s_iload_n 65 rfl rfl rfl ?_
    refine s_iaload (b) 66 rfl rfl h_line rfl (by omega) (by decide) ?_
    refine s_icmp_eq 90 69 rfl rfl (by decide) (fun c1 => ?_) (fun c1 => ?_)
    -- Ranks_isAhead 69: branch 90 69
    · rw [if_pos c1] at hq
      refine s_aload_n 91 rfl rfl rfl ?_
      refine s_getfield 0 1 94 rfl rfl fl_Ranks_45 h_alarms rfl ?_
      refine s_iload_n 95 rfl rfl rfl ?_
      refine s_iaload (a) 96 rfl rfl h_kind rfl (by omega) (by decide) ?_
      refine s_aload_n 97 rfl rfl rfl ?_
      refine s_getfield 0 1 100 rfl rfl fl_Ranks_45 h_alarms rfl ?_
      refine s_iload_n 101 rfl rfl rfl ?_
      refine s_iaload (b) 102 rfl rfl h_kind rfl (by omega) (by decide) ?_
      refine s_icmp_ge 109 105 rfl rfl (by decide) (fun c2 => ?_) (fun c2 => ?_)
      -- Ranks_isAhead 105: branch 109 105
      · rw [bi_f (by simpa using Int32.not_lt.mpr c2)] at hq
        refine s_iconst 0 110 rfl rfl (by decide) ?_
        -- Ranks_isAhead 110: ireturn
        exact s_ireturn rfl .boolean rfl rfl (hq)
      · rw [bi_t (by simpa using Int32.not_le.mp c2)] at hq
        refine s_iconst 1 106 rfl rfl (by decide) ?_
        refine s_goto 110 rfl (by decide) ?_
        -- Ranks_isAhead 110: ireturn
        exact s_ireturn rfl .boolean rfl rfl (hq)
    · rw [if_neg c1] at hq
      refine s_aload_n 70 rfl rfl rfl ?_
      refine s_getfield 0 0 73 rfl rfl fl_Ranks_42 h_alarms rfl ?_
      refine s_iload_n 74 rfl rfl rfl ?_
      refine s_iaload (a) 75 rfl rfl h_line rfl (by omega) (by decide) ?_
      refine s_aload_n 76 rfl rfl rfl ?_
      refine s_getfield 0 0 79 rfl rfl fl_Ranks_42 h_alarms rfl ?_
      refine s_iload_n 80 rfl rfl rfl ?_
      refine s_iaload (b) 81 rfl rfl h_line rfl (by omega) (by decide) ?_
      refine s_icmp_ge 88 84 rfl rfl (by decide) (fun c3 => ?_) (fun c3 => ?_)
      -- Ranks_isAhead 84: branch 88 84
      · rw [bi_f (by simpa using Int32.not_lt.mpr c3)] at hq
        refine s_iconst 0 89 rfl rfl (by decide) ?_
        -- Ranks_isAhead 89: ireturn
        exact s_ireturn rfl .boolean rfl rfl (hq)
      · rw [bi_t (by simpa using Int32.not_le.mp c3)] at hq
        refine s_iconst 1 85 rfl rfl (by decide) ?_
        refine s_goto 89 rfl (by decide) ?_
        -- Ranks_isAhead 89: ireturn
        exact s_ireturn rfl .boolean rfl rfl (hq)
  refine s_iload_n 1 rfl rfl rfl ?_
  refine s_if_eq 54 4 rfl rfl (by decide) (fun c4 => ?_) (fun c4 => ?_)
  -- Ranks_isAhead 4: branch 54 4
  · rw [b01] at c4
    exact partB _ _ rfl rfl (fun q => by rw [c4] at q; cases q.1)
  · rw [b01] at c4
    have c4 : o = true := by simpa using c4
    refine s_aload_n 5 rfl rfl rfl ?_
    refine s_getfield 0 3 8 rfl rfl fl_Ranks_36 h_alarms rfl ?_
    refine s_iload_n 9 rfl rfl rfl ?_
    refine s_iaload (a) 10 rfl rfl h_p rfl (by omega) (by decide) ?_
    refine s_aload_n 11 rfl rfl rfl ?_
    refine s_getfield 0 4 14 rfl rfl fl_Ranks_39 h_alarms rfl ?_
    refine s_iload_n 15 rfl rfl rfl ?_
    refine s_iaload (b) 16 rfl rfl h_q rfl (by omega) (by decide) ?_
    refine s_imul 17 rfl rfl ?_
    refine s_ist4 19 rfl rfl rfl ?_
    refine s_aload_n 20 rfl rfl rfl ?_
    refine s_getfield 0 3 23 rfl rfl fl_Ranks_36 h_alarms rfl ?_
    refine s_iload_n 24 rfl rfl rfl ?_
    refine s_iaload (b) 25 rfl rfl h_p rfl (by omega) (by decide) ?_
    refine s_aload_n 26 rfl rfl rfl ?_
    refine s_getfield 0 4 29 rfl rfl fl_Ranks_39 h_alarms rfl ?_
    refine s_iload_n 30 rfl rfl rfl ?_
    refine s_iaload (a) 31 rfl rfl h_q rfl (by omega) (by decide) ?_
    refine s_imul 32 rfl rfl ?_
    refine s_ist5 34 rfl rfl rfl ?_
    refine s_iload 36 rfl rfl rfl ?_
    refine s_iload 38 rfl rfl rfl ?_
    refine s_icmp_eq 54 41 rfl rfl (by decide) (fun c5 => ?_) (fun c5 => ?_)
    -- Ranks_isAhead 41: branch 54 41
    · exact partB _ _ rfl rfl (fun q => q.2 c5)
    · rw [if_pos ⟨c4, c5⟩] at hq
      refine s_iload 43 rfl rfl rfl ?_
      refine s_iload 45 rfl rfl rfl ?_
      refine s_icmp_le 52 48 rfl rfl (by decide) (fun c6 => ?_) (fun c6 => ?_)
      -- Ranks_isAhead 48: branch 52 48
      · rw [bi_f (by simpa using Int32.not_lt.mpr c6)] at hq
        refine s_iconst 0 53 rfl rfl (by decide) ?_
        -- Ranks_isAhead 53: ireturn
        exact s_ireturn rfl .boolean rfl rfl (hq)
      · rw [bi_t (by simpa using Int32.not_le.mp c6)] at hq
        refine s_iconst 1 49 rfl rfl (by decide) ?_
        refine s_goto 53 rfl (by decide) ?_
        -- Ranks_isAhead 53: ireturn
        exact s_ireturn rfl .boolean rfl rfl (hq)
theorem m_Ranks_insert {o : Bool} {a k : Nat} {f : Nat → Int32} (h_this : oC M 69 6 (rk_f k cm)) (h_row : iA M 70 50 f) (h_alarms : oC M 9 0 (al_f (sAl s))) (h_line : iA M 10 50 (sLi s)) (h_kind : iA M 11 50 (sKi s)) (h_p : iA M 13 50 (sPp s)) (h_q : iA M 14 50 (sQq s)) (ha : a < 50) (hk : k < 50) (hf : ∀ j, j < k → ∃ c, c < 50 ∧ f j = nI c) (hq : Q none (rk_m M (sh_ s o a k f) (k + 1) cm)) : ax_G g mt_Ranks_insert (h + 1) 0 0 0 [.ref 69, .ref 9, .int (nI a), .int (bi (o = true)), .float 0] [] M Q := by
  refine s_aload_n 1 rfl rfl rfl ?_
  refine s_getfield 6 2 4 rfl rfl fl_Ranks_21 h_this rfl ?_
  refine s_bipush 50 6 rfl rfl (by decide) ?_
  refine s_icmp_lt 10 9 rfl rfl (by decide) (fun c1 => ?_) (fun c1 => ?_)
  -- Ranks_insert 9: branch 10 9
  · refine s_aload_n 11 rfl rfl rfl ?_
    refine s_getfield 6 2 14 rfl rfl fl_Ranks_21 h_this rfl ?_
    refine s_ist4 16 rfl rfl rfl ?_
    -- Ranks_insert 16: end
    have loop : ∀ (i : Nat) (e : Nat → Int32), i ≤ k → (∀ j, j < i → ∃ c, c < 50 ∧ e j = nI c) → Q none (rk_m M (sh_ s o a i e) (k + 1) cm) → ax_G g mt_Ranks_insert (h + 1) 0 0 16 [.ref 69, .ref 9, .int (nI a), .int (bi (o = true)), .int (nI i)] [] (iP M 70 50 e) Q := by
      intro i
      induction i with
      | zero =>
        intro e _ _ hq
        refine s_iload 18 rfl rfl rfl ?_
        refine s_if_le 61 21 rfl rfl (by decide) (fun c2 => ?_) (fun c2 => ?_)
        -- Ranks_insert 21: branch 61 21
        · refine s_aload_n 62 rfl rfl rfl ?_
          refine s_getfield 6 0 65 rfl rfl fl_Ranks_9 h_this rfl ?_
          refine s_iload 67 rfl rfl rfl ?_
          refine s_iload_n 68 rfl rfl rfl ?_
          refine s_iastore (0) 69 rfl rfl rfl rfl (by omega) (by decide) ?_
          refine s_aload_n 70 rfl rfl rfl ?_
          refine s_dup 71 rfl rfl rfl ?_
          refine s_getfield 6 2 74 rfl rfl fl_Ranks_21 h_this rfl ?_
          refine s_iconst 1 75 rfl rfl (by decide) ?_
          refine s_iadd 76 rfl rfl ?_
          -- Ranks_insert 76: end
          rw [nI_1]
          refine s_putfield 6 2 (.int) 79 rfl rfl fp_Ranks_21 h_this (Nat.le_of_ble_eq_true rfl) ⟨rfl, rfl⟩ (fun h => absurd h (by decide)) ?_
          -- Ranks_insert 79: return_
          unfold iP
          rw [ax_pp]
          exact s_return rfl rfl (hq)
        · exact absurd (by decide) c2
      | succ i ih =>
        intro e hi he hq
        refine s_iload 18 rfl rfl rfl ?_
        refine s_if_le 61 21 rfl rfl (by decide) (fun c3 => ?_) (fun c3 => ?_)
        -- Ranks_insert 21: branch 61 21
        · exact absurd c3 (nI_nle (by omega) (by omega))
        · refine s_aload_n 22 rfl rfl rfl ?_
          refine s_iload_n 23 rfl rfl rfl ?_
          refine s_aload_n 24 rfl rfl rfl ?_
          refine s_getfield 6 0 27 rfl rfl fl_Ranks_9 h_this rfl ?_
          refine s_iload 29 rfl rfl rfl ?_
          refine s_iconst 1 30 rfl rfl (by decide) ?_
          refine s_isub 31 rfl rfl ?_
          -- Ranks_insert 31: end
          rw [nI_pred]
          obtain ⟨c, hc, e1⟩ := he i (by omega)
          refine s_iaload (i) 32 rfl rfl rfl rfl (by omega) (by decide) ?_
          -- Ranks_insert 32: end
          rw [e1]
          refine s_iload_n 33 rfl rfl rfl ?_
          refine c_callS4 h 36 rfl rfl mv_Ranks_32 (by omega) (Nat.le_of_ble_eq_true rfl) (Nat.le_of_ble_eq_true rfl) ?_
          -- Ranks_insert 36: call Ranks_isAhead
          refine m_Ranks_isAhead h_alarms h_line h_kind h_p h_q ha hc ?_
          dsimp only [ax_rs]
          rw [sh_, e1, nI_clamp (by omega)] at hq
          refine s_if_eq 61 39 rfl rfl (by decide) (fun c4 => ?_) (fun c4 => ?_)
          -- Ranks_insert 39: branch 61 39
          · rw [bi_0] at c4
            rw [if_neg c4] at hq
            refine s_aload_n 62 rfl rfl rfl ?_
            refine s_getfield 6 0 65 rfl rfl fl_Ranks_9 h_this rfl ?_
            refine s_iload 67 rfl rfl rfl ?_
            refine s_iload_n 68 rfl rfl rfl ?_
            refine s_iastore (i + 1) 69 rfl rfl rfl rfl (by omega) (by decide) ?_
            refine s_aload_n 70 rfl rfl rfl ?_
            refine s_dup 71 rfl rfl rfl ?_
            refine s_getfield 6 2 74 rfl rfl fl_Ranks_21 h_this rfl ?_
            refine s_iconst 1 75 rfl rfl (by decide) ?_
            refine s_iadd 76 rfl rfl ?_
            -- Ranks_insert 76: end
            rw [nI_1]
            refine s_putfield 6 2 (.int) 79 rfl rfl fp_Ranks_21 h_this (Nat.le_of_ble_eq_true rfl) ⟨rfl, rfl⟩ (fun h => absurd h (by decide)) ?_
            -- Ranks_insert 79: return_
            unfold iP
            rw [ax_pp]
            exact s_return rfl rfl (hq)
          · rw [bi_0, Classical.not_not] at c4
            rw [if_pos c4] at hq
            refine s_aload_n 40 rfl rfl rfl ?_
            refine s_getfield 6 0 43 rfl rfl fl_Ranks_9 h_this rfl ?_
            refine s_iload 45 rfl rfl rfl ?_
            refine s_aload_n 46 rfl rfl rfl ?_
            refine s_getfield 6 0 49 rfl rfl fl_Ranks_9 h_this rfl ?_
            refine s_iload 51 rfl rfl rfl ?_
            refine s_iconst 1 52 rfl rfl (by decide) ?_
            refine s_isub 53 rfl rfl ?_
            -- Ranks_insert 53: end
            rw [nI_pred]
            refine s_iaload (i) 54 rfl rfl rfl rfl (by omega) (by decide) ?_
            -- Ranks_insert 54: end
            rw [e1]
            refine s_iastore (i + 1) 55 rfl rfl rfl rfl (by omega) (by decide) ?_
            refine s_inc4 _ 58 rfl rfl rfl rfl ?_
            refine s_goto 16 rfl (by decide) ?_
            -- Ranks_insert 16: end
            unfold iP
            rw [ax_pp, dec1, nI_pred]
            refine ih _ (by omega) (fun j hj => ?_) hq
            unfold upd
            rw [if_neg (by omega)]
            exact he j (by omega)
    have h0 := loop k f (Nat.le_refl k) hf hq
    unfold iP at h0
    rw [ax_id h_row] at h0
    exact h0
  · exact absurd (nn_nlt (b := 50) c1) (by omega)
theorem m_Ranks_order {o : Bool} {w : Int64} {k : Nat} {f : Nat → Int32} {p : Nat → Bool} (h_this : oC M 69 6 (rk_f k cm)) (h_row : iA M 70 50 f) (h_alarms : oC M 9 0 (al_f (sAl s))) (h_line : iA M 10 50 (sLi s)) (h_kind : iA M 11 50 (sKi s)) (h_p : iA M 13 50 (sPp s)) (h_q : iA M 14 50 (sQq s)) (hal : sAl s ≤ 50) (hw : ∀ a, a < sAl s → lb w a = p a) (hq : Q none (rk_m M (od_ s o p f (sAl s)).1 (od_ s o p f (sAl s)).2 cm)) : ax_G g mt_Ranks_order (h + 2) 0 0 0 [.ref 69, .ref 9, .long w, .float 0, .int (bi (o = true)), .float 0] [] M Q := by
  refine s_aload_n 1 rfl rfl rfl ?_
  refine s_iconst 0 2 rfl rfl (by decide) ?_
  refine s_putfield 6 2 (.int) 5 rfl rfl fp_Ranks_21 h_this (Nat.le_of_ble_eq_true rfl) ⟨rfl, rfl⟩ (fun h => absurd h (by decide)) ?_
  refine s_iconst 0 6 rfl rfl (by decide) ?_
  refine s_ist5 8 rfl rfl rfl ?_
  -- Ranks_order 8: end
  have loop : ∀ (d i : Nat), i + d = sAl s → ax_G g mt_Ranks_order (h + 2) 0 0 8 [.ref 69, .ref 9, .long w, .float 0, .int (bi (o = true)), .int (nI i)] [] (rk_m M (od_ s o p f i).1 (od_ s o p f i).2 cm) Q := by
    intro d
    induction d with
    | zero =>
      intro i hi
      obtain rfl : i = sAl s := by omega
      refine s_iload 10 rfl rfl rfl ?_
      refine s_aload_n 11 rfl rfl rfl ?_
      refine s_getfield 0 6 14 rfl rfl fl_Ranks_25 h_alarms rfl ?_
      refine s_icmp_ge 43 17 rfl rfl (by decide) (fun c1 => ?_) (fun c1 => ?_)
      -- Ranks_order 17: branch 43 17
      · exact s_return rfl rfl (hq)
      · exact absurd (nn_nle c1) (by omega)
    | succ d ih =>
      intro i hi
      have nx := ih (i + 1) (by omega)
      rw [od_] at nx
      have ol := od_le s o p f i
      refine s_iload 10 rfl rfl rfl ?_
      refine s_aload_n 11 rfl rfl rfl ?_
      refine s_getfield 0 6 14 rfl rfl fl_Ranks_25 h_alarms rfl ?_
      refine s_icmp_ge 43 17 rfl rfl (by decide) (fun c2 => ?_) (fun c2 => ?_)
      -- Ranks_order 17: branch 43 17
      · exact absurd (nn_le c2) (by omega)
      · refine s_lload_n 18 rfl rfl rfl ?_
        refine s_iload 20 rfl rfl rfl ?_
        refine s_lushr 21 rfl rfl ?_
        refine s_lconst 1 22 rfl rfl (by decide) ?_
        refine s_land 23 rfl rfl ?_
        -- Ranks_order 23: end
        rw [l_tsu w (by omega), hw i (by omega)]
        refine s_lconst 0 24 rfl rfl (by decide) ?_
        refine s_lcmp 25 rfl rfl ?_
        -- Ranks_order 25: end
        rw [l_c0]
        refine s_if_eq 37 28 rfl rfl (by decide) (fun c3 => ?_) (fun c3 => ?_)
        -- Ranks_order 28: branch 37 28
        · rw [i01] at c3
          rw [if_neg (by simp [c3])] at nx
          refine s_inc5 _ 40 rfl rfl rfl rfl ?_
          refine s_goto 8 rfl (by decide) ?_
          -- Ranks_order 8: end
          rw [inc1]
          exact nx
        · rw [i01] at c3
          rw [if_pos (by simpa using c3)] at nx
          refine s_aload_n 29 rfl rfl rfl ?_
          refine s_aload_n 30 rfl rfl rfl ?_
          refine s_iload 32 rfl rfl rfl ?_
          refine s_iload 34 rfl rfl rfl ?_
          refine c_callV3 (h+1) 37 rfl rfl mv_Ranks_28 (by omega) (Nat.le_of_ble_eq_true rfl) (Nat.le_of_ble_eq_true rfl) rfl rfl rfl ?_
          -- Ranks_order 37: call Ranks_insert
          refine m_Ranks_insert (M := rk_m M (od_ s o p f i).1 (od_ s o p f i).2 cm) rfl rfl h_alarms h_line h_kind h_p h_q (by omega) (by omega) (fun j hj => ?_) ?_
          · obtain ⟨c, h1, h2, h3⟩ := od_in s o p f i j hj
            exact ⟨c, by omega, h3⟩
          · dsimp only [ax_rs]
            unfold rk_m oP iP at nx ⊢
            rw [ax_p4]
            refine s_inc5 _ 40 rfl rfl rfl rfl ?_
            refine s_goto 8 rfl (by decide) ?_
            -- Ranks_order 8: end
            rw [inc1]
            exact nx
  have h0 := loop (sAl s) 0 (by omega)
  rw [od_] at h0
  unfold rk_m iP oP at h0
  rw [ax_id h_row] at h0
  exact h0
theorem m_Mod_goesBefore {o : Bool} {a b : Nat} (hK : KM M s n dr pa cm os gm tk pl bh va iw od) (ha : a < 50) (hb : b < 50) (hq : Q (some (.int (bi (ah_ s o a b = true)))) M) : ax_G g mt_Mod_goesBefore h 0 0 0 [.ref 143, .int (nI a), .int (nI b), .int (bi (o = true)), .float 0, .float 0] [] M Q := by
  unfold ah_ at hq
  have partB : ∀ z4 z5 : Value, z4.category = 1 → z5.category = 1 → ¬ (o = true ∧ sPp s a * sQq s b ≠ sPp s b * sQq s a) → ax_G g mt_Mod_goesBefore h 0 0 54 [.ref 143, .int (nI a), .int (nI b), .int (bi (o = true)), z4, z5] [] M Q := by
    intro z4 z5 _ _ hn
    rw [if_neg hn] at hq
    refine s_aload_n 55 rfl rfl rfl ?_
    refine s_getfield 12 16 58 rfl rfl fl_Mod_43 hK.this rfl ?_
    refine s_iload_n 59 rfl rfl rfl ?_
    refine s_iaload (a) 60 rfl rfl hK.lineOf rfl (by omega) (by decide) ?_
    refine s_aload_n 61 rfl rfl rfl ?_
    refine s_getfield 12 16 64 rfl rfl fl_Mod_43 hK.this rfl ?_
    refine s_iload_n 65 rfl rfl rfl ?_
    refine s_iaload (b) 66 rfl rfl hK.lineOf rfl (by omega) (by decide) ?_
    refine s_icmp_lt 99 69 rfl rfl (by decide) (fun c1 => ?_) (fun c1 => ?_)
    -- Mod_goesBefore 69: branch 99 69
    · rw [if_neg (fun q => by rw [q] at c1; exact Int32.lt_irrefl c1), bi_t (by simpa using c1)] at hq
      refine s_iconst 1 100 rfl rfl (by decide) ?_
      refine s_goto 104 rfl (by decide) ?_
      -- Mod_goesBefore 104: ireturn
      exact s_ireturn rfl .boolean rfl rfl (hq)
    · refine s_aload_n 70 rfl rfl rfl ?_
      refine s_getfield 12 16 73 rfl rfl fl_Mod_43 hK.this rfl ?_
      refine s_iload_n 74 rfl rfl rfl ?_
      refine s_iaload (a) 75 rfl rfl hK.lineOf rfl (by omega) (by decide) ?_
      refine s_aload_n 76 rfl rfl rfl ?_
      refine s_getfield 12 16 79 rfl rfl fl_Mod_43 hK.this rfl ?_
      refine s_iload_n 80 rfl rfl rfl ?_
      refine s_iaload (b) 81 rfl rfl hK.lineOf rfl (by omega) (by decide) ?_
      refine s_icmp_ne 103 84 rfl rfl (by decide) (fun c2 => ?_) (fun c2 => ?_)
      -- Mod_goesBefore 84: branch 103 84
      · rw [if_neg c2, bi_f (by simpa using c1)] at hq
        refine s_iconst 0 104 rfl rfl (by decide) ?_
        -- Mod_goesBefore 104: ireturn
        exact s_ireturn rfl .boolean rfl rfl (hq)
      · rw [if_pos c2] at hq
        refine s_aload_n 85 rfl rfl rfl ?_
        refine s_getfield 12 17 88 rfl rfl fl_Mod_46 hK.this rfl ?_
        refine s_iload_n 89 rfl rfl rfl ?_
        refine s_iaload (a) 90 rfl rfl hK.kindOf rfl (by omega) (by decide) ?_
        refine s_aload_n 91 rfl rfl rfl ?_
        refine s_getfield 12 17 94 rfl rfl fl_Mod_46 hK.this rfl ?_
        refine s_iload_n 95 rfl rfl rfl ?_
        refine s_iaload (b) 96 rfl rfl hK.kindOf rfl (by omega) (by decide) ?_
        refine s_icmp_ge 103 99 rfl rfl (by decide) (fun c3 => ?_) (fun c3 => ?_)
        -- Mod_goesBefore 99: branch 103 99
        · rw [bi_f (by simpa using Int32.not_lt.mpr c3)] at hq
          refine s_iconst 0 104 rfl rfl (by decide) ?_
          -- Mod_goesBefore 104: ireturn
          exact s_ireturn rfl .boolean rfl rfl (hq)
        · rw [bi_t (by simpa using Int32.not_le.mp c3)] at hq
          refine s_iconst 1 100 rfl rfl (by decide) ?_
          refine s_goto 104 rfl (by decide) ?_
          -- Mod_goesBefore 104: ireturn
          exact s_ireturn rfl .boolean rfl rfl (hq)
  refine s_aload_n 1 rfl rfl rfl ?_
  refine s_getfield 12 19 4 rfl rfl fl_Mod_52 hK.this rfl ?_
  refine s_iload_n 5 rfl rfl rfl ?_
  refine s_iaload (a) 6 rfl rfl hK.above rfl (by omega) (by decide) ?_
  refine s_aload_n 7 rfl rfl rfl ?_
  refine s_getfield 12 20 10 rfl rfl fl_Mod_55 hK.this rfl ?_
  refine s_iload_n 11 rfl rfl rfl ?_
  refine s_iaload (b) 12 rfl rfl hK.below rfl (by omega) (by decide) ?_
  refine s_imul 13 rfl rfl ?_
  refine s_ist4 15 rfl rfl rfl ?_
  refine s_aload_n 16 rfl rfl rfl ?_
  refine s_getfield 12 19 19 rfl rfl fl_Mod_52 hK.this rfl ?_
  refine s_iload_n 20 rfl rfl rfl ?_
  refine s_iaload (b) 21 rfl rfl hK.above rfl (by omega) (by decide) ?_
  refine s_aload_n 22 rfl rfl rfl ?_
  refine s_getfield 12 20 25 rfl rfl fl_Mod_55 hK.this rfl ?_
  refine s_iload_n 26 rfl rfl rfl ?_
  refine s_iaload (a) 27 rfl rfl hK.below rfl (by omega) (by decide) ?_
  refine s_imul 28 rfl rfl ?_
  refine s_ist5 30 rfl rfl rfl ?_
  refine s_iload_n 31 rfl rfl rfl ?_
  refine s_if_eq 54 34 rfl rfl (by decide) (fun c4 => ?_) (fun c4 => ?_)
  -- Mod_goesBefore 34: branch 54 34
  · rw [b01] at c4
    exact partB _ _ rfl rfl (fun q => by rw [c4] at q; cases q.1)
  · rw [b01] at c4
    have c4 : o = true := by simpa using c4
    refine s_iload 36 rfl rfl rfl ?_
    refine s_iload 38 rfl rfl rfl ?_
    refine s_icmp_eq 54 41 rfl rfl (by decide) (fun c5 => ?_) (fun c5 => ?_)
    -- Mod_goesBefore 41: branch 54 41
    · exact partB _ _ rfl rfl (fun q => q.2 c5)
    · rw [if_pos ⟨c4, c5⟩] at hq
      refine s_iload 43 rfl rfl rfl ?_
      refine s_iload 45 rfl rfl rfl ?_
      refine s_icmp_le 52 48 rfl rfl (by decide) (fun c6 => ?_) (fun c6 => ?_)
      -- Mod_goesBefore 48: branch 52 48
      · rw [bi_f (by simpa using Int32.not_lt.mpr c6)] at hq
        refine s_iconst 0 53 rfl rfl (by decide) ?_
        -- Mod_goesBefore 53: ireturn
        exact s_ireturn rfl .boolean rfl rfl (hq)
      · rw [bi_t (by simpa using Int32.not_le.mp c6)] at hq
        refine s_iconst 1 49 rfl rfl (by decide) ?_
        refine s_goto 53 rfl (by decide) ?_
        -- Mod_goesBefore 53: ireturn
        exact s_ireturn rfl .boolean rfl rfl (hq)
/-- the reference, with the row at 179 -/
abbrev ar_m (M : ax_M) (s : Sta) (n dr pa cm os gm tk pl bh : Int32) (va : Int64) (iw : Int32) (f : Nat → Int32) (k : Nat) : ax_M := md_m (iP M 179 50 f) n (nI (sBl s)) (nI (sLn s)) dr (nI (sAl s)) (nI (sRu s)) (sPv s) (nI (sSi s)) pa cm os gm tk pl bh va iw (nI k)
theorem ar_K {f : Nat → Int32} {k : Nat} (hK : KM M s n dr pa cm os gm tk pl bh va iw od) : KM (ar_m M s n dr pa cm os gm tk pl bh va iw f k) s n dr pa cm os gm tk pl bh va iw (nI k) := hK.mv rfl (fun k hk => ax_ne (by omega) (ax_ne (by omega) rfl))
theorem m_Mod_arrange {o : Bool} {f : Nat → Int32} (hK : KM M s n dr pa cm os gm tk pl bh va iw od) (h_order : iA M 179 50 f) (hq : Q none (ar_m M s n dr pa cm os gm tk pl bh va iw (od_ s o (be_ s (if o then 3 else 0)) f (sAl s)).1 (od_ s o (be_ s (if o then 3 else 0)) f (sAl s)).2)) : ax_G g mt_Mod_arrange (h + 3) 0 0 0 [.ref 143, .int (bi (o = true)), .float 0, .float 0] [] M Q := by
  obtain ⟨b1, b2, b3, b4, b5⟩ := hK.bd
  refine s_aload_n 1 rfl rfl rfl ?_
  refine s_iconst 0 2 rfl rfl (by decide) ?_
  refine s_putfield 12 51 (.int) 5 rfl rfl fp_Mod_325 hK.this (Nat.le_of_ble_eq_true rfl) ⟨rfl, rfl⟩ (fun h => absurd h (by decide)) ?_
  refine s_iconst 0 6 rfl rfl (by decide) ?_
  refine s_ist2 7 rfl rfl rfl ?_
  -- Mod_arrange 7: end
  have loop : ∀ (d i : Nat) (z : Value), z.category = 1 → i + d = sAl s → ax_G g mt_Mod_arrange (h + 3) 0 0 7 [.ref 143, .int (bi (o = true)), .int (nI i), z] [] (ar_m M s n dr pa cm os gm tk pl bh va iw (od_ s o (be_ s (if o then 3 else 0)) f i).1 (od_ s o (be_ s (if o then 3 else 0)) f i).2) Q := by
    intro d
    induction d with
    | zero =>
      intro i z _ hi
      obtain rfl : i = sAl s := by omega
      refine s_iload_n 8 rfl rfl rfl ?_
      refine s_aload_n 9 rfl rfl rfl ?_
      refine s_getfield 12 15 12 rfl rfl fl_Mod_169 rfl rfl ?_
      refine s_icmp_ge 108 15 rfl rfl (by decide) (fun c1 => ?_) (fun c1 => ?_)
      -- Mod_arrange 15: branch 108 15
      · exact s_return rfl rfl (hq)
      · exact absurd (nn_nle c1) (by omega)
    | succ d ih =>
      intro i z hz hi
      have nx := fun z hz => ih (i + 1) z hz (by omega)
      have nxT : be_ s (if o then 3 else 0) i = true → ∀ z : Value, z.category = 1 → ax_G g mt_Mod_arrange (h + 3) 0 0 7 [.ref 143, .int (bi (o = true)), .int (nI (i + 1)), z] [] (ar_m M s n dr pa cm os gm tk pl bh va iw (sh_ s o i (od_ s o (be_ s (if o then 3 else 0)) f i).2 (od_ s o (be_ s (if o then 3 else 0)) f i).1) ((od_ s o (be_ s (if o then 3 else 0)) f i).2 + 1)) Q := fun e z hz => by
        have q := nx z hz
        rw [od_, if_pos e] at q
        exact q
      have nxF : be_ s (if o then 3 else 0) i = false → ∀ z : Value, z.category = 1 → ax_G g mt_Mod_arrange (h + 3) 0 0 7 [.ref 143, .int (bi (o = true)), .int (nI (i + 1)), z] [] (ar_m M s n dr pa cm os gm tk pl bh va iw (od_ s o (be_ s (if o then 3 else 0)) f i).1 (od_ s o (be_ s (if o then 3 else 0)) f i).2) Q := fun e z hz => by
        have q := nx z hz
        rw [od_, if_neg (by rw [e]; decide)] at q
        exact q
      clear nx
      have ol := od_le s o (be_ s (if o then 3 else 0)) f i
      have oi := od_in s o (be_ s (if o then 3 else 0)) f i
      generalize (od_ s o (be_ s (if o then 3 else 0)) f i).1 = fi at nxT nxF oi ⊢
      generalize (od_ s o (be_ s (if o then 3 else 0)) f i).2 = ki at nxT nxF oi ol ⊢
      have no : be_ s (if o then 3 else 0) i = false → ax_G g mt_Mod_arrange (h + 3) 0 0 102 [.ref 143, .int (bi (o = true)), .int (nI i), z] [] (ar_m M s n dr pa cm os gm tk pl bh va iw fi ki) Q := by
        intro e
        refine s_inc2 _ 105 rfl rfl rfl rfl ?_
        refine s_goto 7 rfl (by decide) ?_
        -- Mod_arrange 7: end
        rw [inc1]
        exact nxF e _ hz
      have yes : be_ s (if o then 3 else 0) i = true → ax_G g mt_Mod_arrange (h + 3) 0 0 39 [.ref 143, .int (bi (o = true)), .int (nI i), z] [] (ar_m M s n dr pa cm os gm tk pl bh va iw fi ki) Q := by
        intro e
        have nx := nxT e
        refine s_aload_n 40 rfl rfl rfl ?_
        refine s_getfield 12 51 43 rfl rfl fl_Mod_325 rfl rfl ?_
        refine s_ist3 44 rfl rfl rfl ?_
        -- Mod_arrange 44: end
        have inner : ∀ (k : Nat) (e : Nat → Int32), k ≤ ki → (∀ j, j < k → ∃ c, c < 50 ∧ e j = nI c) → sh_ s o i k e = sh_ s o i ki fi → ax_G g mt_Mod_arrange (h + 3) 0 0 44 [.ref 143, .int (bi (o = true)), .int (nI i), .int (nI k)] [] (ar_m M s n dr pa cm os gm tk pl bh va iw e ki) Q := by
          intro k
          induction k with
          | zero =>
            intro e _ _ he
            rw [sh_] at he
            refine s_iload_n 45 rfl rfl rfl ?_
            refine s_if_le 85 48 rfl rfl (by decide) (fun c2 => ?_) (fun c2 => ?_)
            -- Mod_arrange 48: branch 85 48
            · refine s_aload_n 86 rfl rfl rfl ?_
              refine s_getfield 12 50 89 rfl rfl fl_Mod_117 rfl rfl ?_
              refine s_iload_n 90 rfl rfl rfl ?_
              refine s_iload_n 91 rfl rfl rfl ?_
              refine s_iastore (0) 92 rfl rfl rfl rfl (by omega) (by decide) ?_
              refine s_aload_n 93 rfl rfl rfl ?_
              refine s_dup 94 rfl rfl rfl ?_
              refine s_getfield 12 51 97 rfl rfl fl_Mod_325 rfl rfl ?_
              refine s_iconst 1 98 rfl rfl (by decide) ?_
              refine s_iadd 99 rfl rfl ?_
              refine s_putfield 12 51 (.int) 102 rfl rfl fp_Mod_325 rfl (Nat.le_of_ble_eq_true rfl) ⟨rfl, rfl⟩ (fun h => absurd h (by decide)) ?_
              refine s_inc2 _ 105 rfl rfl rfl rfl ?_
              refine s_goto 7 rfl (by decide) ?_
              -- Mod_arrange 7: end
              unfold ar_m md_m oP iP
              rw [ax_p4, inc1, nI_1, show upd e 0 (nI i) = sh_ s o i ki fi from he]
              exact nx _ rfl
            · exact absurd (by decide) c2
          | succ k ih2 =>
            intro e hk hc he
            refine s_iload_n 45 rfl rfl rfl ?_
            refine s_if_le 85 48 rfl rfl (by decide) (fun c3 => ?_) (fun c3 => ?_)
            -- Mod_arrange 48: branch 85 48
            · exact absurd c3 (nI_nle (by omega) (by omega))
            · refine s_aload_n 49 rfl rfl rfl ?_
              refine s_iload_n 50 rfl rfl rfl ?_
              refine s_aload_n 51 rfl rfl rfl ?_
              refine s_getfield 12 50 54 rfl rfl fl_Mod_117 rfl rfl ?_
              refine s_iload_n 55 rfl rfl rfl ?_
              refine s_iconst 1 56 rfl rfl (by decide) ?_
              refine s_isub 57 rfl rfl ?_
              -- Mod_arrange 57: end
              rw [nI_pred]
              obtain ⟨c, hcc, e1⟩ := hc k (by omega)
              refine s_iaload (k) 58 rfl rfl rfl rfl (by omega) (by decide) ?_
              -- Mod_arrange 58: end
              rw [e1]
              refine s_iload_n 59 rfl rfl rfl ?_
              refine c_callV3 (h+2) 62 rfl rfl mv_Mod_328 (by omega) (Nat.le_of_ble_eq_true rfl) (Nat.le_of_ble_eq_true rfl) rfl rfl rfl ?_
              -- Mod_arrange 62: call Mod_goesBefore
              refine m_Mod_goesBefore (ar_K hK) (by omega) hcc ?_
              dsimp only [ax_rs]
              rw [sh_, e1, nI_clamp (by omega)] at he
              refine s_if_eq 85 65 rfl rfl (by decide) (fun c4 => ?_) (fun c4 => ?_)
              -- Mod_arrange 65: branch 85 65
              · rw [bi_0] at c4
                rw [if_neg c4] at he
                refine s_aload_n 86 rfl rfl rfl ?_
                refine s_getfield 12 50 89 rfl rfl fl_Mod_117 rfl rfl ?_
                refine s_iload_n 90 rfl rfl rfl ?_
                refine s_iload_n 91 rfl rfl rfl ?_
                refine s_iastore (k + 1) 92 rfl rfl rfl rfl (by omega) (by decide) ?_
                refine s_aload_n 93 rfl rfl rfl ?_
                refine s_dup 94 rfl rfl rfl ?_
                refine s_getfield 12 51 97 rfl rfl fl_Mod_325 rfl rfl ?_
                refine s_iconst 1 98 rfl rfl (by decide) ?_
                refine s_iadd 99 rfl rfl ?_
                refine s_putfield 12 51 (.int) 102 rfl rfl fp_Mod_325 rfl (Nat.le_of_ble_eq_true rfl) ⟨rfl, rfl⟩ (fun h => absurd h (by decide)) ?_
                refine s_inc2 _ 105 rfl rfl rfl rfl ?_
                refine s_goto 7 rfl (by decide) ?_
                -- Mod_arrange 7: end
                unfold ar_m md_m oP iP
                rw [ax_p4, inc1, nI_1, show upd e (k + 1) (nI i) = sh_ s o i ki fi from he]
                exact nx _ rfl
              · rw [bi_0, Classical.not_not] at c4
                rw [if_pos c4] at he
                refine s_aload_n 66 rfl rfl rfl ?_
                refine s_getfield 12 50 69 rfl rfl fl_Mod_117 rfl rfl ?_
                refine s_iload_n 70 rfl rfl rfl ?_
                refine s_aload_n 71 rfl rfl rfl ?_
                refine s_getfield 12 50 74 rfl rfl fl_Mod_117 rfl rfl ?_
                refine s_iload_n 75 rfl rfl rfl ?_
                refine s_iconst 1 76 rfl rfl (by decide) ?_
                refine s_isub 77 rfl rfl ?_
                -- Mod_arrange 77: end
                rw [nI_pred]
                refine s_iaload (k) 78 rfl rfl rfl rfl (by omega) (by decide) ?_
                -- Mod_arrange 78: end
                rw [e1]
                refine s_iastore (k + 1) 79 rfl rfl rfl rfl (by omega) (by decide) ?_
                refine s_inc3 _ 82 rfl rfl rfl rfl ?_
                refine s_goto 44 rfl (by decide) ?_
                -- Mod_arrange 44: end
                unfold ar_m md_m oP iP
                rw [ax_p3 (by decide), dec1, nI_pred]
                refine ih2 _ (by omega) (fun j hj => ?_) he
                unfold upd
                rw [if_neg (by omega)]
                exact hc j (by omega)
        exact inner ki fi (Nat.le_refl _) (fun j hj => by
          obtain ⟨c, h1, h2, h3⟩ := oi j hj
          exact ⟨c, by omega, h3⟩) rfl
      refine s_iload_n 8 rfl rfl rfl ?_
      refine s_aload_n 9 rfl rfl rfl ?_
      refine s_getfield 12 15 12 rfl rfl fl_Mod_169 rfl rfl ?_
      refine s_icmp_ge 108 15 rfl rfl (by decide) (fun c5 => ?_) (fun c5 => ?_)
      -- Mod_arrange 15: branch 108 15
      · exact absurd (nn_le c5) (by omega)
      · refine s_iload_n 16 rfl rfl rfl ?_
        refine s_if_eq 30 19 rfl rfl (by decide) (fun c6 => ?_) (fun c6 => ?_)
        -- Mod_arrange 19: branch 30 19
        · rw [b01] at c6
          subst c6
          refine s_aload_n 31 rfl rfl rfl ?_
          refine s_getfield 12 21 34 rfl rfl fl_Mod_58 rfl rfl ?_
          refine s_iload_n 35 rfl rfl rfl ?_
          refine s_iaload (i) 36 rfl rfl hK.state rfl (by omega) (by decide) ?_
          refine s_if_ne 102 39 rfl rfl (by decide) (fun c7 => ?_) (fun c7 => ?_)
          -- Mod_arrange 39: branch 102 39
          · exact no (by simp [be_, c7])
          · exact yes (by simp [be_, c7])
        · rw [b01] at c6
          have c6 : o = true := by simpa using c6
          subst c6
          refine s_aload_n 20 rfl rfl rfl ?_
          refine s_iload_n 21 rfl rfl rfl ?_
          refine c_callV1 (h+2) 24 rfl rfl mv_Mod_208 (by omega) (Nat.le_of_ble_eq_true rfl) (Nat.le_of_ble_eq_true rfl) rfl rfl rfl ?_
          -- Mod_arrange 24: call Mod_isOpen
          refine m_Mod_isOpen (h := h) (ar_K hK) (by omega) ?_
          dsimp only [ax_rs]
          refine s_if_eq 102 27 rfl rfl (by decide) (fun c8 => ?_) (fun c8 => ?_)
          -- Mod_arrange 27: branch 102 27
          · rw [b01] at c8
            exact no c8
          · rw [b01] at c8
            refine s_goto 39 rfl (by decide) ?_
            -- Mod_arrange 39: end
            exact yes (by simpa using c8)
  have h0 := loop (sAl s) 0 (.float 0) rfl (by omega)
  rw [od_] at h0
  unfold ar_m md_m oP iP at h0
  rw [ax_id h_order] at h0
  exact h0
end ORD
