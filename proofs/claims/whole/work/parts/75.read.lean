/-! read: the class -/
/-- a text's bytes, and -1 behind them -/
def tb_ (f : Nat → Int32) (n p : Nat) : Int32 := if p < n then f p else -1
theorem tb_at {f1 f2 : Nat → Int32} {n p : Nat} (h : by_ n f1 f2) (hp : p < 65536) (hn : n < 65536) : rw_at f1 n (nI p) = tb_ f2 n p := by
  unfold tb_
  by_cases z : p < n
  · rw [if_pos z, rw_at_in z hn]
    exact (h p z).1
  · rw [if_neg z, rw_at_out (by omega) hp]
def dg_ (T : Nat → Int32) (p : Nat) : Bool := decide (48 ≤ T p ∧ T p ≤ 57)
/-- the place and the value behind at most d digits -/
def rd_ (T : Nat → Int32) : Nat → Nat → Int32 → Nat × Int32
  | 0, p, v => (p, v)
  | d + 1, p, v => if dg_ T p = true then rd_ T d (p + 1) (v * 10 + T p - 48) else (p, v)
theorem dg_n {f : Nat → Int32} {n p : Nat} (h : dg_ (tb_ f n) p = true) : p < n := by
  unfold dg_ tb_ at h
  by_cases z : p < n
  · exact z
  · rw [if_neg z] at h
    exact absurd h (by decide)
theorem rd_le {f : Nat → Int32} {n : Nat} : ∀ d p v, p ≤ n → (rd_ (tb_ f n) d p v).1 ≤ n ∧ p ≤ (rd_ (tb_ f n) d p v).1 := by
  intro d
  induction d with
  | zero => intro p v hp; exact ⟨hp, Nat.le_refl _⟩
  | succ d ih =>
    intro p v hp
    rw [rd_]
    by_cases z : dg_ (tb_ f n) p = true
    · rw [if_pos z]
      have := dg_n z
      have := ih (p + 1) (v * 10 + tb_ f n p - 48) (by omega)
      omega
    · rw [if_neg z]
      exact ⟨hp, Nat.le_refl _⟩
/-- the number of field k, and its sign -/
def rf_ (T : Nat → Int32) (k p : Nat) : Bool × Nat × Int32 := (dg_ T p && decide (T (rd_ T (if T p = 48 then 1 else 4) p 0).1 = nI (zs_ k)), rd_ T (if T p = 48 then 1 else 4) p 0)
def ro_ (T : Nat → Int32) : Nat → Nat → Nat → (Nat → Int32) → Bool × Nat × (Nat → Int32)
  | 0, _, p, vs => (true, p, vs)
  | d + 1, k, p, vs => if (rf_ T k p).1 = true then ro_ T d (k + 1) ((rf_ T k p).2.1 + 1) (upd vs k (rf_ T k p).2.2) else (false, (rf_ T k p).2.1, vs)
theorem rf_n {f : Nat → Int32} {n k p : Nat} (hk : k < 4) (hp : p ≤ n) : (rf_ (tb_ f n) k p).2.1 ≤ n ∧ p ≤ (rf_ (tb_ f n) k p).2.1 ∧ ((rf_ (tb_ f n) k p).1 = true → (rf_ (tb_ f n) k p).2.1 < n) := by
  have a := rd_le (f := f) (n := n) (if tb_ f n p = 48 then 1 else 4) p 0 hp
  refine ⟨a.1, a.2, fun q => ?_⟩
  have q := of_decide_eq_true (Bool.and_eq_true_iff.mp q).2
  unfold tb_ at q
  by_cases z : (rd_ (tb_ f n) (if tb_ f n p = 48 then 1 else 4) p 0).1 < n
  · exact z
  · unfold tb_ at z
    rw [if_neg z] at q
    exact absurd q.symm (nn_m1 (by have := (zs_b k hk).2.1; omega))
theorem ro_n {f : Nat → Int32} {n : Nat} : ∀ d k p vs, k + d ≤ 4 → p ≤ n → (ro_ (tb_ f n) d k p vs).2.1 ≤ n ∧ p ≤ (ro_ (tb_ f n) d k p vs).2.1 ∧ ((ro_ (tb_ f n) d k p vs).1 = true → p + d ≤ (ro_ (tb_ f n) d k p vs).2.1) := by
  intro d
  induction d with
  | zero => intro k p vs _ hp; exact ⟨hp, Nat.le_refl _, fun _ => Nat.le_refl _⟩
  | succ d ih =>
    intro k p vs hk hp
    obtain ⟨a1, a2, a3⟩ := rf_n (f := f) (n := n) (k := k) (by omega) hp
    rw [ro_]
    by_cases z : (rf_ (tb_ f n) k p).1 = true
    · rw [if_pos z]
      have a4 := a3 z
      obtain ⟨b1, b2, b3⟩ := ih (k + 1) ((rf_ (tb_ f n) k p).2.1 + 1) (upd vs k (rf_ (tb_ f n) k p).2.2) (by omega) (by omega)
      refine ⟨b1, by omega, fun q => ?_⟩
      have := b3 q
      omega
    · rw [if_neg z]
      exact ⟨a1, a2, fun q => (by cases q)⟩
/-- what read answers from place p on, with c told so far -/
def cr_ (T : Nat → Int32) (n : Nat) (told : (Nat → Int32) → Bool) : Nat → Nat → Nat → (Nat → Int32) → Int32
  | 0, _, c, _ => nI c
  | d + 1, p, c, vs => if p < n then (if (ro_ T 4 0 p vs).1 = true then cr_ T n told d (ro_ T 4 0 p vs).2.1 (c + if told (ro_ T 4 0 p vs).2.2 = true then 1 else 0) (ro_ T 4 0 p vs).2.2 else -10 - nI (ro_ T 4 0 p vs).2.1) else nI c
abbrev rl_m (M : ax_M) (vs : Nat → Int32) (p : Nat) : ax_M := oP (iP M 74 4 vs) 73 3 [.ref 74, .int (nI p)]
section READ
variable {g : ax_Y} {M : ax_M} {Q : Option Value → ax_M → Prop} {h n : Nat} {f1 f2 : Nat → Int32}
theorem m_Tokens_isDigit {x : Int32} (hq : Q (some (.int (bi (48 ≤ x ∧ x ≤ 57)))) M) : ax_G g mt_Tokens_isDigit h 0 0 0 [.int x] [] M Q := by
  refine s_iload_n 1 rfl rfl rfl ?_
  refine s_bipush 48 3 rfl rfl (by decide) ?_
  refine s_icmp_lt 16 6 rfl rfl (by decide) (fun c1 => ?_) (fun c1 => ?_)
  -- Tokens_isDigit 6: branch 16 6
  · rw [bi_f (fun q => absurd c1 (Int32.not_lt.mpr q.1))] at hq
    refine s_iconst 0 17 rfl rfl (by decide) ?_
    -- Tokens_isDigit 17: ireturn
    exact s_ireturn rfl .boolean rfl rfl (hq)
  · refine s_iload_n 7 rfl rfl rfl ?_
    refine s_bipush 57 9 rfl rfl (by decide) ?_
    refine s_icmp_gt 16 12 rfl rfl (by decide) (fun c2 => ?_) (fun c2 => ?_)
    -- Tokens_isDigit 12: branch 16 12
    · rw [bi_f (fun q => absurd c2 (Int32.not_lt.mpr q.2))] at hq
      refine s_iconst 0 17 rfl rfl (by decide) ?_
      -- Tokens_isDigit 17: ireturn
      exact s_ireturn rfl .boolean rfl rfl (hq)
    · rw [bi_t ⟨Int32.not_lt.mp c1, Int32.not_lt.mp c2⟩] at hq
      refine s_iconst 1 13 rfl rfl (by decide) ?_
      refine s_goto 17 rfl (by decide) ?_
      -- Tokens_isDigit 17: ireturn
      exact s_ireturn rfl .boolean rfl rfl (hq)
theorem m_Lists_readNumber {k p : Nat} {vs : Nat → Int32} (h_text : oC M 1 7 [.ref 2, .int (nI n)]) (h_bytes : bA M 2 160 f1) (hb : by_ n f1 f2) (hn : n ≤ 160) (hk : k < 4) (hp : p ≤ n) (h0 : dg_ (tb_ f2 n) p = false → Q (some (.int 0)) (rl_m M vs p)) (h1 : dg_ (tb_ f2 n) p = true → Q (some (.int 1)) (rl_m M (upd vs k (rf_ (tb_ f2 n) k p).2.2) (rf_ (tb_ f2 n) k p).2.1)) : ax_G g mt_Lists_readNumber (h + 1) 0 0 0 [.ref 73, .ref 1, .int (nI k), .float 0, .float 0, .float 0, .float 0] [] (rl_m M vs p) Q := by
  have at_ : ∀ p, p ≤ n → rw_at f1 n (nI p) = tb_ f2 n p := fun p hp => tb_at hb (by omega) (by omega)
  refine s_aload_n 1 rfl rfl rfl ?_
  refine s_aload_n 2 rfl rfl rfl ?_
  refine s_getfield 3 1 5 rfl rfl fl_Lists_59 rfl rfl ?_
  refine c_callV1 h 8 rfl rfl mv_Lists_77 (by omega) (Nat.le_of_ble_eq_true rfl) (Nat.le_of_ble_eq_true rfl) h_text rfl rfl ?_
  -- Lists_readNumber 8: call Row_at
  refine m_Row_at h_text h_bytes hn (by decide) ?_
  dsimp only [ax_rs]
  rw [at_ p hp]
  refine s_ist3 9 rfl rfl rfl ?_
  refine s_iload_n 10 rfl rfl rfl ?_
  refine c_callS1 h 13 rfl rfl mv_Lists_81 (by omega) (Nat.le_of_ble_eq_true rfl) (Nat.le_of_ble_eq_true rfl) ?_
  -- Lists_readNumber 13: call Tokens_isDigit
  refine m_Tokens_isDigit ?_
  dsimp only [ax_rs]
  have loop : ∀ (d i q : Nat) (v m : Int32) (mo : Nat), m = nI mo → mo ≤ 4 → i + d = mo → q ≤ n → (rd_ (tb_ f2 n) d q v = (rf_ (tb_ f2 n) k p).2) → (Q (some (.int 1)) (rl_m M (upd vs k (rf_ (tb_ f2 n) k p).2.2) (rf_ (tb_ f2 n) k p).2.1)) → ax_G g mt_Lists_readNumber (h + 1) 0 0 37 [.ref 73, .ref 1, .int (nI k), .int (tb_ f2 n p), .int m, .int v, .int (nI i)] [] (rl_m M vs q) Q := by
    intro d
    have fin : ∀ (q : Nat) (v m : Int32) (i : Nat), (q, v) = (rf_ (tb_ f2 n) k p).2 → (Q (some (.int 1)) (rl_m M (upd vs k (rf_ (tb_ f2 n) k p).2.2) (rf_ (tb_ f2 n) k p).2.1)) → ax_G g mt_Lists_readNumber (h + 1) 0 0 93 [.ref 73, .ref 1, .int (nI k), .int (tb_ f2 n p), .int m, .int v, .int (nI i)] [] (rl_m M vs q) Q := by
      intro q v m i e hq
      rw [← e] at hq
      refine s_aload_n 94 rfl rfl rfl ?_
      refine s_getfield 3 0 97 rfl rfl fl_Lists_11 rfl rfl ?_
      refine s_iload_n 98 rfl rfl rfl ?_
      refine s_iload 100 rfl rfl rfl ?_
      refine s_iastore (k) 101 rfl rfl rfl rfl (by omega) (by decide) ?_
      refine s_iconst 1 102 rfl rfl (by decide) ?_
      -- Lists_readNumber 102: ireturn
      unfold rl_m oP iP at hq ⊢
      rw [ax_p3 (by decide)]
      exact s_ireturn rfl .boolean rfl rfl (hq)
    induction d with
    | zero =>
      intro i q v m mo hm h4 hi hq' e hq
      subst hm
      obtain rfl : i = mo := by omega
      rw [rd_] at e
      refine s_iload 39 rfl rfl rfl ?_
      refine s_iload 41 rfl rfl rfl ?_
      refine s_icmp_ge 93 44 rfl rfl (by decide) (fun c1 => ?_) (fun c1 => ?_)
      -- Lists_readNumber 44: branch 93 44
      · exact fin q v _ _ e hq
      · exact absurd (nn_nle c1) (by omega)
    | succ d ih =>
      intro i q v m mo hm h4 hi hq' e hq
      rw [rd_] at e
      subst hm
      refine s_iload 39 rfl rfl rfl ?_
      refine s_iload 41 rfl rfl rfl ?_
      refine s_icmp_ge 93 44 rfl rfl (by decide) (fun c2 => ?_) (fun c2 => ?_)
      -- Lists_readNumber 44: branch 93 44
      · exact absurd (nn_le c2) (by omega)
      · refine s_aload_n 45 rfl rfl rfl ?_
        refine s_aload_n 46 rfl rfl rfl ?_
        refine s_getfield 3 1 49 rfl rfl fl_Lists_59 rfl rfl ?_
        refine c_callV1 h 52 rfl rfl mv_Lists_77 (by omega) (Nat.le_of_ble_eq_true rfl) (Nat.le_of_ble_eq_true rfl) h_text rfl rfl ?_
        -- Lists_readNumber 52: call Row_at
        refine m_Row_at h_text h_bytes hn (by decide) ?_
        dsimp only [ax_rs]
        rw [at_ q hq']
        refine c_callS1 h 55 rfl rfl mv_Lists_81 (by omega) (Nat.le_of_ble_eq_true rfl) (Nat.le_of_ble_eq_true rfl) ?_
        -- Lists_readNumber 55: call Tokens_isDigit
        refine m_Tokens_isDigit ?_
        dsimp only [ax_rs]
        refine s_if_eq 93 58 rfl rfl (by decide) (fun c3 => ?_) (fun c3 => ?_)
        -- Lists_readNumber 58: branch 93 58
        · rw [bi_0] at c3
          rw [if_neg (by unfold dg_; simpa using c3)] at e
          exact fin q v _ _ e hq
        · rw [bi_0, Classical.not_not] at c3
          have dq : dg_ (tb_ f2 n) q = true := decide_eq_true c3
          have qn := dg_n dq
          rw [if_pos dq] at e
          refine s_iload 60 rfl rfl rfl ?_
          refine s_bipush 10 62 rfl rfl (by decide) ?_
          refine s_imul 63 rfl rfl ?_
          refine s_aload_n 64 rfl rfl rfl ?_
          refine s_aload_n 65 rfl rfl rfl ?_
          refine s_getfield 3 1 68 rfl rfl fl_Lists_59 rfl rfl ?_
          refine c_callV1 h 71 rfl rfl mv_Lists_77 (by omega) (Nat.le_of_ble_eq_true rfl) (Nat.le_of_ble_eq_true rfl) h_text rfl rfl ?_
          -- Lists_readNumber 71: call Row_at
          refine m_Row_at h_text h_bytes hn (by decide) ?_
          dsimp only [ax_rs]
          rw [at_ q hq']
          refine s_iadd 72 rfl rfl ?_
          refine s_bipush 48 74 rfl rfl (by decide) ?_
          refine s_isub 75 rfl rfl ?_
          refine s_ist5 77 rfl rfl rfl ?_
          refine s_aload_n 78 rfl rfl rfl ?_
          refine s_dup 79 rfl rfl rfl ?_
          refine s_getfield 3 1 82 rfl rfl fl_Lists_59 rfl rfl ?_
          refine s_iconst 1 83 rfl rfl (by decide) ?_
          refine s_iadd 84 rfl rfl ?_
          -- Lists_readNumber 84: end
          rw [nI_1]
          refine s_putfield 3 1 (.int) 87 rfl rfl fp_Lists_59 rfl (Nat.le_of_ble_eq_true rfl) ⟨rfl, rfl⟩ (fun h => absurd h (by decide)) ?_
          refine s_inc6 _ 90 rfl rfl rfl rfl ?_
          refine s_goto 37 rfl (by decide) ?_
          -- Lists_readNumber 37: end
          unfold rl_m oP iP
          rw [ax_pp, inc1]
          exact ih (i + 1) (q + 1) _ _ mo rfl h4 (by omega) (by omega) e hq
  refine s_if_ne 18 16 rfl rfl (by decide) (fun c4 => ?_) (fun c4 => ?_)
  -- Lists_readNumber 16: branch 18 16
  · rw [bi_0, Classical.not_not] at c4
    have d0 : dg_ (tb_ f2 n) p = true := decide_eq_true c4
    refine s_iload_n 19 rfl rfl rfl ?_
    refine s_bipush 48 21 rfl rfl (by decide) ?_
    refine s_icmp_ne 28 24 rfl rfl (by decide) (fun c5 => ?_) (fun c5 => ?_)
    -- Lists_readNumber 24: branch 28 24
    · refine s_iconst 4 29 rfl rfl (by decide) ?_
      refine s_ist4 31 rfl rfl rfl ?_
      refine s_iconst 0 32 rfl rfl (by decide) ?_
      refine s_ist5 34 rfl rfl rfl ?_
      refine s_iconst 0 35 rfl rfl (by decide) ?_
      refine s_ist6 37 rfl rfl rfl ?_
      -- Lists_readNumber 37: end
      refine loop 4 0 p 0 4 4 rfl (by omega) (by omega) hp ?_ (h1 d0)
      unfold rf_
      rw [if_neg c5]
    · refine s_iconst 1 25 rfl rfl (by decide) ?_
      refine s_goto 29 rfl (by decide) ?_
      refine s_ist4 31 rfl rfl rfl ?_
      refine s_iconst 0 32 rfl rfl (by decide) ?_
      refine s_ist5 34 rfl rfl rfl ?_
      refine s_iconst 0 35 rfl rfl (by decide) ?_
      refine s_ist6 37 rfl rfl rfl ?_
      -- Lists_readNumber 37: end
      refine loop 1 0 p 0 1 1 rfl (by omega) (by omega) hp ?_ (h1 d0)
      unfold rf_
      rw [if_pos c5]
  · rw [bi_0] at c4
    refine s_iconst 0 17 rfl rfl (by decide) ?_
    -- Lists_readNumber 17: ireturn
    exact s_ireturn rfl .boolean rfl rfl (h0 (decide_eq_false c4))
theorem m_Lists_readOne {p : Nat} {vs : Nat → Int32} (h_text : oC M 1 7 [.ref 2, .int (nI n)]) (h_bytes : bA M 2 160 f1) (hb : by_ n f1 f2) (hn : n ≤ 160) (hp : p ≤ n) (h0 : (ro_ (tb_ f2 n) 4 0 p vs).1 = false → ∀ vs', Q (some (.int 0)) (rl_m M vs' (ro_ (tb_ f2 n) 4 0 p vs).2.1)) (h1 : (ro_ (tb_ f2 n) 4 0 p vs).1 = true → Q (some (.int 1)) (rl_m M (ro_ (tb_ f2 n) 4 0 p vs).2.2 (ro_ (tb_ f2 n) 4 0 p vs).2.1)) : ax_G g mt_Lists_readOne (h + 4) 0 0 0 [.ref 73, .ref 1, .float 0] [] (rl_m M vs p) Q := by
  have at_ : ∀ p, p ≤ n → rw_at f1 n (nI p) = tb_ f2 n p := fun p hp => tb_at hb (by omega) (by omega)
  refine s_iconst 0 1 rfl rfl (by decide) ?_
  refine s_ist2 2 rfl rfl rfl ?_
  -- Lists_readOne 2: end
  have loop : ∀ (d k q : Nat) (ws : Nat → Int32), k + d = 4 → q ≤ n → ((ro_ (tb_ f2 n) d k q ws).1 = false → ∀ vs', Q (some (.int 0)) (rl_m M vs' (ro_ (tb_ f2 n) d k q ws).2.1)) → ((ro_ (tb_ f2 n) d k q ws).1 = true → Q (some (.int 1)) (rl_m M (ro_ (tb_ f2 n) d k q ws).2.2 (ro_ (tb_ f2 n) d k q ws).2.1)) → ax_G g mt_Lists_readOne (h + 4) 0 0 2 [.ref 73, .ref 1, .int (nI k)] [] (rl_m M ws q) Q := by
    intro d
    induction d with
    | zero =>
      intro k q ws hk hq' h0 h1
      obtain rfl : k = 4 := by omega
      refine s_iload_n 3 rfl rfl rfl ?_
      refine s_iconst 4 4 rfl rfl (by decide) ?_
      refine s_icmp_ge 51 7 rfl rfl (by decide) (fun c1 => ?_) (fun c1 => ?_)
      -- Lists_readOne 7: branch 51 7
      · refine s_iconst 1 52 rfl rfl (by decide) ?_
        -- Lists_readOne 52: ireturn
        exact s_ireturn rfl .boolean rfl rfl (h1 rfl)
      · exact absurd (by decide) c1
    | succ d ih =>
      intro k q ws hk hq' h0 h1
      obtain ⟨r1, r2, r3⟩ := rf_n (f := f2) (n := n) (k := k) (by omega) hq'
      rw [ro_] at h0 h1
      obtain ⟨e1, e2, e3⟩ := zs_b k (by omega)
      refine s_iload_n 3 rfl rfl rfl ?_
      refine s_iconst 4 4 rfl rfl (by decide) ?_
      refine s_icmp_ge 51 7 rfl rfl (by decide) (fun c2 => ?_) (fun c2 => ?_)
      -- Lists_readOne 7: branch 51 7
      · exact absurd (nn_le (a := 4) c2) (by omega)
      · refine s_aload_n 8 rfl rfl rfl ?_
        refine s_aload_n 9 rfl rfl rfl ?_
        refine s_iload_n 10 rfl rfl rfl ?_
        refine c_callV2 (h+3) 13 rfl rfl mv_Lists_73 (by omega) (Nat.le_of_ble_eq_true rfl) (Nat.le_of_ble_eq_true rfl) rfl rfl rfl ?_
        -- Lists_readOne 13: call Lists_readNumber
        refine m_Lists_readNumber (h := h + 2) h_text h_bytes hb hn (by omega) hq' (fun dq => ?_) (fun dq => ?_)
        · dsimp only [ax_rs]
          have nf : ¬ (rf_ (tb_ f2 n) k q).1 = true := fun w => by rw [(Bool.and_eq_true_iff.mp w).1] at dq; cases dq
          rw [if_neg nf] at h0
          have eq' : (rf_ (tb_ f2 n) k q).2.1 = q := by
            unfold rf_
            by_cases z : tb_ f2 n q = 48
            · show (rd_ (tb_ f2 n) (if tb_ f2 n q = 48 then 1 else 4) q 0).1 = q
              rw [if_pos z, rd_, if_neg (by rw [dq]; decide)]
            · show (rd_ (tb_ f2 n) (if tb_ f2 n q = 48 then 1 else 4) q 0).1 = q
              rw [if_neg z, rd_, if_neg (by rw [dq]; decide)]
          have h0 := h0 rfl ws
          rw [show (false, (rf_ (tb_ f2 n) k q).2.1, ws).2.1 = (rf_ (tb_ f2 n) k q).2.1 from rfl, eq'] at h0
          refine s_if_eq 33 16 rfl rfl (by decide) (fun c3 => ?_) (fun c3 => ?_)
          -- Lists_readOne 16: branch 33 16
          · refine s_iconst 0 34 rfl rfl (by decide) ?_
            -- Lists_readOne 34: ireturn
            exact s_ireturn rfl .boolean rfl rfl (h0)
          · exact absurd rfl c3
        · dsimp only [ax_rs]
          refine s_if_eq 33 16 rfl rfl (by decide) (fun c4 => ?_) (fun c4 => ?_)
          -- Lists_readOne 16: branch 33 16
          · exact absurd c4 (by decide)
          · refine s_aload_n 17 rfl rfl rfl ?_
            refine s_aload_n 18 rfl rfl rfl ?_
            refine s_getfield 3 1 21 rfl rfl fl_Lists_59 rfl rfl ?_
            refine c_callV1 (h+3) 24 rfl rfl mv_Lists_77 (by omega) (Nat.le_of_ble_eq_true rfl) (Nat.le_of_ble_eq_true rfl) h_text rfl rfl ?_
            -- Lists_readOne 24: call Row_at
            refine m_Row_at h_text h_bytes hn (by decide) ?_
            dsimp only [ax_rs]
            rw [at_ _ r1]
            refine s_ldcS 9 26 rfl rfl rfl ?_
            refine s_iload_n 27 rfl rfl rfl ?_
            -- Lists_readOne 27: end
            refine c_text1 (h + 3) 30 rfl rfl mv_Lists_53 (by omega) (Nat.le_of_ble_eq_true rfl) (Nat.le_of_ble_eq_true rfl) (by decide) rfl ?_
            refine m_String_charAt (h := h) (by decide) e3 ?_
            dsimp only [ax_rs]
            rw [e1]
            refine s_icmp_eq 35 33 rfl rfl (by decide) (fun c5 => ?_) (fun c5 => ?_)
            -- Lists_readOne 33: branch 35 33
            · have yf : (rf_ (tb_ f2 n) k q).1 = true := Bool.and_eq_true_iff.mpr ⟨dq, decide_eq_true c5⟩
              rw [if_pos yf] at h0 h1
              refine s_aload_n 36 rfl rfl rfl ?_
              refine s_dup 37 rfl rfl rfl ?_
              refine s_getfield 3 1 40 rfl rfl fl_Lists_59 rfl rfl ?_
              refine s_iconst 1 41 rfl rfl (by decide) ?_
              refine s_iadd 42 rfl rfl ?_
              -- Lists_readOne 42: end
              rw [nI_1]
              refine s_putfield 3 1 (.int) 45 rfl rfl fp_Lists_59 rfl (Nat.le_of_ble_eq_true rfl) ⟨rfl, rfl⟩ (fun h => absurd h (by decide)) ?_
              refine s_inc2 _ 48 rfl rfl rfl rfl ?_
              refine s_goto 2 rfl (by decide) ?_
              -- Lists_readOne 2: end
              unfold rl_m oP iP
              rw [ax_pp, inc1]
              exact ih (k + 1) _ _ (by omega) (by have := r3 yf; omega) h0 h1
            · have nf : ¬ (rf_ (tb_ f2 n) k q).1 = true := fun w => c5 (of_decide_eq_true (Bool.and_eq_true_iff.mp w).2)
              rw [if_neg nf] at h0
              refine s_iconst 0 34 rfl rfl (by decide) ?_
              -- Lists_readOne 34: ireturn
              exact s_ireturn rfl .boolean rfl rfl (h0 rfl _)
  exact loop 4 0 p vs (by omega) hp h0 h1
theorem m_Lists_countTold {al : Nat} {li ki pp qq st : Nat → Int32} {vs : Nat → Int32} {z0 : Int32} {told : (Nat → Int32) → Bool} (h73 : oC M 73 3 [.ref 74, .int z0]) (h74 : iA M 74 4 vs) (h_text : oC M 1 7 [.ref 2, .int (nI n)]) (h_bytes : bA M 2 160 f1) (hb : by_ n f1 f2) (hn : n ≤ 160) (h_alarms : oC M 9 0 (al_f al)) (h_line : iA M 10 50 li) (h_kind : iA M 11 50 ki) (h_p : iA M 13 50 pp) (h_q : iA M 14 50 qq) (h_state : iA M 15 50 st) (hal : al ≤ 50) (ht : ∀ v, told v = true ↔ ∃ i, i < al ∧ (st i ≠ 2 ∧ li i = v 1 ∧ ki i = v 0) ∧ (∀ j, j < i → ¬ (st j ≠ 2 ∧ li j = v 1 ∧ ki j = v 0)) ∧ st i = 0 ∧ pp i = v 2 ∧ qq i = v 3) (hq : ∀ vs' p, Q (some (.int (cr_ (tb_ f2 n) n told (n + 1) 0 0 vs))) (rl_m M vs' p)) : ax_G g mt_Lists_countTold (h + 5) 0 0 0 [.ref 73, .ref 1, .ref 9, .float 0, .float 0] [] M Q := by
  refine s_iconst 0 1 rfl rfl (by decide) ?_
  refine s_ist3 2 rfl rfl rfl ?_
  refine s_aload_n 3 rfl rfl rfl ?_
  refine s_iconst 0 4 rfl rfl (by decide) ?_
  refine s_putfield 3 1 (.int) 7 rfl rfl fp_Lists_59 h73 (Nat.le_of_ble_eq_true rfl) ⟨rfl, rfl⟩ (fun h => absurd h (by decide)) ?_
  refine s_iconst 0 8 rfl rfl (by decide) ?_
  refine s_ist4 10 rfl rfl rfl ?_
  -- Lists_countTold 10: end
  have loop : ∀ (d i p c : Nat) (ws : Nat → Int32), i ≤ p → p ≤ n → n < p + d → (∀ vs' p', Q (some (.int (cr_ (tb_ f2 n) n told d p c ws))) (rl_m M vs' p')) → ax_G g mt_Lists_countTold (h + 5) 0 0 10 [.ref 73, .ref 1, .ref 9, .int (nI c), .int (nI i)] [] (rl_m M ws p) Q := by
    intro d
    induction d with
    | zero => intro i p c ws _ _ hd _; omega
    | succ d ih =>
      intro i p c ws hi hp hd hq
      rw [cr_] at hq
      refine s_iload 12 rfl rfl rfl ?_
      refine s_sipush 160 15 rfl rfl (by decide) ?_
      refine s_icmp_ge 85 18 rfl rfl (by decide) (fun c1 => ?_) (fun c1 => ?_)
      -- Lists_countTold 18: branch 85 18
      · have := nn_le (a := 160) c1
        rw [if_neg (by omega)] at hq
        refine s_iload_n 86 rfl rfl rfl ?_
        -- Lists_countTold 86: ireturn
        exact s_ireturn rfl .int rfl rfl (hq _ _)
      · refine s_aload_n 19 rfl rfl rfl ?_
        refine s_getfield 3 1 22 rfl rfl fl_Lists_59 rfl rfl ?_
        refine s_aload_n 23 rfl rfl rfl ?_
        refine c_callV0 (h+4) 26 rfl rfl mv_Lists_62 (by omega) (Nat.le_of_ble_eq_true rfl) (Nat.le_of_ble_eq_true rfl) h_text rfl rfl ?_
        -- Lists_countTold 26: call Row_size
        refine m_Row_size h_text ?_
        dsimp only [ax_rs]
        refine s_icmp_ge 85 29 rfl rfl (by decide) (fun c2 => ?_) (fun c2 => ?_)
        -- Lists_countTold 29: branch 85 29
        · rw [if_neg (by have := nn_le c2; omega)] at hq
          refine s_iload_n 86 rfl rfl rfl ?_
          -- Lists_countTold 86: ireturn
          exact s_ireturn rfl .int rfl rfl (hq _ _)
        · have c2 := nn_nle c2
          rw [if_pos c2] at hq
          obtain ⟨r1, r2, r3⟩ := ro_n (f := f2) (n := n) 4 0 p ws (by omega) hp
          refine s_aload_n 30 rfl rfl rfl ?_
          refine s_aload_n 31 rfl rfl rfl ?_
          refine c_callV1 (h+4) 34 rfl rfl mv_Lists_65 (by omega) (Nat.le_of_ble_eq_true rfl) (Nat.le_of_ble_eq_true rfl) rfl rfl rfl ?_
          -- Lists_countTold 34: call Lists_readOne
          refine m_Lists_readOne (h := h) h_text h_bytes hb hn hp (fun e vs' => ?_) (fun e => ?_)
          · dsimp only [ax_rs]
            rw [if_neg (by rw [e]; decide)] at hq
            refine s_if_ne 45 37 rfl rfl (by decide) (fun c3 => ?_) (fun c3 => ?_)
            -- Lists_countTold 37: branch 45 37
            · exact absurd rfl c3
            · refine s_bipush (-10) 39 rfl rfl (by decide) ?_
              refine s_aload_n 40 rfl rfl rfl ?_
              refine s_getfield 3 1 43 rfl rfl fl_Lists_59 rfl rfl ?_
              refine s_isub 44 rfl rfl ?_
              -- Lists_countTold 44: ireturn
              exact s_ireturn rfl .int rfl rfl (hq _ _)
          · dsimp only [ax_rs]
            rw [if_pos e] at hq
            have r3 := r3 e
            generalize ro_ (tb_ f2 n) 4 0 p ws = R at hq r1 r2 r3 ⊢
            refine s_if_ne 45 37 rfl rfl (by decide) (fun c4 => ?_) (fun c4 => ?_)
            -- Lists_countTold 37: branch 45 37
            · refine s_aload_n 46 rfl rfl rfl ?_
              refine s_aload_n 47 rfl rfl rfl ?_
              refine s_getfield 3 0 50 rfl rfl fl_Lists_11 rfl rfl ?_
              refine s_iconst 1 51 rfl rfl (by decide) ?_
              refine s_iaload (1) 52 rfl rfl rfl rfl (by omega) (by decide) ?_
              refine s_aload_n 53 rfl rfl rfl ?_
              refine s_getfield 3 0 56 rfl rfl fl_Lists_11 rfl rfl ?_
              refine s_iconst 0 57 rfl rfl (by decide) ?_
              refine s_iaload (0) 58 rfl rfl rfl rfl (by omega) (by decide) ?_
              refine s_aload_n 59 rfl rfl rfl ?_
              refine s_getfield 3 0 62 rfl rfl fl_Lists_11 rfl rfl ?_
              refine s_iconst 2 63 rfl rfl (by decide) ?_
              refine s_iaload (2) 64 rfl rfl rfl rfl (by omega) (by decide) ?_
              refine s_aload_n 65 rfl rfl rfl ?_
              refine s_getfield 3 0 68 rfl rfl fl_Lists_11 rfl rfl ?_
              refine s_iconst 3 69 rfl rfl (by decide) ?_
              refine s_iaload (3) 70 rfl rfl rfl rfl (by omega) (by decide) ?_
              refine c_callV4 (h+4) 73 rfl rfl mv_Lists_69 (by omega) (Nat.le_of_ble_eq_true rfl) (Nat.le_of_ble_eq_true rfl) h_alarms rfl rfl ?_
              -- Lists_countTold 73: call Alarms_isToldSo
              refine m_Alarms_isToldSo (h := h + 3) h_alarms h_line h_kind h_p h_q h_state hal (fun b hb2 => ?_)
              dsimp only [ax_rs]
              rw [← ht] at hb2
              refine s_if_eq 79 76 rfl rfl (by decide) (fun c5 => ?_) (fun c5 => ?_)
              -- Lists_countTold 76: branch 79 76
              · rw [bi_0] at c5
                rw [if_neg (fun w => c5 (hb2.mpr w)), Nat.add_zero] at hq
                refine s_inc4 _ 82 rfl rfl rfl rfl ?_
                refine s_goto 10 rfl (by decide) ?_
                -- Lists_countTold 10: end
                rw [inc1]
                exact ih (i + 1) _ c _ (by omega) r1 (by omega) hq
              · rw [bi_0, Classical.not_not] at c5
                rw [if_pos (hb2.mp c5)] at hq
                refine s_inc3 _ 79 rfl rfl rfl rfl ?_
                refine s_inc4 _ 82 rfl rfl rfl rfl ?_
                refine s_goto 10 rfl (by decide) ?_
                -- Lists_countTold 10: end
                rw [inc1, inc1]
                exact ih (i + 1) _ (c + 1) _ (by omega) r1 (by omega) hq
            · exact absurd c4 (by decide)
  have h0 := loop (n + 1) 0 0 0 vs (Nat.le_refl _) (Nat.zero_le _) (by omega) hq
  unfold rl_m oP iP at h0
  rw [ax_id h74] at h0
  exact h0
end READ
