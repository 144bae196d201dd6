def cw_ (d : Nat → Nat) : Nat → Nat
  | 0 => 0
  | l + 1 => cw_ d l * 32 + d l
theorem cw_lt {d : Nat → Nat} : ∀ l, (∀ j, j < l → 1 ≤ d j ∧ d j ≤ 26) → cw_ d l < 32 ^ l := by
  intro l
  induction l with
  | zero => intro _; show 0 < 1; omega
  | succ l ih =>
    intro h
    have a := ih (fun j hj => h j (by omega))
    have b := h l (by omega)
    rw [cw_, Nat.pow_succ]
    omega
theorem cw_inj {d e : Nat → Nat} : ∀ l m, (∀ j, j < l → 1 ≤ d j ∧ d j ≤ 26) → (∀ j, j < m → 1 ≤ e j ∧ e j ≤ 26) → cw_ d l = cw_ e m → l = m ∧ ∀ j, j < l → d j = e j := by
  intro l
  induction l with
  | zero =>
    intro m h1 h2 q
    cases m with
    | zero => exact ⟨rfl, fun j hj => absurd hj (Nat.not_lt_zero j)⟩
    | succ m =>
      have := h2 m (by omega)
      rw [cw_, cw_] at q
      omega
  | succ l ih =>
    intro m h1 h2 q
    cases m with
    | zero =>
      have := h1 l (by omega)
      rw [cw_, cw_] at q
      omega
    | succ m =>
      have a := h1 l (by omega)
      have b := h2 m (by omega)
      rw [cw_, cw_] at q
      obtain ⟨c1, c2⟩ := ih m (fun j hj => h1 j (by omega)) (fun j hj => h2 j (by omega)) (by omega)
      subst c1
      refine ⟨rfl, fun j hj => ?_⟩
      by_cases z : j = l
      · subst z; omega
      · exact c2 j (by omega)
theorem i64_w (a d : Nat) : Int64.ofNat a * 32 + Int64.ofNat (d + 96) - 96 = Int64.ofNat (a * 32 + d) := by
  rw [Int64.ofNat_add, Int64.ofNat_add, Int64.ofNat_mul, show (Int64.ofNat 96) = 96 from rfl, show (Int64.ofNat 32) = 32 from rfl, ← Int64.add_assoc, Int64.add_sub_cancel]
theorem i64_d (a d : Nat) : 10 * Int64.ofNat a + Int64.ofNat (d + 48) - 48 = Int64.ofNat (a * 10 + d) := by
  rw [Int64.ofNat_add, Int64.ofNat_add, Int64.ofNat_mul, show (Int64.ofNat 48) = 48 from rfl, show (Int64.ofNat 10) = 10 from rfl, ← Int64.add_assoc, Int64.add_sub_cancel, Int64.mul_comm]
theorem i32_d (a d : Nat) : Int32.ofNat a * 10 + Int32.ofNat (d + 48) - 48 = Int32.ofNat (a * 10 + d) := by
  rw [Int32.ofNat_add, Int32.ofNat_add, Int32.ofNat_mul, show (Int32.ofNat 48) = 48 from rfl, show (Int32.ofNat 10) = 10 from rfl, ← Int32.add_assoc, Int32.add_sub_cancel]
theorem i64_j {a b : Nat} (ha : a < 9223372036854775808) (hb : b < 9223372036854775808) (h : Int64.ofNat a = Int64.ofNat b) : a = b := by
  have := congrArg Int64.toInt h
  rw [Int64.toInt_ofNat_of_lt (by omega), Int64.toInt_ofNat_of_lt (by omega)] at this
  omega
theorem i64_n {c : Nat} (hc : c < 2 ^ 31) : (Int32.ofNat c).toInt64 = Int64.ofNat c := by
  apply Int64.toInt_inj.mp
  rw [Int32.toInt_toInt64, Int64.toInt_ofNat_of_lt (by omega), Int32.toInt_ofNat_of_lt (by omega)]
/-- a word's value -/
def ev_ (T : Nat → Int32) (q : Nat) : Nat → Int64
  | 0 => 0
  | l + 1 => if l < 12 then ev_ T q l * 32 + (T (q + l)).toInt64 - 96 else 0
def nl_ (T : Nat → Int32) (q : Nat) : Nat → Int64
  | 0 => 0
  | l + 1 => if l < 6 then 10 * nl_ T q l + (T (q + l)).toInt64 - 48 else nl_ T q l
/-- the reference's words -/
def wc_ (i : Nat) : Int64 := [20715845733, 1420, 206213, 402885, 12892339, 655, 370116, 22499628, 2318456421].getD i 0
theorem wc_c : ∀ i, i < 9 → wc_ i = Int64.ofNat (cw_ (fun j => (sb_ i j).toNatClampNeg - 96) (ax_sln.getD i 0)) ∧ ax_sln.getD i 0 ≤ 12 ∧ 1 ≤ ax_sln.getD i 0 ∧ ∀ j, j < ax_sln.getD i 0 → 97 ≤ (sb_ i j).toNatClampNeg ∧ (sb_ i j).toNatClampNeg ≤ 122 ∧ sb_ i j = nI (sb_ i j).toNatClampNeg := by decide +kernel
theorem nI_rng {x : Int32} {a b : Nat} (hb : b < 65536) (h1 : nI a ≤ x) (h2 : x ≤ nI b) (ha : a ≤ b) : ∃ c, a ≤ c ∧ c ≤ b ∧ x = nI c := by
  have h0 : ¬ x < 0 := fun q => by
    rw [Int32.lt_iff_toInt_lt] at q
    rw [Int32.le_iff_toInt_le, nI_toInt (by omega)] at h1
    have : (0 : Int32).toInt = 0 := by decide
    omega
  obtain ⟨c, hc, e⟩ := nI_of h0
  rw [e] at h1 h2
  exact ⟨c, nn_le h1, nn_le h2, e⟩
theorem p12a : 32 ^ 12 = 1152921504606846976 := by decide
theorem p63 : 2 ^ 63 = 9223372036854775808 := by decide
theorem p12 (l : Nat) (hl : l ≤ 12) : 32 ^ l < 9223372036854775808 := by
  have h1 : 32 ^ l ≤ 32 ^ 12 := Nat.pow_le_pow_right (by omega) hl
  rw [p12a] at h1
  omega
theorem i64_0 : (0 : Int64) = Int64.ofNat 0 := rfl
theorem cw_big {d : Nat → Nat} {l : Nat} (hl : l ≤ 12) (hd : ∀ j, j < l → 1 ≤ d j ∧ d j ≤ 26) : cw_ d l < 9223372036854775808 := Nat.lt_trans (cw_lt l hd) (p12 l hl)
theorem cw_e {d e : Nat → Nat} {l m : Nat} (hl : l ≤ 12) (hm : m ≤ 12) (hd : ∀ j, j < l → 1 ≤ d j ∧ d j ≤ 26) (he : ∀ j, j < m → 1 ≤ e j ∧ e j ≤ 26) (q : Int64.ofNat (cw_ d l) = Int64.ofNat (cw_ e m)) : l = m ∧ ∀ j, j < l → d j = e j := cw_inj l m hd he (i64_j (cw_big hl hd) (cw_big hm he) q)
theorem cw_0 {e : Nat → Nat} {m : Nat} (hm : m ≤ 12) (h1 : 1 ≤ m) (he : ∀ j, j < m → 1 ≤ e j ∧ e j ≤ 26) (q : (0 : Int64) = Int64.ofNat (cw_ e m)) : False := by
  rw [i64_0] at q
  have q2 : Int64.ofNat (cw_ (fun _ => 1) 0) = Int64.ofNat (cw_ e m) := by rw [cw_]; exact q
  have := (cw_e (Nat.zero_le _) hm (fun j hj => absurd hj (Nat.not_lt_zero j)) he q2).1
  omega
theorem ev_val {T : Nat → Int32} {q l : Nat} (hc : ∀ j, j < l → ∃ c, 97 ≤ c ∧ c ≤ 122 ∧ T (q + j) = nI c) (hl : l ≤ 12) : ∀ m, m ≤ l → ev_ T q m = Int64.ofNat (cw_ (fun j => (T (q + j)).toNatClampNeg - 96) m) := by
  intro m
  induction m with
  | zero => intro _; rw [ev_, cw_]; exact i64_0
  | succ m ih =>
    intro h2
    obtain ⟨c, a1, a2, a3⟩ := hc m (by omega)
    rw [ev_, if_pos (by omega), ih (by omega), cw_, a3, nI_clamp (by omega)]
    have e : (nI c).toInt64 = Int64.ofNat (c - 96 + 96) := by rw [show c - 96 + 96 = c by omega]; exact i64_n (by omega)
    rw [e, i64_w]
theorem ev_big {T : Nat → Int32} {q : Nat} : ∀ l, 12 < l → ev_ T q l = 0 := by
  intro l hl
  cases l with
  | zero => omega
  | succ l => rw [ev_, if_neg (by omega)]
theorem cw_cg {d e : Nat → Nat} : ∀ l, (∀ j, j < l → d j = e j) → cw_ d l = cw_ e l := by
  intro l
  induction l with
  | zero => intro _; rw [cw_, cw_]
  | succ l ih =>
    intro h
    rw [cw_, cw_, ih (fun j hj => h j (by omega)), h l (by omega)]
/-- word i is told by its value -/
theorem ev_iw {T : Nat → Int32} {t : Nat × Nat × Nat} {i : Nat} (hi : i < 9) (h1 : t.1 = 1) (hl : t.2.1 < t.2.2) (hd : ∀ j, t.2.1 ≤ j → j < t.2.2 → 97 ≤ T j ∧ T j ≤ 122) : ev_ T t.2.1 (t.2.2 - t.2.1) = wc_ i ↔ iw_ T t i = true := by
  obtain ⟨w1, w2, w0, w3⟩ := wc_c i hi
  have hc : ∀ j, j < t.2.2 - t.2.1 → ∃ c, 97 ≤ c ∧ c ≤ 122 ∧ T (t.2.1 + j) = nI c := fun j hj => nI_rng (a := 97) (b := 122) (by omega) (hd _ (by omega) (by omega)).1 (hd _ (by omega) (by omega)).2 (by omega)
  have we : ∀ j, j < ax_sln.getD i 0 → 1 ≤ (fun j => (sb_ i j).toNatClampNeg - 96) j ∧ (fun j => (sb_ i j).toNatClampNeg - 96) j ≤ 26 := fun j hj => by
    have := w3 j hj
    show 1 ≤ (sb_ i j).toNatClampNeg - 96 ∧ (sb_ i j).toNatClampNeg - 96 ≤ 26
    omega
  have wd : ∀ j, j < t.2.2 - t.2.1 → 1 ≤ (fun j => (T (t.2.1 + j)).toNatClampNeg - 96) j ∧ (fun j => (T (t.2.1 + j)).toNatClampNeg - 96) j ≤ 26 := fun j hj => by
    obtain ⟨c, a1, a2, a3⟩ := hc j hj
    show 1 ≤ (T (t.2.1 + j)).toNatClampNeg - 96 ∧ (T (t.2.1 + j)).toNatClampNeg - 96 ≤ 26
    rw [a3, nI_clamp (by omega)]
    omega
  rw [w1]
  by_cases z : t.2.2 - t.2.1 ≤ 12
  · rw [ev_val hc z _ (Nat.le_refl _)]
    constructor
    · intro q
      obtain ⟨c1, c2⟩ := cw_e z w2 wd we q
      refine decide_eq_true ⟨h1, c1, fun j hj => ?_⟩
      have hj2 : j < t.2.2 - t.2.1 := by omega
      have c3 : (T (t.2.1 + j)).toNatClampNeg - 96 = (sb_ i j).toNatClampNeg - 96 := c2 j hj2
      obtain ⟨c, a1, a2, a3⟩ := hc j hj2
      obtain ⟨e1, e2, e3⟩ := w3 j hj
      rw [a3, nI_clamp (by omega)] at c3
      rw [a3, e3, show c = (sb_ i j).toNatClampNeg by omega]
    · intro q
      obtain ⟨-, q2, q3⟩ := of_decide_eq_true q
      rw [q2]
      exact congrArg Int64.ofNat (cw_cg _ (fun j hj => by
        show (T (t.2.1 + j)).toNatClampNeg - 96 = (sb_ i j).toNatClampNeg - 96
        rw [q3 j hj]))
  · rw [ev_big _ (by omega)]
    constructor
    · intro q
      exact (cw_0 w2 w0 we q).elim
    · intro q
      exfalso
      obtain ⟨-, q2, -⟩ := of_decide_eq_true q
      omega
/-- a number's value on both sides -/
theorem nl_nv {T : Nat → Int32} {q l : Nat} (hl : l ≤ 6) (hd : ∀ j, j < l → 48 ≤ T (q + j) ∧ T (q + j) ≤ 57) : nl_ T q l = (nv_ T q l).toInt64 := by
  have hc : ∀ j, j < l → ∃ c, 48 ≤ c ∧ c ≤ 57 ∧ T (q + j) = nI c := fun j hj => nI_rng (a := 48) (b := 57) (by omega) (hd j hj).1 (hd j hj).2 (by omega)
  have key : ∀ m, m ≤ l → ∃ w, w < 10 ^ m ∧ nl_ T q m = Int64.ofNat w ∧ nv_ T q m = nI w := by
    intro m
    induction m with
    | zero => intro _; exact ⟨0, by decide, rfl, rfl⟩
    | succ m ih =>
      intro hm
      obtain ⟨w, h1, h2, h3⟩ := ih (by omega)
      obtain ⟨c, a1, a2, a3⟩ := hc m (by omega)
      refine ⟨w * 10 + (c - 48), by rw [Nat.pow_succ]; omega, ?_, ?_⟩
      · rw [nl_, if_pos (by omega), h2, a3]
        show 10 * _ + (Int32.ofNat c).toInt64 - 48 = _
        rw [i64_n (by omega), show c = (c - 48) + 48 by omega, i64_d, show c - 48 + 48 - 48 = c - 48 by omega]
      · rw [nv_, h3, a3]
        show Int32.ofNat w * 10 + Int32.ofNat c - 48 = Int32.ofNat _
        rw [show c = (c - 48) + 48 by omega, i32_d, show c - 48 + 48 - 48 = c - 48 by omega]
  obtain ⟨w, h1, h2, h3⟩ := key l (Nat.le_refl l)
  have p6 : 10 ^ l ≤ 10 ^ 6 := Nat.pow_le_pow_right (by omega) hl
  rw [h2, h3]
  exact (i64_n (by omega)).symm
