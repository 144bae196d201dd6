/-! Long.bitCount -/
theorem wb_tb (n : Nat) : (lN n).toBitVec = BitVec.ofNat 64 n := rfl
theorem wb_inj {a b : Int64} (h : a.toBitVec = b.toBitVec) : a = b := Int64.toBitVec_inj.mp h
theorem wb_tn {n : Nat} (h : n < 2 ^ 64) : (lN n).toBitVec.toNat = n := by rw [wb_tb, BitVec.toNat_ofNat, Nat.mod_eq_of_lt h]
theorem wb_of (x : Int64) : ∃ n, n < 2 ^ 64 ∧ x = lN n := ⟨x.toBitVec.toNat, x.toBitVec.isLt, wb_inj (by rw [wb_tb]; simp)⟩
theorem wb_cu : ∀ k, k < 64 → ((nI k).toInt64.toUInt64 &&& Int64.toUInt64 63) = UInt64.ofNat k := by decide +kernel
theorem wb_shr {n k : Nat} (hn : n < 2 ^ 64) (hk : k < 64) : ((lN n).toUInt64 >>> ((nI k).toInt64.toUInt64 &&& Int64.toUInt64 63)).toInt64 = lN (n / 2 ^ k) := by
  rw [wb_cu k hk]
  apply wb_inj
  apply BitVec.eq_of_toNat_eq
  show ((lN n).toUInt64 >>> UInt64.ofNat k).toNat = (BitVec.ofNat 64 _).toNat
  have h1 : (UInt64.ofNat k).toNat = k := by
    show (BitVec.ofNat 64 k).toNat = k
    rw [BitVec.toNat_ofNat, Nat.mod_eq_of_lt (by omega)]
  have h2 : (lN n).toUInt64.toNat = n := wb_tn hn
  rw [UInt64.toNat_shiftRight, h1, h2, Nat.mod_eq_of_lt hk, Nat.shiftRight_eq_div_pow, BitVec.toNat_ofNat, Nat.mod_eq_of_lt (Nat.lt_of_le_of_lt (Nat.div_le_self _ _) hn)]
theorem wb_and {a b : Nat} (ha : a < 2 ^ 64) (hb : b < 2 ^ 64) : lN a &&& lN b = lN (a &&& b) := by
  apply wb_inj
  rw [Int64.toBitVec_and, wb_tb, wb_tb, wb_tb]
  apply BitVec.eq_of_toNat_eq
  rw [BitVec.toNat_and, BitVec.toNat_ofNat, BitVec.toNat_ofNat, BitVec.toNat_ofNat, Nat.mod_eq_of_lt ha, Nat.mod_eq_of_lt hb, Nat.mod_eq_of_lt (Nat.and_lt_two_pow _ hb)]
theorem l_lN {n i : Nat} (hi : i < 64) : lb (lN n) i = n.testBit i := by
  show (BitVec.ofNat 64 n).getLsbD i = _
  rw [BitVec.getLsbD_ofNat]
  simp [hi]
theorem a256 (a m : Nat) {r c : Nat} (hr : r < 256) (hc : c < 256) : (256 * a + r) &&& (256 * m + c) = 256 * (a &&& m) + (r &&& c) := by
  apply Nat.eq_of_testBit_eq
  intro i
  have hrc : r &&& c < 2 ^ 8 := Nat.and_lt_two_pow _ hc
  rw [Nat.testBit_and, show 256 = 2 ^ 8 from rfl, Nat.testBit_two_pow_mul_add a hr, Nat.testBit_two_pow_mul_add m hc, Nat.testBit_two_pow_mul_add _ hrc]
  split
  · rw [Nat.testBit_and]
  · rw [Nat.testBit_and]
/-- a mask, byte for byte -/
def mk_ (c : Nat) : Nat → Nat
  | 0 => 0
  | n + 1 => 256 * mk_ c n + c
def b1 (n x : Nat) : Nat := x - ((x / 2) &&& mk_ 85 n)
def b2 (n x : Nat) : Nat := (b1 n x &&& mk_ 51 n) + ((b1 n x / 4) &&& mk_ 51 n)
def b3 (n x : Nat) : Nat := (b2 n x + b2 n x / 16) &&& mk_ 15 n
def p8 (b : Nat) : Nat := cnt (b.testBit) 8
theorem p8_t : ∀ b, b < 256 → ((b / 2) &&& 85 ≤ b ∧ b - ((b / 2) &&& 85) < 256) ∧ ((b - ((b / 2) &&& 85)) &&& 51) + (((b - ((b / 2) &&& 85)) / 4) &&& 51) < 69 ∧ (((b - ((b / 2) &&& 85)) &&& 51) + (((b - ((b / 2) &&& 85)) / 4) &&& 51)) % 16 ≤ 4 ∧ (((b - ((b / 2) &&& 85)) &&& 51) + (((b - ((b / 2) &&& 85)) / 4) &&& 51)) / 16 ≤ 4 ∧ ((((b - ((b / 2) &&& 85)) &&& 51) + (((b - ((b / 2) &&& 85)) / 4) &&& 51)) + (((b - ((b / 2) &&& 85)) &&& 51) + (((b - ((b / 2) &&& 85)) / 4) &&& 51)) / 16) % 16 = p8 b ∧ p8 b ≤ 8 := by decide +kernel
theorem k85 : ∀ k, k < 2 → ∀ r, r < 128 → (128 * k + r) &&& 85 = r &&& 85 := by decide +kernel
theorem k51 : ∀ k, k < 4 → ∀ r, r < 64 → (64 * k + r) &&& 51 = r &&& 51 := by decide +kernel
theorem b1_s (n y : Nat) {b : Nat} (hb : b < 256) (hy : (y / 2) &&& mk_ 85 n ≤ y) : b1 (n + 1) (256 * y + b) = 256 * b1 n y + (b - ((b / 2) &&& 85)) ∧ ((256 * y + b) / 2) &&& mk_ 85 (n + 1) ≤ 256 * y + b := by
  have e : (256 * y + b) / 2 = 256 * (y / 2) + (128 * (y % 2) + b / 2) := by omega
  have h1 := (p8_t b hb).1
  have e85 : mk_ 85 (n + 1) = 256 * mk_ 85 n + 85 := rfl
  unfold b1
  rw [e85, e, a256 _ _ (by omega) (by omega), k85 _ (by omega) _ (by omega)]
  omega
theorem b2_s (n y : Nat) {b : Nat} (hb : b < 256) (hy : (y / 2) &&& mk_ 85 n ≤ y) : b2 (n + 1) (256 * y + b) = 256 * b2 n y + (((b - ((b / 2) &&& 85)) &&& 51) + (((b - ((b / 2) &&& 85)) / 4) &&& 51)) := by
  have h1 := (p8_t b hb).1
  unfold b2
  rw [(b1_s n y hb hy).1]
  generalize b1 n y = z
  generalize b - ((b / 2) &&& 85) = c at h1 ⊢
  have e : (256 * z + c) / 4 = 256 * (z / 4) + (64 * (z % 4) + c / 4) := by omega
  rw [mk_, a256 _ _ h1.2 (by omega), e, a256 _ _ (by omega) (by omega), k51 _ (by omega) _ (by omega)]
  omega
theorem b3_s (n y : Nat) {b : Nat} (hb : b < 256) (hy : (y / 2) &&& mk_ 85 n ≤ y) (h4 : b2 n y % 16 ≤ 4) : b3 (n + 1) (256 * y + b) = 256 * b3 n y + p8 b ∧ b2 (n + 1) (256 * y + b) % 16 ≤ 4 := by
  obtain ⟨-, t1, t2, t3, t4, t5⟩ := p8_t b hb
  unfold b3
  rw [b2_s n y hb hy]
  generalize b2 n y = z at h4 ⊢
  generalize ((b - ((b / 2) &&& 85)) &&& 51) + (((b - ((b / 2) &&& 85)) / 4) &&& 51) = c at t1 t2 t3 t4 ⊢
  refine ⟨?_, by omega⟩
  have e : 256 * z + c + (256 * z + c) / 16 = 256 * (z + z / 16) + (c + 16 * (z % 16) + c / 16) := by omega
  have e15 : ∀ r, r &&& 15 = r % 16 := fun r => Nat.and_two_pow_sub_one_eq_mod r 4
  rw [mk_, e, a256 _ _ (by omega) (by omega), e15]
  omega
/-- the counts of the bytes, byte for byte -/
def pd_ : Nat → Nat → Nat
  | 0, _ => 0
  | n + 1, x => 256 * pd_ n (x / 256) + p8 (x % 256)
theorem b_all : ∀ (n x : Nat), x < 256 ^ n → b3 n x = pd_ n x ∧ ((x / 2) &&& mk_ 85 n ≤ x) ∧ b2 n x % 16 ≤ 4 := by
  intro n
  induction n with
  | zero =>
    intro x hx
    obtain rfl : x = 0 := by simpa using hx
    decide
  | succ n ih =>
    intro x hx
    have hd : x = 256 * (x / 256) + x % 256 := by omega
    obtain ⟨h1, h2, h3⟩ := ih (x / 256) (by rw [Nat.pow_succ] at hx; omega)
    have hb : x % 256 < 256 := by omega
    obtain ⟨g1, g2⟩ := b3_s n (x / 256) hb h2 h3
    have g3 := (b1_s n (x / 256) hb h2).2
    rw [← hd] at g1 g2 g3
    exact ⟨by rw [g1, h1, pd_], g3, g2⟩
theorem cnt_cg {p q : Nat → Bool} {n : Nat} (h : ∀ i, i < n → p i = q i) : cnt p n = cnt q n := by
  induction n with
  | zero => rfl
  | succ n ih => rw [cnt, cnt, ih (fun i hi => h i (by omega)), h n (by omega)]
theorem cnt_add (p : Nat → Bool) (a : Nat) : ∀ b, cnt p (a + b) = cnt p a + cnt (fun i => p (a + i)) b := by
  intro b
  induction b with
  | zero => rfl
  | succ b ih =>
    rw [show a + (b + 1) = (a + b) + 1 by omega, cnt, cnt, ih]
    omega
theorem cnt_8 (x m : Nat) : cnt (x.testBit) (8 + m) = p8 (x % 256) + cnt ((x / 256).testBit) m := by
  rw [cnt_add]
  congr 1
  · refine cnt_cg (fun i hi => ?_)
    rw [show 256 = 2 ^ 8 from rfl, Nat.testBit_mod_two_pow]
    simp [hi]
  · refine cnt_cg (fun i _ => ?_)
    rw [show 256 = 2 ^ 8 from rfl, Nat.testBit_div_two_pow, Nat.add_comm]
theorem kb_1 : Jvm.Cond.constantLong "java/lang/Long" 314 6148914691236517205 ∈ ax_tbl := ax_in (by decide +kernel) rfl
theorem kb_2 : Jvm.Cond.constantLong "java/lang/Long" 316 3689348814741910323 ∈ ax_tbl := ax_in (by decide +kernel) rfl
theorem kb_3 : Jvm.Cond.constantLong "java/lang/Long" 318 1085102592571150095 ∈ ax_tbl := ax_in (by decide +kernel) rfl
theorem and_le64 {a b : Nat} (hb : b < 2 ^ 64) : a &&& b < 2 ^ 64 := Nat.and_lt_two_pow _ hb
theorem dv1 {a b : Nat} (ha : a < 256) : (a + 256 * b) / 256 = b := by omega
theorem dv2 {a b c : Nat} (ha : a < 256) (hb : b < 256) : (a + 256 * (b + 256 * c)) / 65536 = c := by omega
theorem dv4 {a b c d e : Nat} (ha : a < 256) (hb : b < 256) (hc : c < 256) (hd : d < 256) : (a + 256 * (b + 256 * (c + 256 * (d + 256 * e)))) / 4294967296 = e := by omega
theorem q_lt {p0 p1 p2 p3 p4 p5 p6 p7 y : Nat} (g0 : p0 ≤ 8) (g1 : p1 ≤ 8) (g2 : p2 ≤ 8) (g3 : p3 ≤ 8) (g4 : p4 ≤ 8) (g5 : p5 ≤ 8) (g6 : p6 ≤ 8) (g7 : p7 ≤ 8) (ev : y = p0 + 256 * (p1 + 256 * (p2 + 256 * (p3 + 256 * (p4 + 256 * (p5 + 256 * (p6 + 256 * (p7)))))))) : y < 2 ^ 60 := by omega
theorem q_l2 {y z : Nat} (h : y < 2 ^ 60) (e : z = y + y / 256) : z < 2 ^ 61 := by omega
theorem q_l3 {y z : Nat} (h : y < 2 ^ 61) (e : z = y + y / 65536) : z < 2 ^ 62 := by omega
theorem q_up {y k : Nat} (h : y < 2 ^ k) (hk : k ≤ 64) : y < 2 ^ 64 := Nat.lt_of_lt_of_le h (Nat.pow_le_pow_right (by decide) hk)
theorem q_all {p0 p1 p2 p3 p4 p5 p6 p7 y y2 y3 : Nat} (g0 : p0 ≤ 8) (g1 : p1 ≤ 8) (g2 : p2 ≤ 8) (g3 : p3 ≤ 8) (g4 : p4 ≤ 8) (g5 : p5 ≤ 8) (g6 : p6 ≤ 8) (g7 : p7 ≤ 8) (ev : y = p0 + 256 * (p1 + 256 * (p2 + 256 * (p3 + 256 * (p4 + 256 * (p5 + 256 * (p6 + 256 * (p7)))))))) (e2 : y2 = y + y / 256) (e3 : y3 = y2 + y2 / 65536) : ∃ K, y3 + y3 / 4294967296 = (p0 + p1 + p2 + p3 + p4 + p5 + p6 + p7) + 256 * K := by
  have f1 : y / 256 = p1 + 256 * (p2 + 256 * (p3 + 256 * (p4 + 256 * (p5 + 256 * (p6 + 256 * (p7)))))) := by rw [ev]; exact dv1 (by omega)
  have f2 : y2 = (p0 + p1) + 256 * ((p1 + p2) + 256 * ((p2 + p3) + 256 * ((p3 + p4) + 256 * ((p4 + p5) + 256 * ((p5 + p6) + 256 * ((p6 + p7) + 256 * (p7))))))) := by rw [e2, f1, ev]; generalize 256 = k; simp only [Nat.mul_add]; ac_rfl
  have f3 : y2 / 65536 = (p2 + p3) + 256 * ((p3 + p4) + 256 * ((p4 + p5) + 256 * ((p5 + p6) + 256 * ((p6 + p7) + 256 * (p7))))) := by rw [f2]; exact dv2 (by omega) (by omega)
  have f4 : y3 = (p0 + p1 + p2 + p3) + 256 * ((p1 + p2 + p3 + p4) + 256 * ((p2 + p3 + p4 + p5) + 256 * ((p3 + p4 + p5 + p6) + 256 * ((p4 + p5 + p6 + p7) + 256 * ((p5 + p6 + p7) + 256 * ((p6 + p7) + 256 * ((p7)))))))) := by rw [e3, f3, f2]; generalize 256 = k; simp only [Nat.mul_add]; ac_rfl
  have f5 : y3 / 4294967296 = (p4 + p5 + p6 + p7) + 256 * ((p5 + p6 + p7) + 256 * ((p6 + p7) + 256 * ((p7)))) := by rw [f4]; exact dv4 (by omega) (by omega) (by omega) (by omega)
  refine ⟨(p1 + p2 + p3 + p4 + p5 + p6 + p7) + 256 * ((p2 + p3 + p4 + p5 + p6 + p7) + 256 * ((p3 + p4 + p5 + p6 + p7) + 256 * ((p4 + p5 + p6 + p7) + 256 * ((p5 + p6 + p7) + 256 * ((p6 + p7) + 256 * ((p7))))))), ?_⟩
  rw [f5, f4]
  generalize 256 = k
  simp only [Nat.mul_add]
  ac_rfl
theorem q_md {p0 p1 p2 p3 p4 p5 p6 p7 K : Nat} (g0 : p0 ≤ 8) (g1 : p1 ≤ 8) (g2 : p2 ≤ 8) (g3 : p3 ≤ 8) (g4 : p4 ≤ 8) (g5 : p5 ≤ 8) (g6 : p6 ≤ 8) (g7 : p7 ≤ 8) : (p0 + p1 + p2 + p3 + p4 + p5 + p6 + p7 + 256 * K) % 2 ^ 32 % 2 ^ 7 = p0 + p1 + p2 + p3 + p4 + p5 + p6 + p7 := by omega
theorem m_Long_bitCount {g : ax_Y} {M : ax_M} {Q : Option Value → ax_M → Prop} {h : Nat} {w : Int64} (hq : Q (some (.int (nI (cnt (lb w) 64)))) M) : ax_G g mt_Long_bitCount h 0 0 0 [.long w, .float 0] [] M Q := by
  obtain ⟨x, hx, rfl⟩ := wb_of w
  obtain ⟨h3, h1, -⟩ := b_all 8 x (by simpa using hx)
  have hc : cnt (lb (lN x)) 64 = cnt (x.testBit) 64 := cnt_cg (fun i hi => l_lN hi)
  have m85 : mk_ 85 8 = 6148914691236517205 := by decide
  have m51 : mk_ 51 8 = 3689348814741910323 := by decide
  have m15 : mk_ 15 8 = 1085102592571150095 := by decide
  refine s_lload_n 1 rfl rfl rfl ?_
  refine s_lload_n 2 rfl rfl rfl ?_
  refine s_iconst 1 3 rfl rfl (by decide) ?_
  refine s_lushr 4 rfl rfl ?_
  rw [show (1 : Int32) = nI 1 from rfl, wb_shr hx (by omega)]
  refine s_ldc2_w 6148914691236517205 7 rfl rfl kb_1 ?_
  refine s_land 8 rfl rfl ?_
  rw [show (6148914691236517205 : Int64) = lN 6148914691236517205 from rfl, wb_and (by omega) (by omega)]
  refine s_lsub 9 rfl rfl ?_
  rw [← m85, show x / 2 ^ 1 = x / 2 from rfl, lN_sub h1, show x - (x / 2 &&& mk_ 85 8) = b1 8 x from rfl]
  have q1 : b1 8 x < 2 ^ 64 := by unfold b1; omega
  refine s_lst0 10 rfl rfl ?_
  refine s_lload_n 11 rfl rfl rfl ?_
  refine s_ldc2_w 3689348814741910323 14 rfl rfl kb_2 ?_
  refine s_land 15 rfl rfl ?_
  rw [show (3689348814741910323 : Int64) = lN 3689348814741910323 from rfl, wb_and q1 (by omega)]
  refine s_lload_n 16 rfl rfl rfl ?_
  refine s_iconst 2 17 rfl rfl (by decide) ?_
  refine s_lushr 18 rfl rfl ?_
  rw [show (2 : Int32) = nI 2 from rfl, wb_shr q1 (by omega)]
  refine s_ldc2_w 3689348814741910323 21 rfl rfl kb_2 ?_
  refine s_land 22 rfl rfl ?_
  rw [show (3689348814741910323 : Int64) = lN 3689348814741910323 from rfl, wb_and (by omega) (by omega)]
  refine s_ladd 23 rfl rfl ?_
  rw [lN_add, ← m51, show b1 8 x / 2 ^ 2 = b1 8 x / 4 from rfl, show (b1 8 x &&& mk_ 51 8) + (b1 8 x / 4 &&& mk_ 51 8) = b2 8 x from rfl]
  have q2 : b2 8 x < 2 ^ 64 := by
    have z1 : b1 8 x &&& mk_ 51 8 ≤ 3689348814741910323 := by rw [m51]; exact Nat.and_le_right
    have z2 : b1 8 x / 4 &&& mk_ 51 8 ≤ 3689348814741910323 := by rw [m51]; exact Nat.and_le_right
    unfold b2
    omega
  have q2' : b2 8 x + b2 8 x / 16 < 2 ^ 64 := by
    have z1 : b1 8 x &&& mk_ 51 8 ≤ 3689348814741910323 := by rw [m51]; exact Nat.and_le_right
    have z2 : b1 8 x / 4 &&& mk_ 51 8 ≤ 3689348814741910323 := by rw [m51]; exact Nat.and_le_right
    have : b2 8 x ≤ 7378697629483820646 := by unfold b2; omega
    omega
  refine s_lst0 24 rfl rfl ?_
  refine s_lload_n 25 rfl rfl rfl ?_
  refine s_lload_n 26 rfl rfl rfl ?_
  refine s_iconst 4 27 rfl rfl (by decide) ?_
  refine s_lushr 28 rfl rfl ?_
  rw [show (4 : Int32) = nI 4 from rfl, wb_shr q2 (by omega)]
  refine s_ladd 29 rfl rfl ?_
  rw [lN_add, show b2 8 x / 2 ^ 4 = b2 8 x / 16 from rfl]
  refine s_ldc2_w 1085102592571150095 32 rfl rfl kb_3 ?_
  refine s_land 33 rfl rfl ?_
  rw [show (1085102592571150095 : Int64) = lN 1085102592571150095 from rfl, wb_and q2' (by omega), ← m15, show (b2 8 x + b2 8 x / 16 &&& mk_ 15 8) = b3 8 x from rfl, h3]
  have l8 : ∀ b, p8 (b % 256) ≤ 8 := fun b => (p8_t (b % 256) (by omega)).2.2.2.2.2
  have hv : ∃ p0 p1 p2 p3 p4 p5 p6 p7, p0 ≤ 8 ∧ p1 ≤ 8 ∧ p2 ≤ 8 ∧ p3 ≤ 8 ∧ p4 ≤ 8 ∧ p5 ≤ 8 ∧ p6 ≤ 8 ∧ p7 ≤ 8 ∧ pd_ 8 x = p0 + 256 * (p1 + 256 * (p2 + 256 * (p3 + 256 * (p4 + 256 * (p5 + 256 * (p6 + 256 * p7)))))) ∧ cnt (x.testBit) 64 = p0 + p1 + p2 + p3 + p4 + p5 + p6 + p7 := by
    refine ⟨p8 (x % 256), p8 (x / 256 % 256), p8 (x / 256 / 256 % 256), p8 (x / 256 / 256 / 256 % 256), p8 (x / 256 / 256 / 256 / 256 % 256), p8 (x / 256 / 256 / 256 / 256 / 256 % 256), p8 (x / 256 / 256 / 256 / 256 / 256 / 256 % 256), p8 (x / 256 / 256 / 256 / 256 / 256 / 256 / 256 % 256), l8 _, l8 _, l8 _, l8 _, l8 _, l8 _, l8 _, l8 _, ?_, ?_⟩
    · simp only [pd_]
      generalize 256 = k
      simp only [Nat.mul_add, Nat.mul_zero, Nat.add_zero, Nat.zero_add]
      ac_rfl
    · rw [show 64 = 8 + (8 + (8 + (8 + (8 + (8 + (8 + (8 + 0))))))) from rfl, cnt_8, cnt_8, cnt_8, cnt_8, cnt_8, cnt_8, cnt_8, cnt_8, cnt, Nat.add_zero]
      ac_rfl
  obtain ⟨p0, p1, p2, p3, p4, p5, p6, p7, g0, g1, g2, g3, g4, g5, g6, g7, ev, ec⟩ := hv
  generalize pd_ 8 x = y at ev ⊢
  have r1 := q_lt g0 g1 g2 g3 g4 g5 g6 g7 ev
  refine s_lst0 34 rfl rfl ?_
  refine s_lload_n 35 rfl rfl rfl ?_
  refine s_lload_n 36 rfl rfl rfl ?_
  refine s_bipush 8 38 rfl rfl (by decide) ?_
  refine s_lushr 39 rfl rfl ?_
  rw [show (8 : Int32) = nI 8 from rfl, wb_shr (q_up r1 (by decide)) (by decide)]
  refine s_ladd 40 rfl rfl ?_
  rw [lN_add, show y / 2 ^ 8 = y / 256 from rfl]
  obtain ⟨y2, e2⟩ : ∃ z, z = y + y / 256 := ⟨_, rfl⟩
  rw [← e2]
  refine s_lst0 41 rfl rfl ?_
  refine s_lload_n 42 rfl rfl rfl ?_
  refine s_lload_n 43 rfl rfl rfl ?_
  refine s_bipush 16 45 rfl rfl (by decide) ?_
  refine s_lushr 46 rfl rfl ?_
  rw [show (16 : Int32) = nI 16 from rfl, wb_shr (q_up (q_l2 r1 e2) (by decide)) (by decide)]
  refine s_ladd 47 rfl rfl ?_
  rw [lN_add, show y2 / 2 ^ 16 = y2 / 65536 from rfl]
  obtain ⟨y3, e3⟩ : ∃ z, z = y2 + y2 / 65536 := ⟨_, rfl⟩
  rw [← e3]
  refine s_lst0 48 rfl rfl ?_
  refine s_lload_n 49 rfl rfl rfl ?_
  refine s_lload_n 50 rfl rfl rfl ?_
  refine s_bipush 32 52 rfl rfl (by decide) ?_
  refine s_lushr 53 rfl rfl ?_
  rw [show (32 : Int32) = nI 32 from rfl, wb_shr (q_up (q_l3 (q_l2 r1 e2) e3) (by decide)) (by decide)]
  refine s_ladd 54 rfl rfl ?_
  rw [lN_add, show y3 / 2 ^ 32 = y3 / 4294967296 from rfl]
  refine s_lst0 55 rfl rfl ?_
  refine s_lload_n 56 rfl rfl rfl ?_
  refine s_l2i 57 rfl rfl ?_
  rw [lN_i]
  refine s_bipush 127 59 rfl rfl (by decide) ?_
  refine s_iand 60 rfl rfl ?_
  obtain ⟨K, f6⟩ := q_all g0 g1 g2 g3 g4 g5 g6 g7 ev e2 e3
  have e4 : nI (y3 + y3 / 4294967296) &&& 127 = nI (cnt (lb (lN x)) 64) := by
    rw [pk_and _ (m := 127) 7 (by decide), hc, ec]
    congr 1
    show (BitVec.ofNat 32 _).toNat % 2 ^ 7 = _
    rw [BitVec.toNat_ofNat, f6]
    exact q_md g0 g1 g2 g3 g4 g5 g6 g7
  rw [e4]
  exact s_ireturn rfl .int rfl rfl hq
