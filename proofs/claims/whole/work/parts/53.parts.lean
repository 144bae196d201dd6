/-! paths and patterns: check, set -/
def lt_ (x : Int32) : Bool := decide (97 ≤ x ∧ x ≤ 122)
def pb_ (ip : Bool) (x : Int32) : Bool := lt_ x || decide (x = 46) || decide (x = 95) || (ip && decide (x = 42))
/-- how many bytes its part has ahead of byte i -/
def pa_ (b : Nat → Int32) : Nat → Nat
  | 0 => 0
  | i + 1 => if b i = 47 then 0 else pa_ b i + 1
theorem pa_le (b : Nat → Int32) : ∀ i, pa_ b i ≤ i := by
  intro i
  induction i with
  | zero => exact Nat.le_refl 0
  | succ i ih => rw [pa_]; split <;> omega
def db_ (b : Nat → Int32) (i : Nat) : Bool := decide (pa_ b i = 2 ∧ b (i - 1) = 42 ∧ b (i - 2) = 42)
def my_ (b : Nat → Int32) (ip : Bool) (i : Nat) : Bool := if b i = 47 then decide (0 < pa_ b i) else if b i = 42 then ip && !db_ b i && decide (pa_ b i = 0 ∨ b (i - 1) ≠ 42 ∨ pa_ b i = 1) else (lt_ (b i) || decide (b i = 46) || decide (b i = 95)) && !db_ b i
/-- the class's own words for it -/
def sc_ (b : Nat → Int32) (i : Nat) : Bool := decide (b i = 42 ∧ 0 < pa_ b i ∧ b (i - 1) = 42)
def sd_ (b : Nat → Int32) (ip : Bool) (i : Nat) : Bool := if b i = 47 then decide (0 < pa_ b i) else !db_ b i && pb_ ip (b i)
theorem ok_my (b : Nat → Int32) (ip : Bool) (i : Nat) : (sd_ b ip i = true ∧ ¬ (sc_ b i = true ∧ 1 < pa_ b i)) ↔ my_ b ip i = true := by
  unfold sd_ my_ sc_ pb_
  by_cases h1 : b i = 47
  · rw [if_pos h1, if_pos h1]
    constructor
    · exact fun q => q.1
    · intro q
      refine ⟨q, fun z => ?_⟩
      have := (of_decide_eq_true z.1).1
      rw [h1] at this
      exact absurd this (by decide)
  · rw [if_neg h1, if_neg h1]
    by_cases h2 : b i = 42
    · rw [if_pos h2, h2]
      have e1 : lt_ 42 = false := by decide
      have e2 : decide ((42 : Int32) = 46) = false := by decide
      have e3 : decide ((42 : Int32) = 95) = false := by decide
      have e4 : decide ((42 : Int32) = 42) = true := by decide
      rw [e1, e2, e3, e4]
      simp only [Bool.false_or, Bool.and_true, Bool.and_eq_true, decide_eq_true_eq, Bool.not_eq_true', true_and]
      constructor
      · rintro ⟨⟨q1, q2⟩, q3⟩
        refine ⟨⟨q2, q1⟩, ?_⟩
        by_cases z : pa_ b i = 0
        · exact Or.inl z
        · by_cases z2 : b (i - 1) = 42
          · refine Or.inr (Or.inr ?_)
            by_cases z3 : 1 < pa_ b i
            · exact absurd ⟨⟨by omega, z2⟩, z3⟩ q3
            · omega
          · exact Or.inr (Or.inl z2)
      · rintro ⟨⟨q1, q2⟩, q3⟩
        refine ⟨⟨q2, q1⟩, fun z => ?_⟩
        rcases q3 with q | q | q
        · omega
        · exact q z.1.2
        · omega
    · rw [if_neg h2, decide_eq_false h2]
      simp only [Bool.and_false, Bool.or_false, h2, false_and, decide_false, Bool.and_eq_true, Bool.false_eq_true, not_false_eq_true, and_true]
      exact ⟨fun q => ⟨q.2, q.1⟩, fun q => ⟨q.2, q.1⟩⟩
theorem db_s {b : Nat → Int32} {ip : Bool} {i : Nat} (h : my_ b ip i = true) : db_ b (i + 1) = sc_ b i := by
  have h3 := ((ok_my b ip i).mpr h).2
  unfold db_ sc_ at *
  have hp : b i = 42 → pa_ b (i + 1) = pa_ b i + 1 := by
    intro q
    rw [pa_, if_neg (by rw [q]; decide)]
  rw [show i + 1 - 1 = i by omega, show i + 1 - 2 = i - 1 by omega]
  rw [decide_eq_decide]
  constructor
  · rintro ⟨q1, q2, q3⟩
    have := hp q2
    exact ⟨q2, by omega, q3⟩
  · rintro ⟨q1, q2, q3⟩
    have e := hp q1
    have : ¬ 1 < pa_ b i := fun z => h3 ⟨decide_eq_true ⟨q1, q2, q3⟩, z⟩
    exact ⟨by omega, q1, q3⟩
/-- r is the place of the fault in b of n bytes, or -1 -/
def ft_ (b : Nat → Int32) (ip : Bool) (n : Nat) (r : Int32) : Prop := (∃ i, i < n ∧ i ≤ 24 ∧ (i = 24 ∨ my_ b ip i = false) ∧ (∀ j, j < i → my_ b ip j = true) ∧ r = nI i) ∨ ((n ≤ 24 ∧ ∀ j, j < n → my_ b ip j = true) ∧ r = if pa_ b n = 0 ∧ (0 < n ∨ ip = true) then nI n else -1)
theorem ft_u {b : Nat → Int32} {ip : Bool} {n : Nat} {r s : Int32} (h1 : ft_ b ip n r) (h2 : ft_ b ip n s) : r = s := by
  rcases h1 with ⟨i, a1, a2, a3, a4, a5⟩ | ⟨⟨a1, a2⟩, a3⟩
  · rcases h2 with ⟨j, b1, b2, b3, b4, b5⟩ | ⟨⟨b1, b2⟩, b3⟩
    · rcases Nat.lt_trichotomy i j with z | z | z
      · rcases a3 with q | q
        · omega
        · rw [b4 i z] at q; cases q
      · rw [a5, b5, z]
      · rcases b3 with q | q
        · omega
        · rw [a4 j z] at q; cases q
    · rcases a3 with q | q
      · omega
      · rw [b2 i a1] at q; cases q
  · rcases h2 with ⟨j, b1, b2, b3, b4, b5⟩ | ⟨⟨b1, b2⟩, b3⟩
    · rcases b3 with q | q
      · omega
      · rw [a2 j b1] at q; cases q
    · rw [a3, b3]
section PARTS
variable {g : ax_Y} {M : ax_M} {Q : Option Value → ax_M → Prop} {h : Nat}
theorem m_Tokens_isLetter {x : Int32} (hq : Q (some (.int (bi (lt_ x = true)))) M) : ax_G g mt_Tokens_isLetter h 0 0 0 [.int x] [] M Q := by
  unfold lt_ at hq
  refine s_iload_n 1 rfl rfl rfl ?_
  refine s_bipush 97 3 rfl rfl (by decide) ?_
  refine s_icmp_lt 16 6 rfl rfl (by decide) (fun c1 => ?_) (fun c1 => ?_)
  -- Tokens_isLetter 6: branch 16 6
  · rw [bi_f (fun q => absurd c1 (Int32.not_lt.mpr (of_decide_eq_true q).1))] at hq
    refine s_iconst 0 17 rfl rfl (by decide) ?_
    -- Tokens_isLetter 17: ireturn
    exact s_ireturn rfl .boolean rfl rfl (hq)
  · refine s_iload_n 7 rfl rfl rfl ?_
    refine s_bipush 122 9 rfl rfl (by decide) ?_
    refine s_icmp_gt 16 12 rfl rfl (by decide) (fun c2 => ?_) (fun c2 => ?_)
    -- Tokens_isLetter 12: branch 16 12
    · rw [bi_f (fun q => absurd c2 (Int32.not_lt.mpr (of_decide_eq_true q).2))] at hq
      refine s_iconst 0 17 rfl rfl (by decide) ?_
      -- Tokens_isLetter 17: ireturn
      exact s_ireturn rfl .boolean rfl rfl (hq)
    · rw [bi_t (decide_eq_true ⟨Int32.not_lt.mp c1, Int32.not_lt.mp c2⟩)] at hq
      refine s_iconst 1 13 rfl rfl (by decide) ?_
      refine s_goto 17 rfl (by decide) ?_
      -- Tokens_isLetter 17: ireturn
      exact s_ireturn rfl .boolean rfl rfl (hq)
theorem m_Parts_isPartByte {ip : Bool} {x : Int32} (hq : Q (some (.int (bi (pb_ ip x = true)))) M) : ax_G g mt_Parts_isPartByte (h + 1) 0 0 0 [.int x, .int (bi (ip = true))] [] M Q := by
  unfold pb_ at hq
  refine s_iload_n 1 rfl rfl rfl ?_
  refine c_callS1 h 4 rfl rfl mv_Parts_36 (by omega) (Nat.le_of_ble_eq_true rfl) (Nat.le_of_ble_eq_true rfl) ?_
  -- Parts_isPartByte 4: call Tokens_isLetter
  refine m_Tokens_isLetter ?_
  dsimp only [ax_rs]
  refine s_if_ne 29 7 rfl rfl (by decide) (fun c1 => ?_) (fun c1 => ?_)
  -- Parts_isPartByte 7: branch 29 7
  · rw [b01] at c1
    rw [bi_t (by simp [c1])] at hq
    refine s_iconst 1 30 rfl rfl (by decide) ?_
    refine s_goto 34 rfl (by decide) ?_
    -- Parts_isPartByte 34: ireturn
    exact s_ireturn rfl .boolean rfl rfl (hq)
  · rw [b01] at c1
    refine s_iload_n 8 rfl rfl rfl ?_
    refine s_bipush 46 10 rfl rfl (by decide) ?_
    refine s_icmp_eq 29 13 rfl rfl (by decide) (fun c2 => ?_) (fun c2 => ?_)
    -- Parts_isPartByte 13: branch 29 13
    · rw [bi_t (by simp [c2])] at hq
      refine s_iconst 1 30 rfl rfl (by decide) ?_
      refine s_goto 34 rfl (by decide) ?_
      -- Parts_isPartByte 34: ireturn
      exact s_ireturn rfl .boolean rfl rfl (hq)
    · refine s_iload_n 14 rfl rfl rfl ?_
      refine s_bipush 95 16 rfl rfl (by decide) ?_
      refine s_icmp_eq 29 19 rfl rfl (by decide) (fun c3 => ?_) (fun c3 => ?_)
      -- Parts_isPartByte 19: branch 29 19
      · rw [bi_t (by simp [c3])] at hq
        refine s_iconst 1 30 rfl rfl (by decide) ?_
        refine s_goto 34 rfl (by decide) ?_
        -- Parts_isPartByte 34: ireturn
        exact s_ireturn rfl .boolean rfl rfl (hq)
      · refine s_iload_n 20 rfl rfl rfl ?_
        refine s_if_eq 33 23 rfl rfl (by decide) (fun c4 => ?_) (fun c4 => ?_)
        -- Parts_isPartByte 23: branch 33 23
        · rw [b01] at c4
          rw [bi_f (by simp [c1, c2, c3, c4])] at hq
          refine s_iconst 0 34 rfl rfl (by decide) ?_
          -- Parts_isPartByte 34: ireturn
          exact s_ireturn rfl .boolean rfl rfl (hq)
        · rw [b01] at c4
          refine s_iload_n 24 rfl rfl rfl ?_
          refine s_bipush 42 26 rfl rfl (by decide) ?_
          refine s_icmp_ne 33 29 rfl rfl (by decide) (fun c5 => ?_) (fun c5 => ?_)
          -- Parts_isPartByte 29: branch 33 29
          · rw [bi_f (by simp [c1, c2, c3, c5])] at hq
            refine s_iconst 0 34 rfl rfl (by decide) ?_
            -- Parts_isPartByte 34: ireturn
            exact s_ireturn rfl .boolean rfl rfl (hq)
          · rw [bi_t (by simp [c5]; exact Or.inr (by simpa using c4))] at hq
            refine s_iconst 1 30 rfl rfl (by decide) ?_
            refine s_goto 34 rfl (by decide) ?_
            -- Parts_isPartByte 34: ireturn
            exact s_ireturn rfl .boolean rfl rfl (hq)
theorem m_Parts_check {ip : Bool} {n : Nat} {f b : Nat → Int32} (h_text : oC M 1 7 [.ref 2, .int (nI n)]) (h_bytes : bA M 2 160 f) (hn : n ≤ 160) (hb : ∀ j, j < n → f j &&& 255 = b j) (hq : ∀ r, ft_ b ip n r → Q (some (.int (if r = -1 then nI n else -10 - r))) M) : ax_G g mt_Parts_check (h + 2) 0 0 0 [.ref 1, .int (bi (ip = true)), .float 0, .float 0, .float 0, .float 0, .float 0, .float 0, .float 0] [] M Q := by
  refine s_iconst 0 1 rfl rfl (by decide) ?_
  refine s_ist2 2 rfl rfl rfl ?_
  refine s_iconst 0 3 rfl rfl (by decide) ?_
  refine s_ist3 4 rfl rfl rfl ?_
  refine s_iconst 0 5 rfl rfl (by decide) ?_
  refine s_ist4 7 rfl rfl rfl ?_
  -- Parts_check 7: end
  have loop : ∀ (d i : Nat) (z5 z6 z7 z8 : Value), z5.category = 1 → z6.category = 1 → z7.category = 1 → z8.category = 1 → i + d = n → i ≤ 24 → (∀ j, j < i → my_ b ip j = true) → ax_G g mt_Parts_check (h + 2) 0 0 7 [.ref 1, .int (bi (ip = true)), .int (nI (pa_ b i)), .int (bi (db_ b i = true)), .int (nI i), z5, z6, z7, z8] [] M Q := by
    intro d
    induction d with
    | zero =>
      intro i z5 z6 z7 z8 w5 w6 w7 w8 hi h24 hm
      obtain rfl : i = n := by omega
      have pl := pa_le b i
      have hq := hq _ (Or.inr ⟨⟨h24, hm⟩, rfl⟩)
      refine s_iload 9 rfl rfl rfl ?_
      refine s_aload_n 10 rfl rfl rfl ?_
      refine c_callV0 (h+1) 13 rfl rfl mv_Parts_24 (by omega) (Nat.le_of_ble_eq_true rfl) (Nat.le_of_ble_eq_true rfl) h_text rfl rfl ?_
      -- Parts_check 13: call Row_size
      refine m_Row_size h_text ?_
      dsimp only [ax_rs]
      refine s_icmp_ge 156 16 rfl rfl (by decide) (fun c1 => ?_) (fun c1 => ?_)
      -- Parts_check 16: branch 156 16
      · have k172 : ax_G g mt_Parts_check (h + 2) 0 0 172 [.ref 1, .int (bi (ip = true)), .int (nI (pa_ b i)), .int (bi (db_ b i = true)), .int (nI i), z5, z6, z7, z8] [.int (bi (ip = false ∧ i = 0))] M Q := by
          refine s_ist4 174 rfl rfl rfl ?_
          refine s_iload_n 175 rfl rfl rfl ?_
          refine s_if_gt 183 178 rfl rfl (by decide) (fun c2 => ?_) (fun c2 => ?_)
          -- Parts_check 178: branch 183 178
          · have c2 : 0 < pa_ b i := nn_lt (a := 0) c2
            rw [if_neg (show ¬ (pa_ b i = 0 ∧ (0 < i ∨ ip = true)) by omega), if_pos rfl] at hq
            refine s_aload_n 184 rfl rfl rfl ?_
            refine c_callV0 (h+1) 187 rfl rfl mv_Parts_24 (by omega) (Nat.le_of_ble_eq_true rfl) (Nat.le_of_ble_eq_true rfl) h_text rfl rfl ?_
            -- Parts_check 187: call Row_size
            refine m_Row_size h_text ?_
            dsimp only [ax_rs]
            refine s_goto 197 rfl (by decide) ?_
            -- Parts_check 197: ireturn
            exact s_ireturn rfl .int rfl rfl (hq)
          · have c2 : ¬ 0 < pa_ b i := fun z => c2 (nI_lt (a := 0) z (by omega))
            refine s_iload 180 rfl rfl rfl ?_
            refine s_if_eq 190 183 rfl rfl (by decide) (fun c3 => ?_) (fun c3 => ?_)
            -- Parts_check 183: branch 190 183
            · rw [bi_0] at c3
              have e : pa_ b i = 0 ∧ (0 < i ∨ ip = true) := by
                refine ⟨by omega, ?_⟩
                by_cases z : 0 < i
                · exact Or.inl z
                · refine Or.inr ?_
                  cases hip : ip with
                  | true => rfl
                  | false => exact absurd ⟨hip, by omega⟩ c3
              rw [if_pos e, if_neg (nn_m1 (by omega))] at hq
              refine s_bipush (-10) 192 rfl rfl (by decide) ?_
              refine s_aload_n 193 rfl rfl rfl ?_
              refine c_callV0 (h+1) 196 rfl rfl mv_Parts_24 (by omega) (Nat.le_of_ble_eq_true rfl) (Nat.le_of_ble_eq_true rfl) h_text rfl rfl ?_
              -- Parts_check 196: call Row_size
              refine m_Row_size h_text ?_
              dsimp only [ax_rs]
              refine s_isub 197 rfl rfl ?_
              -- Parts_check 197: ireturn
              exact s_ireturn rfl .int rfl rfl (hq)
            · rw [bi_0, Classical.not_not] at c3
              rw [if_neg (show ¬ (pa_ b i = 0 ∧ (0 < i ∨ ip = true)) by
                rintro ⟨-, q | q⟩
                · omega
                · rw [c3.1] at q
                  cases q), if_pos rfl] at hq
              refine s_aload_n 184 rfl rfl rfl ?_
              refine c_callV0 (h+1) 187 rfl rfl mv_Parts_24 (by omega) (Nat.le_of_ble_eq_true rfl) (Nat.le_of_ble_eq_true rfl) h_text rfl rfl ?_
              -- Parts_check 187: call Row_size
              refine m_Row_size h_text ?_
              dsimp only [ax_rs]
              refine s_goto 197 rfl (by decide) ?_
              -- Parts_check 197: ireturn
              exact s_ireturn rfl .int rfl rfl (hq)
        refine s_iload_n 157 rfl rfl rfl ?_
        refine s_if_ne 171 160 rfl rfl (by decide) (fun c4 => ?_) (fun c4 => ?_)
        -- Parts_check 160: branch 171 160
        · rw [b01] at c4
          rw [bi_f (p := (ip = false ∧ i = 0)) (fun q => by rw [q.1] at c4; exact c4 rfl)] at k172
          refine s_iconst 0 172 rfl rfl (by decide) ?_
          -- Parts_check 172: end
          exact k172
        · rw [b01] at c4
          refine s_aload_n 161 rfl rfl rfl ?_
          refine c_callV0 (h+1) 164 rfl rfl mv_Parts_24 (by omega) (Nat.le_of_ble_eq_true rfl) (Nat.le_of_ble_eq_true rfl) h_text rfl rfl ?_
          -- Parts_check 164: call Row_size
          refine m_Row_size h_text ?_
          dsimp only [ax_rs]
          refine s_if_ne 171 167 rfl rfl (by decide) (fun c5 => ?_) (fun c5 => ?_)
          -- Parts_check 167: branch 171 167
          · rw [bi_f (p := (ip = false ∧ i = 0)) (fun q => c5 (by rw [q.2]; rfl))] at k172
            refine s_iconst 0 172 rfl rfl (by decide) ?_
            -- Parts_check 172: end
            exact k172
          · have c5 := nn_eq (b := 0) c5
            rw [bi_t (p := (ip = false ∧ i = 0)) ⟨c4, c5⟩] at k172
            refine s_iconst 1 168 rfl rfl (by decide) ?_
            refine s_goto 172 rfl (by decide) ?_
            -- Parts_check 172: end
            exact k172
      · exact absurd (nn_nle c1) (by omega)
    | succ d ih =>
      intro i z5 z6 z7 z8 w5 w6 w7 w8 hi h24 hm
      have pl := pa_le b i
      have ebi := hb i (by omega)
      refine s_iload 9 rfl rfl rfl ?_
      refine s_aload_n 10 rfl rfl rfl ?_
      refine c_callV0 (h+1) 13 rfl rfl mv_Parts_24 (by omega) (Nat.le_of_ble_eq_true rfl) (Nat.le_of_ble_eq_true rfl) h_text rfl rfl ?_
      -- Parts_check 13: call Row_size
      refine m_Row_size h_text ?_
      dsimp only [ax_rs]
      refine s_icmp_ge 156 16 rfl rfl (by decide) (fun c6 => ?_) (fun c6 => ?_)
      -- Parts_check 16: branch 156 16
      · exact absurd (nn_le c6) (by omega)
      · refine s_aload_n 17 rfl rfl rfl ?_
        refine s_iload 19 rfl rfl rfl ?_
        refine c_callV1 (h+1) 22 rfl rfl mv_Parts_28 (by omega) (Nat.le_of_ble_eq_true rfl) (Nat.le_of_ble_eq_true rfl) h_text rfl rfl ?_
        -- Parts_check 22: call Row_at
        refine m_Row_at h_text h_bytes hn (by omega) ?_
        dsimp only [ax_rs]
        rw [rw_at_in (by omega) (by omega), ebi]
        have bad : ∀ z8 : Value, (i = 24 ∨ my_ b ip i = false) → ax_G g mt_Parts_check (h + 2) 0 0 128 [.ref 1, .int (bi (ip = true)), .int (nI (pa_ b i)), .int (bi (db_ b i = true)), .int (nI i), .int (b i), .int (bi (b i = 47)), .int (bi (sc_ b i = true)), z8] [] M Q := by
          intro z8 hbad
          have hq := hq _ (Or.inl ⟨i, by omega, h24, hbad, hm, rfl⟩)
          rw [if_neg (nn_m1 (by omega))] at hq
          refine s_bipush (-10) 130 rfl rfl (by decide) ?_
          refine s_iload 132 rfl rfl rfl ?_
          refine s_isub 133 rfl rfl ?_
          -- Parts_check 133: ireturn
          exact s_ireturn rfl .int rfl rfl (hq)
        have k104 : ax_G g mt_Parts_check (h + 2) 0 0 104 [.ref 1, .int (bi (ip = true)), .int (nI (pa_ b i)), .int (bi (db_ b i = true)), .int (nI i), .int (b i), .int (bi (b i = 47)), .int (bi (sc_ b i = true)), z8] [.int (bi (sd_ b ip i = true))] M Q := by
          refine s_ist8 106 rfl rfl rfl ?_
          refine s_iload 108 rfl rfl rfl ?_
          refine s_bipush 24 110 rfl rfl (by decide) ?_
          refine s_icmp_ge 128 113 rfl rfl (by decide) (fun c7 => ?_) (fun c7 => ?_)
          -- Parts_check 113: branch 128 113
          · exact bad _ (Or.inl (by have := nn_le (a := 24) c7; omega))
          · have h24' := nn_nle (a := 24) c7
            have good : my_ b ip i = true → ax_G g mt_Parts_check (h + 2) 0 0 134 [.ref 1, .int (bi (ip = true)), .int (nI (pa_ b i)), .int (bi (db_ b i = true)), .int (nI i), .int (b i), .int (bi (b i = 47)), .int (bi (sc_ b i = true)), .int (bi (sd_ b ip i = true))] [] M Q := by
              intro hmy
              have nx := fun z5 z6 z7 z8 w5 w6 w7 w8 => ih (i + 1) z5 z6 z7 z8 w5 w6 w7 w8 (by omega) (by omega) (fun j hj => by
                rcases Nat.lt_or_ge j i with z | z
                · exact hm j z
                · obtain rfl : j = i := by omega
                  exact hmy)
              rw [db_s hmy, pa_] at nx
              refine s_iload 136 rfl rfl rfl ?_
              refine s_ist3 137 rfl rfl rfl ?_
              refine s_iload 139 rfl rfl rfl ?_
              refine s_if_eq 146 142 rfl rfl (by decide) (fun c8 => ?_) (fun c8 => ?_)
              -- Parts_check 142: branch 146 142
              · rw [bi_0] at c8
                rw [if_neg c8] at nx
                refine s_iload_n 147 rfl rfl rfl ?_
                refine s_iconst 1 148 rfl rfl (by decide) ?_
                refine s_iadd 149 rfl rfl ?_
                refine s_ist2 150 rfl rfl rfl ?_
                refine s_inc4 _ 153 rfl rfl rfl rfl ?_
                refine s_goto 7 rfl (by decide) ?_
                -- Parts_check 7: end
                rw [inc1, nI_1]
                exact nx _ _ _ _ rfl rfl rfl rfl
              · rw [bi_0, Classical.not_not] at c8
                rw [if_pos c8] at nx
                refine s_iconst 0 143 rfl rfl (by decide) ?_
                refine s_goto 149 rfl (by decide) ?_
                refine s_ist2 150 rfl rfl rfl ?_
                refine s_inc4 _ 153 rfl rfl rfl rfl ?_
                refine s_goto 7 rfl (by decide) ?_
                -- Parts_check 7: end
                rw [inc1]
                exact nx _ _ _ _ rfl rfl rfl rfl
            refine s_iload 115 rfl rfl rfl ?_
            refine s_if_eq 128 118 rfl rfl (by decide) (fun c9 => ?_) (fun c9 => ?_)
            -- Parts_check 118: branch 128 118
            · rw [b01] at c9
              refine bad _ (Or.inr ?_)
              cases hmy : my_ b ip i with
              | false => rfl
              | true =>
                have := ((ok_my b ip i).mpr hmy).1
                rw [c9] at this
                cases this
            · rw [b01] at c9
              have c9 : sd_ b ip i = true := by simpa using c9
              refine s_iload 120 rfl rfl rfl ?_
              refine s_if_eq 134 123 rfl rfl (by decide) (fun c10 => ?_) (fun c10 => ?_)
              -- Parts_check 123: branch 134 123
              · rw [b01] at c10
                exact good ((ok_my b ip i).mp ⟨c9, fun q => by rw [c10] at q; cases q.1⟩)
              · rw [b01] at c10
                have c10 : sc_ b i = true := by simpa using c10
                refine s_iload_n 124 rfl rfl rfl ?_
                refine s_iconst 1 125 rfl rfl (by decide) ?_
                refine s_icmp_le 134 128 rfl rfl (by decide) (fun c11 => ?_) (fun c11 => ?_)
                -- Parts_check 128: branch 134 128
                · have c11 := nn_le (b := 1) c11
                  exact good ((ok_my b ip i).mp ⟨c9, fun q => by omega⟩)
                · have c11 := nn_nle (b := 1) c11
                  refine bad _ (Or.inr ?_)
                  cases hmy : my_ b ip i with
                  | false => rfl
                  | true => exact absurd ⟨c10, c11⟩ ((ok_my b ip i).mpr hmy).2
        have k67 : ax_G g mt_Parts_check (h + 2) 0 0 67 [.ref 1, .int (bi (ip = true)), .int (nI (pa_ b i)), .int (bi (db_ b i = true)), .int (nI i), .int (b i), .int (bi (b i = 47)), z7, z8] [.int (bi (sc_ b i = true))] M Q := by
          unfold sd_ at k104
          refine s_ist7 69 rfl rfl rfl ?_
          refine s_iload 71 rfl rfl rfl ?_
          refine s_if_eq 86 74 rfl rfl (by decide) (fun c12 => ?_) (fun c12 => ?_)
          -- Parts_check 74: branch 86 74
          · rw [bi_0] at c12
            rw [if_neg c12] at k104
            refine s_iload_n 87 rfl rfl rfl ?_
            refine s_if_ne 103 90 rfl rfl (by decide) (fun c13 => ?_) (fun c13 => ?_)
            -- Parts_check 90: branch 103 90
            · rw [b01] at c13
              rw [bi_f (p := (!db_ b i && pb_ ip (b i)) = true) (by simp [c13])] at k104
              refine s_iconst 0 104 rfl rfl (by decide) ?_
              -- Parts_check 104: end
              exact k104
            · rw [b01] at c13
              refine s_iload 92 rfl rfl rfl ?_
              refine s_iload_n 93 rfl rfl rfl ?_
              refine c_callS2 (h+1) 96 rfl rfl mv_Parts_32 (by omega) (Nat.le_of_ble_eq_true rfl) (Nat.le_of_ble_eq_true rfl) ?_
              -- Parts_check 96: call Parts_isPartByte
              refine m_Parts_isPartByte ?_
              dsimp only [ax_rs]
              refine s_if_eq 103 99 rfl rfl (by decide) (fun c14 => ?_) (fun c14 => ?_)
              -- Parts_check 99: branch 103 99
              · rw [b01] at c14
                rw [bi_f (p := (!db_ b i && pb_ ip (b i)) = true) (by simp [c14])] at k104
                refine s_iconst 0 104 rfl rfl (by decide) ?_
                -- Parts_check 104: end
                exact k104
              · rw [b01] at c14
                rw [bi_t (p := (!db_ b i && pb_ ip (b i)) = true) (by simp [c13]; simpa using c14)] at k104
                refine s_iconst 1 100 rfl rfl (by decide) ?_
                refine s_goto 104 rfl (by decide) ?_
                -- Parts_check 104: end
                exact k104
          · rw [bi_0, Classical.not_not] at c12
            rw [if_pos c12] at k104
            refine s_iload_n 75 rfl rfl rfl ?_
            refine s_if_le 82 78 rfl rfl (by decide) (fun c15 => ?_) (fun c15 => ?_)
            -- Parts_check 78: branch 82 78
            · rw [bi_f (p := decide (0 < pa_ b i) = true) (fun q => nI_nle (of_decide_eq_true q) (by omega) c15)] at k104
              refine s_iconst 0 83 rfl rfl (by decide) ?_
              refine s_goto 104 rfl (by decide) ?_
              -- Parts_check 104: end
              exact k104
            · have c15 : 0 < pa_ b i := by
                rcases Nat.eq_zero_or_pos (pa_ b i) with z | z
                · exact absurd (by rw [z]; decide) c15
                · exact z
              rw [bi_t (p := decide (0 < pa_ b i) = true) (decide_eq_true c15)] at k104
              refine s_iconst 1 79 rfl rfl (by decide) ?_
              refine s_goto 104 rfl (by decide) ?_
              -- Parts_check 104: end
              exact k104
        have k36 : ax_G g mt_Parts_check (h + 2) 0 0 36 [.ref 1, .int (bi (ip = true)), .int (nI (pa_ b i)), .int (bi (db_ b i = true)), .int (nI i), .int (b i), z6, z7, z8] [.int (bi (b i = 47))] M Q := by
          unfold sc_ at k67
          refine s_ist6 38 rfl rfl rfl ?_
          refine s_iload 40 rfl rfl rfl ?_
          refine s_bipush 42 42 rfl rfl (by decide) ?_
          refine s_icmp_ne 66 45 rfl rfl (by decide) (fun c16 => ?_) (fun c16 => ?_)
          -- Parts_check 45: branch 66 45
          · rw [bi_f (p := decide (b i = 42 ∧ 0 < pa_ b i ∧ b (i - 1) = 42) = true) (fun q => c16 (of_decide_eq_true q).1)] at k67
            refine s_iconst 0 67 rfl rfl (by decide) ?_
            -- Parts_check 67: end
            exact k67
          · refine s_iload_n 46 rfl rfl rfl ?_
            refine s_if_le 66 49 rfl rfl (by decide) (fun c17 => ?_) (fun c17 => ?_)
            -- Parts_check 49: branch 66 49
            · rw [bi_f (p := decide (b i = 42 ∧ 0 < pa_ b i ∧ b (i - 1) = 42) = true) (fun q => nI_nle (of_decide_eq_true q).2.1 (by omega) c17)] at k67
              refine s_iconst 0 67 rfl rfl (by decide) ?_
              -- Parts_check 67: end
              exact k67
            · have c17 : 0 < pa_ b i := by
                rcases Nat.eq_zero_or_pos (pa_ b i) with z | z
                · exact absurd (by rw [z]; decide) c17
                · exact z
              obtain ⟨i', rfl⟩ : ∃ i', i = i' + 1 := ⟨i - 1, by omega⟩
              refine s_aload_n 50 rfl rfl rfl ?_
              refine s_iload 52 rfl rfl rfl ?_
              refine s_iconst 1 53 rfl rfl (by decide) ?_
              refine s_isub 54 rfl rfl ?_
              -- Parts_check 54: end
              rw [nI_pred]
              refine c_callV1 (h+1) 57 rfl rfl mv_Parts_28 (by omega) (Nat.le_of_ble_eq_true rfl) (Nat.le_of_ble_eq_true rfl) h_text rfl rfl ?_
              -- Parts_check 57: call Row_at
              refine m_Row_at h_text h_bytes hn (by omega) ?_
              dsimp only [ax_rs]
              rw [rw_at_in (by omega) (by omega), hb i' (by omega)]
              refine s_bipush 42 59 rfl rfl (by decide) ?_
              refine s_icmp_ne 66 62 rfl rfl (by decide) (fun c18 => ?_) (fun c18 => ?_)
              -- Parts_check 62: branch 66 62
              · rw [bi_f (p := decide (b (i' + 1) = 42 ∧ 0 < pa_ b (i' + 1) ∧ b (i' + 1 - 1) = 42) = true) (fun q => c18 (of_decide_eq_true q).2.2)] at k67
                refine s_iconst 0 67 rfl rfl (by decide) ?_
                -- Parts_check 67: end
                exact k67
              · rw [bi_t (p := decide (b (i' + 1) = 42 ∧ 0 < pa_ b (i' + 1) ∧ b (i' + 1 - 1) = 42) = true) (decide_eq_true ⟨c16, c17, c18⟩)] at k67
                refine s_iconst 1 63 rfl rfl (by decide) ?_
                refine s_goto 67 rfl (by decide) ?_
                -- Parts_check 67: end
                exact k67
        refine s_ist5 24 rfl rfl rfl ?_
        refine s_iload 26 rfl rfl rfl ?_
        refine s_bipush 47 28 rfl rfl (by decide) ?_
        refine s_icmp_ne 35 31 rfl rfl (by decide) (fun c19 => ?_) (fun c19 => ?_)
        -- Parts_check 31: branch 35 31
        · rw [bi_f c19] at k36
          refine s_iconst 0 36 rfl rfl (by decide) ?_
          -- Parts_check 36: end
          exact k36
        · rw [bi_t c19] at k36
          refine s_iconst 1 32 rfl rfl (by decide) ?_
          refine s_goto 36 rfl (by decide) ?_
          -- Parts_check 36: end
          exact k36
  exact loop n 0 _ _ _ _ rfl rfl rfl rfl (by omega) (by omega) (fun j hj => by omega)
theorem ps_0 (f s : Nat → Int32) : ps_ 0 f 0 s := ⟨fun _ => 0, fun i hi => absurd hi (Nat.not_lt_zero i), fun i j hij hj => absurd hj (Nat.not_lt_zero j), fun j hj => absurd hj (Nat.not_lt_zero j)⟩
theorem ps_n {f s : Nat → Int32} {i k : Nat} (h : ps_ i f k s) (hn : ¬ (i = 0 ∨ f (i - 1) &&& 255 = 47)) : ps_ (i + 1) f k s := by
  obtain ⟨z, h1, h2, h3⟩ := h
  refine ⟨z, fun j hj => ⟨(h1 j hj).1, by have := (h1 j hj).2; omega⟩, h2, fun j hj => ?_⟩
  by_cases q : j = i
  · subst q
    refine ⟨fun q => absurd q hn, fun ⟨m, hm, e⟩ => ?_⟩
    have := (h1 m hm).2
    omega
  · exact h3 j (by omega)
theorem ps_y {f s : Nat → Int32} {i k : Nat} (h : ps_ i f k s) (hy : i = 0 ∨ f (i - 1) &&& 255 = 47) : ps_ (i + 1) f (k + 1) (upd s k (nI i)) := by
  obtain ⟨z, h1, h2, h3⟩ := h
  refine ⟨fun j => if j = k then i else z j, fun j hj => ?_, fun a b hab hb => ?_, fun j hj => ?_⟩
  · unfold upd
    show (if j = k then nI i else s j) = nI (if j = k then i else z j) ∧ (if j = k then i else z j) < i + 1
    by_cases q : j = k
    · rw [if_pos q, if_pos q]
      exact ⟨rfl, by omega⟩
    · rw [if_neg q, if_neg q]
      have := h1 j (by omega)
      exact ⟨this.1, by omega⟩
  · show (if a = k then i else z a) < (if b = k then i else z b)
    rw [if_neg (show ¬ a = k by omega)]
    by_cases q : b = k
    · rw [if_pos q]
      exact (h1 a (by omega)).2
    · rw [if_neg q]
      exact h2 a b hab (by omega)
  · by_cases q : j = i
    · subst q
      exact ⟨fun _ => ⟨k, by omega, if_pos rfl⟩, fun _ => hy⟩
    · rw [h3 j (by omega)]
      constructor
      · rintro ⟨m, hm, e⟩
        exact ⟨m, by omega, by show (if m = k then i else z m) = j; rw [if_neg (by omega)]; exact e⟩
      · rintro ⟨m, hm, e⟩
        by_cases q2 : m = k
        · have e : (if m = k then i else z m) = j := e
          rw [if_pos q2] at e
          omega
        · have e : (if m = k then i else z m) = j := e
          rw [if_neg q2] at e
          exact ⟨m, by omega, e⟩
theorem ps_le {f s : Nat → Int32} {i k : Nat} (h : ps_ i f k s) : k ≤ i := by
  obtain ⟨z, h1, h2, h3⟩ := h
  have : ∀ j, j < k → j ≤ z j := by
    intro j
    induction j with
    | zero => intro _; omega
    | succ j ih =>
      intro hj
      have := ih (by omega)
      have := h2 j (j + 1) (by omega) hj
      omega
  cases k with
  | zero => omega
  | succ k =>
    have := this k (by omega)
    have := (h1 k (by omega)).2
    omega
/-- the cells of a path or a pattern at a -/
abbrev pp_m (M : ax_M) (a n : Nat) (f : Nat → Int32) (k : Nat) (s : Nat → Int32) : ax_M := oP (iP (oP (ax_put M (a + 2) (.inl (1, 24, .inl f))) (a + 1) 7 [.ref (a + 2), .int (nI n)]) (a + 3) 25 s) a 5 [.ref (a + 1), .ref (a + 3), .int (nI k)]
theorem m_Parts_set {a n n0 k0 : Nat} {f f0 s0 : Nat → Int32} (h_this : oC M a 5 [.ref (a + 1), .ref (a + 3), .int (nI k0)]) (h_bytes : oC M (a + 1) 7 [.ref (a + 2), .int (nI n0)]) (h_bb : bA M (a + 2) 24 f0) (h_starts : iA M (a + 3) 25 s0) (ha : 3 ≤ a) (h_text : oC M 1 7 [.ref 2, .int (nI n)]) (h_tb : bA M 2 160 f) (hn : n ≤ 24) (hq : ∀ k s, ps_ n (rw_ap f0 0 f 0 n) k s → Q none (pp_m M a n (rw_ap f0 0 f 0 n) k s)) : ax_G g mt_Parts_set (h + 2) 0 0 0 [.ref a, .ref 1, .float 0] [] M Q := by
  refine s_aload_n 1 rfl rfl rfl ?_
  refine s_getfield 5 0 4 rfl rfl fl_Parts_14 h_this rfl ?_
  refine c_callV0 (h+1) 7 rfl rfl mv_Parts_42 (by omega) (Nat.le_of_ble_eq_true rfl) (Nat.le_of_ble_eq_true rfl) h_bytes rfl rfl ?_
  -- Parts_set 7: call Row_clear
  refine m_Row_clear h_bytes ?_
  dsimp only [ax_rs]
  have x1 : oC (ax_put M (a + 1) (.inr (7, [.ref (a + 2), .int (nI 0)]))) a 5 [.ref (a + 1), .ref (a + 3), .int (nI k0)] := ax_ne (by omega) h_this
  have x2 : oC (ax_put M (a + 1) (.inr (7, [.ref (a + 2), .int (nI 0)]))) 1 7 [.ref 2, .int (nI n)] := ax_ne (by omega) h_text
  have x3 : bA (ax_put M (a + 1) (.inr (7, [.ref (a + 2), .int (nI 0)]))) 2 160 f := ax_ne (by omega) h_tb
  have x4 : bA (ax_put M (a + 1) (.inr (7, [.ref (a + 2), .int (nI 0)]))) (a + 2) 24 f0 := ax_ne (by omega) h_bb
  refine s_aload_n 8 rfl rfl rfl ?_
  refine s_getfield 5 0 11 rfl rfl fl_Parts_14 x1 rfl ?_
  refine s_aload_n 12 rfl rfl rfl ?_
  refine s_iconst 0 13 rfl rfl (by decide) ?_
  refine s_aload_n 14 rfl rfl rfl ?_
  refine c_callV0 (h+1) 17 rfl rfl mv_Parts_24 (by omega) (Nat.le_of_ble_eq_true rfl) (Nat.le_of_ble_eq_true rfl) x2 rfl rfl ?_
  -- Parts_set 17: call Row_size
  refine m_Row_size x2 ?_
  dsimp only [ax_rs]
  refine c_callV3 (h+1) 20 rfl rfl mv_Parts_45 (by omega) (Nat.le_of_ble_eq_true rfl) (Nat.le_of_ble_eq_true rfl) ax_eq rfl rfl ?_
  -- Parts_set 20: call Row_addPart
  refine m_Row_addPart (s := 0) (k := n) (n := 0) ax_eq x4 x2 x3 (by omega) (by omega) (by omega) (by omega) (by omega) (by omega) (by omega) ?_
  dsimp only [ax_rs]
  generalize rw_ap f0 0 f 0 n = F at hq ⊢
  rw [show 0 + n = n by omega]
  have e0 : rw_m (ax_put M (a + 1) (.inr (7, [.ref (a + 2), .int (nI 0)]))) (a + 1) (a + 2) 24 F n = oP (ax_put M (a + 2) (.inl (1, 24, .inl F))) (a + 1) 7 [.ref (a + 2), .int (nI n)] := by
    unfold rw_m oP
    rw [ax_p3 (by omega), ax_px _ _ (by omega)]
  rw [e0]
  have x5 : oC (oP (ax_put M (a + 2) (.inl (1, 24, .inl F))) (a + 1) 7 [.ref (a + 2), .int (nI n)]) a 5 [.ref (a + 1), .ref (a + 3), .int (nI k0)] := ax_ne (by omega) (ax_ne (by omega) h_this)
  have x6 : iA (oP (ax_put M (a + 2) (.inl (1, 24, .inl F))) (a + 1) 7 [.ref (a + 2), .int (nI n)]) (a + 3) 25 s0 := ax_ne (by omega) (ax_ne (by omega) h_starts)
  unfold pp_m at hq
  generalize hY : oP (ax_put M (a + 2) (.inl (1, 24, .inl F))) (a + 1) 7 [.ref (a + 2), .int (nI n)] = Y at hq x5 x6 ⊢
  refine s_aload_n 21 rfl rfl rfl ?_
  refine s_iconst 0 22 rfl rfl (by decide) ?_
  refine s_putfield 5 2 (.int) 25 rfl rfl fp_Parts_49 x5 (Nat.le_of_ble_eq_true rfl) ⟨rfl, rfl⟩ (fun h => absurd h (by decide)) ?_
  refine s_iconst 0 26 rfl rfl (by decide) ?_
  refine s_ist2 27 rfl rfl rfl ?_
  -- Parts_set 27: end
  have y1 : oC Y (a + 1) 7 [.ref (a + 2), .int (nI n)] := by rw [← hY]; exact ax_eq
  have y2 : bA Y (a + 2) 24 F := by rw [← hY]; exact ax_ne (by omega) ax_eq
  have loop : ∀ (d i k : Nat) (s : Nat → Int32), i + d = n → ps_ i F k s → ax_G g mt_Parts_set (h + 2) 0 0 27 [.ref a, .ref 1, .int (nI i)] [] (oP (iP Y (a + 3) 25 s) a 5 [.ref (a + 1), .ref (a + 3), .int (nI k)]) Q := by
    intro d
    induction d with
    | zero =>
      intro i k s hi hp
      obtain rfl : i = n := by omega
      have z1 : oC (oP (iP Y (a + 3) 25 s) a 5 [.ref (a + 1), .ref (a + 3), .int (nI k)]) (a + 1) 7 [.ref (a + 2), .int (nI i)] := ax_ne (by omega) (ax_ne (by omega) y1)
      refine s_iload_n 28 rfl rfl rfl ?_
      refine s_aload_n 29 rfl rfl rfl ?_
      refine s_getfield 5 0 32 rfl rfl fl_Parts_14 ax_eq rfl ?_
      refine c_callV0 (h+1) 35 rfl rfl mv_Parts_24 (by omega) (Nat.le_of_ble_eq_true rfl) (Nat.le_of_ble_eq_true rfl) z1 rfl rfl ?_
      -- Parts_set 35: call Row_size
      refine m_Row_size z1 ?_
      dsimp only [ax_rs]
      refine s_icmp_ge 83 38 rfl rfl (by decide) (fun c1 => ?_) (fun c1 => ?_)
      -- Parts_set 38: branch 83 38
      · exact s_return rfl rfl (hq k s hp)
      · exact absurd (nn_nle c1) (by omega)
    | succ d ih =>
      intro i k s hi hp
      have kl := ps_le hp
      have z1 : oC (oP (iP Y (a + 3) 25 s) a 5 [.ref (a + 1), .ref (a + 3), .int (nI k)]) (a + 1) 7 [.ref (a + 2), .int (nI n)] := ax_ne (by omega) (ax_ne (by omega) y1)
      have z2 : bA (oP (iP Y (a + 3) 25 s) a 5 [.ref (a + 1), .ref (a + 3), .int (nI k)]) (a + 2) 24 F := ax_ne (by omega) (ax_ne (by omega) y2)
      have z3 : iA (oP (iP Y (a + 3) 25 s) a 5 [.ref (a + 1), .ref (a + 3), .int (nI k)]) (a + 3) 25 s := ax_ne (by omega) ax_eq
      have yes : (i = 0 ∨ F (i - 1) &&& 255 = 47) → ax_G g mt_Parts_set (h + 2) 0 0 57 [.ref a, .ref 1, .int (nI i)] [] (oP (iP Y (a + 3) 25 s) a 5 [.ref (a + 1), .ref (a + 3), .int (nI k)]) Q := by
        intro hy
        have nx := ih (i + 1) (k + 1) _ (by omega) (ps_y hp hy)
        refine s_aload_n 58 rfl rfl rfl ?_
        refine s_getfield 5 1 61 rfl rfl fl_Parts_20 ax_eq rfl ?_
        refine s_aload_n 62 rfl rfl rfl ?_
        refine s_getfield 5 2 65 rfl rfl fl_Parts_49 ax_eq rfl ?_
        refine s_iload_n 66 rfl rfl rfl ?_
        refine s_iastore (k) 67 rfl rfl z3 rfl (by omega) (by decide) ?_
        refine s_aload_n 68 rfl rfl rfl ?_
        refine s_dup 69 rfl rfl rfl ?_
        refine s_getfield 5 2 72 rfl rfl fl_Parts_49 (ax_ne (by omega) ax_eq) rfl ?_
        refine s_iconst 1 73 rfl rfl (by decide) ?_
        refine s_iadd 74 rfl rfl ?_
        -- Parts_set 74: end
        rw [nI_1]
        refine s_putfield 5 2 (.int) 77 rfl rfl fp_Parts_49 (ax_ne (by omega) ax_eq) (Nat.le_of_ble_eq_true rfl) ⟨rfl, rfl⟩ (fun h => absurd h (by decide)) ?_
        refine s_inc2 _ 80 rfl rfl rfl rfl ?_
        refine s_goto 27 rfl (by decide) ?_
        -- Parts_set 27: end
        rw [inc1]
        unfold oP iP at nx ⊢
        rw [ax_p4]
        exact nx
      refine s_iload_n 28 rfl rfl rfl ?_
      refine s_aload_n 29 rfl rfl rfl ?_
      refine s_getfield 5 0 32 rfl rfl fl_Parts_14 ax_eq rfl ?_
      refine c_callV0 (h+1) 35 rfl rfl mv_Parts_24 (by omega) (Nat.le_of_ble_eq_true rfl) (Nat.le_of_ble_eq_true rfl) z1 rfl rfl ?_
      -- Parts_set 35: call Row_size
      refine m_Row_size z1 ?_
      dsimp only [ax_rs]
      refine s_icmp_ge 83 38 rfl rfl (by decide) (fun c2 => ?_) (fun c2 => ?_)
      -- Parts_set 38: branch 83 38
      · exact absurd (nn_le c2) (by omega)
      · refine s_iload_n 39 rfl rfl rfl ?_
        refine s_if_eq 57 42 rfl rfl (by decide) (fun c3 => ?_) (fun c3 => ?_)
        -- Parts_set 42: branch 57 42
        · exact yes (Or.inl (nn_eq (b := 0) c3))
        · have hi0 : i ≠ 0 := nn_ne (b := 0) c3
          obtain ⟨i', rfl⟩ : ∃ i', i = i' + 1 := ⟨i - 1, by omega⟩
          refine s_aload_n 43 rfl rfl rfl ?_
          refine s_getfield 5 0 46 rfl rfl fl_Parts_14 ax_eq rfl ?_
          refine s_iload_n 47 rfl rfl rfl ?_
          refine s_iconst 1 48 rfl rfl (by decide) ?_
          refine s_isub 49 rfl rfl ?_
          -- Parts_set 49: end
          rw [nI_pred]
          refine c_callV1 (h+1) 52 rfl rfl mv_Parts_28 (by omega) (Nat.le_of_ble_eq_true rfl) (Nat.le_of_ble_eq_true rfl) z1 rfl rfl ?_
          -- Parts_set 52: call Row_at
          refine m_Row_at z1 z2 (by omega) (by omega) ?_
          dsimp only [ax_rs]
          rw [rw_at_in (by omega) (by omega)]
          refine s_bipush 47 54 rfl rfl (by decide) ?_
          refine s_icmp_ne 77 57 rfl rfl (by decide) (fun c4 => ?_) (fun c4 => ?_)
          -- Parts_set 57: branch 77 57
          · refine s_inc2 _ 80 rfl rfl rfl rfl ?_
            refine s_goto 27 rfl (by decide) ?_
            -- Parts_set 27: end
            rw [inc1]
            exact ih (i' + 1 + 1) k s (by omega) (ps_n hp (fun q => q.elim (by omega) c4))
          · exact yes (Or.inr c4)
  have h0 := loop n 0 0 s0 (by omega) (ps_0 F s0)
  unfold iP at h0
  rw [ax_id x6] at h0
  exact h0
end PARTS
