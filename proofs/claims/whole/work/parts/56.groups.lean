/-! groups: the class -/
def bs_ (c : Nat → Nat) : Nat → Int32 × Nat
  | 0 => (-1, 0)
  | f + 1 => if (bs_ c f).2 < c f then (nI f, c f) else bs_ c f
theorem bs_or (c : Nat → Nat) : ∀ n, ((bs_ c n).1 = -1 ∧ (bs_ c n).2 = 0 ∧ ∀ f, f < n → c f = 0) ∨ ∃ f, f < n ∧ (bs_ c n).1 = nI f ∧ (bs_ c n).2 = c f ∧ 0 < c f := by
  intro n
  induction n with
  | zero => exact Or.inl ⟨rfl, rfl, fun f hf => absurd hf (Nat.not_lt_zero f)⟩
  | succ n ih =>
    rw [bs_]
    by_cases z : (bs_ c n).2 < c n
    · rw [if_pos z]
      exact Or.inr ⟨n, by omega, rfl, rfl, by omega⟩
    · rw [if_neg z]
      rcases ih with ⟨h1, h2, h3⟩ | ⟨f, h1, h2, h3, h4⟩
      · refine Or.inl ⟨h1, h2, fun f hf => ?_⟩
        by_cases q : f = n
        · subst q; omega
        · exact h3 f (by omega)
      · exact Or.inr ⟨f, by omega, h2, h3, h4⟩
theorem bs_cg {c d : Nat → Nat} : ∀ {n : Nat}, (∀ f, f < n → c f = d f) → bs_ c n = bs_ d n := by
  intro n
  induction n with
  | zero => intro _; rfl
  | succ n ih =>
    intro h
    rw [bs_, bs_, ih (fun f hf => h f (by omega)), h n (by omega)]
/-- the alarms that are left behind r groups -/
def Lr_ (op : Nat → Bool) (tr : Nat → Nat → Bool) (al : Nat) : Nat → Nat → Bool
  | 0 => op
  | r + 1 => fun a => Lr_ op tr al r a && !tr (bs_ (fun f => cnt (fun a => Lr_ op tr al r a && tr f a) al) 16).1.toNatClampNeg a
/-- the fact of group r -/
def bk_ (op : Nat → Bool) (tr : Nat → Nat → Bool) (al r : Nat) : Int32 := (bs_ (fun f => cnt (fun a => Lr_ op tr al r a && tr f a) al) 16).1
/-- how many facts would still close some -/
def Pr_ (op : Nat → Bool) (tr : Nat → Nat → Bool) (al r : Nat) : Nat := cnt (fun f => decide (0 < cnt (fun a => Lr_ op tr al r a && tr f a) al)) 16
theorem Lr_s (op : Nat → Bool) (tr : Nat → Nat → Bool) (al r : Nat) {f : Nat} (hf : f < 16) (e : bk_ op tr al r = nI f) (a : Nat) : Lr_ op tr al (r + 1) a = (Lr_ op tr al r a && !tr f a) := by
  rw [Lr_]
  unfold bk_ at e
  rw [e, nI_clamp (by omega)]
theorem cnt_z {p : Nat → Bool} {n : Nat} (h : ∀ i, i < n → p i = false) : cnt p n = 0 := by
  induction n with
  | zero => rfl
  | succ n ih =>
    rw [cnt, ih (fun i hi => h i (by omega)), h n (by omega)]
    rfl
theorem cnt_0 {p : Nat → Bool} {n : Nat} (h : cnt p n = 0) : ∀ i, i < n → p i = false := by
  intro i hi
  cases e : p i with
  | false => rfl
  | true =>
    have := cnt_s hi e
    omega
theorem Pr_s {op : Nat → Bool} {tr : Nat → Nat → Bool} {al r : Nat} (h : bk_ op tr al r ≠ -1) : ∃ f, f < 16 ∧ bk_ op tr al r = nI f ∧ Pr_ op tr al (r + 1) < Pr_ op tr al r := by
  rcases bs_or (fun f => cnt (fun a => Lr_ op tr al r a && tr f a) al) 16 with ⟨h1, -⟩ | ⟨f, h1, h2, h3, h4⟩
  · exact absurd h1 h
  · refine ⟨f, h1, h2, ?_⟩
    unfold Pr_
    refine cnt_lt (fun i hi q => ?_) h1 ?_ (decide_eq_true h4)
    · have q := of_decide_eq_true q
      refine decide_eq_true (Nat.lt_of_lt_of_le q (cnt_mono (fun a ha z => ?_)))
      rw [Lr_s op tr al r h1 h2] at z
      simp at z
      simp [z.1.1, z.2]
    · refine decide_eq_false ?_
      rw [cnt_z]
      · omega
      · intro a ha
        rw [Lr_s op tr al r h1 h2]
        cases tr f a <;> simp
theorem Pr_16 (op : Nat → Bool) (tr : Nat → Nat → Bool) (al r : Nat) : Pr_ op tr al r ≤ 16 := by
  unfold Pr_
  exact cnt_le _ 16
theorem Pr_0 {op : Nat → Bool} {tr : Nat → Nat → Bool} {al r : Nat} (h : Pr_ op tr al r = 0) : bk_ op tr al r = -1 := by
  rcases bs_or (fun f => cnt (fun a => Lr_ op tr al r a && tr f a) al) 16 with ⟨h1, -⟩ | ⟨f, h1, h2, h3, h4⟩
  · exact h1
  · have := cnt_0 h f h1
    have := of_decide_eq_false this
    exact absurd h4 this
/-- the groups of r rounds in the class's rows -/
def gq_ (op : Nat → Bool) (tr : Nat → Nat → Bool) (al r : Nat) (gf : Nat → Int32) (gs : Nat → Int64) : Prop := ∀ k, k < r → bk_ op tr al k ≠ -1 ∧ gf k = bk_ op tr al k ∧ ∀ a, a < 64 → lb (gs k) a = (decide (a < al) && (Lr_ op tr al k a && tr (bk_ op tr al k).toNatClampNeg a))
/-- all groups: T by facts, and one of those that are left -/
def gz_ (op : Nat → Bool) (tr : Nat → Nat → Bool) (al T gc : Nat) (gf : Nat → Int32) (gs : Nat → Int64) : Prop := T ≤ 16 ∧ bk_ op tr al T = -1 ∧ gq_ op tr al T gf gs ∧ (((∀ a, a < al → Lr_ op tr al T a = false) ∧ gc = T) ∨ ((∃ a, a < al ∧ Lr_ op tr al T a = true) ∧ gc = T + 1 ∧ gf T = -1 ∧ ∀ a, a < 64 → lb (gs T) a = (decide (a < al) && Lr_ op tr al T a)))
abbrev gm_m (M : ax_M) (ru : Nat) (pv : Int32) (ts : Nat → Int64) (gf : Nat → Int32) (gs : Nat → Int64) (r : Nat) : ax_M := oP (lP (iP (lP M 21 16 ts) 17 17 gf) 18 17 gs) 16 1 (fa_f (nI r) (nI ru) pv)
section GRP
variable {g : ax_Y} {M : ax_M} {Q : Option Value → ax_M → Prop} {h ru : Nat} {gc pv : Int32} {rs rh wa gf : Nat → Int32} {ts gs : Nat → Int64} {al : Nat}
theorem m_Facts_bestTrial {w : Int64} {c : Nat → Nat} (h_this : oC M 16 1 (fa_f gc (nI ru) pv)) (h_trials : lA M 21 16 ts) (hc : ∀ f, f < 16 → cnt (lb (w &&& ts f)) 64 = c f) (hq : Q (some (.int (bs_ c 16).1)) M) : ax_G g mt_Facts_bestTrial (h + 1) 0 0 0 [.ref 16, .long w, .float 0, .float 0, .float 0, .float 0, .float 0] [] M Q := by
  refine s_iconst (-1) 1 rfl rfl (by decide) ?_
  refine s_ist3 2 rfl rfl rfl ?_
  refine s_iconst 0 3 rfl rfl (by decide) ?_
  refine s_ist4 5 rfl rfl rfl ?_
  refine s_iconst 0 6 rfl rfl (by decide) ?_
  refine s_ist5 8 rfl rfl rfl ?_
  -- Facts_bestTrial 8: end
  have loop : ∀ (d i : Nat) (z : Value), z.category = 1 → i + d = 16 → ax_G g mt_Facts_bestTrial (h + 1) 0 0 8 [.ref 16, .long w, .float 0, .int (bs_ c i).1, .int (nI (bs_ c i).2), .int (nI i), z] [] M Q := by
    intro d
    induction d with
    | zero =>
      intro i z _ hi
      obtain rfl : i = 16 := by omega
      refine s_iload 10 rfl rfl rfl ?_
      refine s_bipush 16 12 rfl rfl (by decide) ?_
      refine s_icmp_ge 49 15 rfl rfl (by decide) (fun c1 => ?_) (fun c1 => ?_)
      -- Facts_bestTrial 15: branch 49 15
      · refine s_iload_n 50 rfl rfl rfl ?_
        -- Facts_bestTrial 50: ireturn
        exact s_ireturn rfl .int rfl rfl (hq)
      · exact absurd (by decide) c1
    | succ d ih =>
      intro i z hz hi
      have nx := fun z hz => ih (i + 1) z hz (by omega)
      have e := hc i (by omega)
      have l64 := cnt_le (lb (w &&& ts i)) 64
      have l2 : (bs_ c i).2 ≤ 64 := by
        rcases bs_or c i with ⟨-, q, -⟩ | ⟨f, q1, -, q3, -⟩
        · omega
        · rw [q3, ← hc f (by omega)]
          exact cnt_le _ 64
      rw [bs_] at nx
      refine s_iload 10 rfl rfl rfl ?_
      refine s_bipush 16 12 rfl rfl (by decide) ?_
      refine s_icmp_ge 49 15 rfl rfl (by decide) (fun c2 => ?_) (fun c2 => ?_)
      -- Facts_bestTrial 15: branch 49 15
      · exact absurd (nn_le (a := 16) c2) (by omega)
      · refine s_lload_n 16 rfl rfl rfl ?_
        refine s_aload_n 17 rfl rfl rfl ?_
        refine s_getfield 1 6 20 rfl rfl fl_Facts_25 h_this rfl ?_
        refine s_iload 22 rfl rfl rfl ?_
        refine s_laload (i) 23 rfl rfl h_trials rfl (by omega) (by decide) ?_
        refine s_land 24 rfl rfl ?_
        refine c_callS1 h 27 rfl rfl mv_Facts_61 (by omega) (Nat.le_of_ble_eq_true rfl) (Nat.le_of_ble_eq_true rfl) ?_
        -- Facts_bestTrial 27: call Long_bitCount
        refine m_Long_bitCount ?_
        dsimp only [ax_rs]
        rw [e]
        refine s_ist6 29 rfl rfl rfl ?_
        refine s_iload 31 rfl rfl rfl ?_
        refine s_iload 33 rfl rfl rfl ?_
        refine s_icmp_le 43 36 rfl rfl (by decide) (fun c3 => ?_) (fun c3 => ?_)
        -- Facts_bestTrial 36: branch 43 36
        · have c3 := nn_le c3
          rw [if_neg (by omega)] at nx
          refine s_inc5 _ 46 rfl rfl rfl rfl ?_
          refine s_goto 8 rfl (by decide) ?_
          -- Facts_bestTrial 8: end
          rw [inc1]
          exact nx _ rfl
        · have c3 := nn_nle c3
          rw [if_pos (by omega)] at nx
          refine s_iload 38 rfl rfl rfl ?_
          refine s_ist3 39 rfl rfl rfl ?_
          refine s_iload 41 rfl rfl rfl ?_
          refine s_ist4 43 rfl rfl rfl ?_
          refine s_inc5 _ 46 rfl rfl rfl rfl ?_
          refine s_goto 8 rfl (by decide) ?_
          -- Facts_bestTrial 8: end
          rw [inc1]
          exact nx _ rfl
  exact loop 16 0 _ rfl (by omega)
theorem m_Facts_addGroup {x : Int32} {w : Int64} {r : Nat} (h_this : oC M 16 1 (fa_f (nI r) (nI ru) pv)) (h_groupFact : iA M 17 17 gf) (h_groupSet : lA M 18 17 gs) (hr : r ≤ 16) (hq : Q none (oP (lP (iP M 17 17 (upd gf r x)) 18 17 (vp_updL gs r w)) 16 1 (fa_f (nI (r + 1)) (nI ru) pv))) : ax_G g mt_Facts_addGroup h 0 0 0 [.ref 16, .int x, .long w, .float 0] [] M Q := by
  refine s_aload_n 1 rfl rfl rfl ?_
  refine s_getfield 1 2 4 rfl rfl fl_Facts_39 h_this rfl ?_
  refine s_bipush 16 6 rfl rfl (by decide) ?_
  refine s_icmp_gt 39 9 rfl rfl (by decide) (fun c1 => ?_) (fun c1 => ?_)
  -- Facts_addGroup 9: branch 39 9
  · exact absurd (nn_lt (a := 16) c1) (by omega)
  · refine s_aload_n 10 rfl rfl rfl ?_
    refine s_getfield 1 0 13 rfl rfl fl_Facts_9 h_this rfl ?_
    refine s_aload_n 14 rfl rfl rfl ?_
    refine s_getfield 1 2 17 rfl rfl fl_Facts_39 h_this rfl ?_
    refine s_iload_n 18 rfl rfl rfl ?_
    refine s_iastore (r) 19 rfl rfl h_groupFact rfl (by omega) (by decide) ?_
    refine s_aload_n 20 rfl rfl rfl ?_
    refine s_getfield 1 1 23 rfl rfl fl_Facts_15 h_this rfl ?_
    refine s_aload_n 24 rfl rfl rfl ?_
    refine s_getfield 1 2 27 rfl rfl fl_Facts_39 h_this rfl ?_
    refine s_lload_n 28 rfl rfl rfl ?_
    refine s_lastore (r) 29 rfl rfl h_groupSet rfl (by omega) (by decide) ?_
    refine s_aload_n 30 rfl rfl rfl ?_
    refine s_dup 31 rfl rfl rfl ?_
    refine s_getfield 1 2 34 rfl rfl fl_Facts_39 h_this rfl ?_
    refine s_iconst 1 35 rfl rfl (by decide) ?_
    refine s_iadd 36 rfl rfl ?_
    -- Facts_addGroup 36: end
    rw [nI_1]
    refine s_putfield 1 2 (.int) 39 rfl rfl fp_Facts_39 h_this (Nat.le_of_ble_eq_true rfl) ⟨rfl, rfl⟩ (fun h => absurd h (by decide)) ?_
    -- Facts_addGroup 39: return_
    exact s_return rfl rfl (hq)
theorem l_any {w : Int64} {p : Nat → Bool} {al : Nat} (hal : al ≤ 64) (hw : ∀ a, a < 64 → lb w a = (decide (a < al) && p a)) : (w = 0 ∧ ∀ a, a < al → p a = false) ∨ (w ≠ 0 ∧ ∃ a, a < al ∧ p a = true) := by
  by_cases z : ∃ a, a < al ∧ p a = true
  · refine Or.inr ⟨fun q => ?_, z⟩
    obtain ⟨a, h1, h2⟩ := z
    have := hw a (by omega)
    rw [q, l_0, decide_eq_true h1, h2] at this
    cases this
  · refine Or.inl ⟨l_ext (fun i hi => ?_), fun a ha => ?_⟩
    · rw [hw i hi, l_0]
      by_cases q : i < al
      · cases e : p i with
        | false => simp
        | true => exact absurd ⟨i, q, e⟩ z
      · rw [decide_eq_false q]
        rfl
    · cases e : p a with
      | false => rfl
      | true => exact absurd ⟨a, ha, e⟩ z
set_option maxHeartbeats 4000000 in
theorem m_Facts_groupAll {w : Int64} {op : Nat → Bool} {tr : Nat → Nat → Bool} (h_this : oC M 16 1 (fa_f gc (nI ru) pv)) (h_groupFact : iA M 17 17 gf) (h_groupSet : lA M 18 17 gs) (h_ruleSet : iA M 19 20 rs) (h_ruleHead : iA M 20 20 rh) (hru : ru ≤ 20) (h_trials : lA M 21 16 ts) (h_alarms : oC M 9 0 (al_f al)) (h_wants : iA M 12 50 wa) (hal : al ≤ 50) (hw : ∀ a, a < 64 → lb w a = (decide (a < al) && op a)) (ht : ∀ f a, f < 16 → a < al → cz (wa a) (kw_ (ap_ rs rh ru) 16 (pv ||| ((1 : Int32) <<< (nI f &&& 31)))) = tr f a) (hq : ∀ T n ts gf gs, gz_ op tr al T n gf gs → Q none (gm_m M ru pv ts gf gs n)) : ax_G g mt_Facts_groupAll (h + 2) 0 0 0 [.ref 16, .ref 9, .long w, .float 0, .float 0, .float 0, .float 0, .float 0] [] M Q := by
  refine s_aload_n 1 rfl rfl rfl ?_
  refine s_iconst 0 2 rfl rfl (by decide) ?_
  refine s_putfield 1 2 (.int) 5 rfl rfl fp_Facts_39 h_this (Nat.le_of_ble_eq_true rfl) ⟨rfl, rfl⟩ (fun h => absurd h (by decide)) ?_
  refine s_iconst 0 6 rfl rfl (by decide) ?_
  refine s_ist4 8 rfl rfl rfl ?_
  -- Facts_groupAll 8: end
  have loop1 : ∀ (d i : Nat) (ts : Nat → Int64), i + d = 16 → (∀ f, f < i → ∀ a, a < 64 → lb (ts f) a = (decide (a < al) && (op a && tr f a))) → ax_G g mt_Facts_groupAll (h + 2) 0 0 8 [.ref 16, .ref 9, .long w, .float 0, .int (nI i), .float 0, .float 0, .float 0] [] (lP (oP M 16 1 (fa_f (nI 0) (nI ru) pv)) 21 16 ts) Q := by
    intro d
    induction d with
    | zero =>
      intro i ts hi hts
      obtain rfl : i = 16 := by omega
      refine s_iload 10 rfl rfl rfl ?_
      refine s_bipush 16 12 rfl rfl (by decide) ?_
      refine s_icmp_ge 41 15 rfl rfl (by decide) (fun c1 => ?_) (fun c1 => ?_)
      -- Facts_groupAll 15: branch 41 15
      · refine s_lload_n 42 rfl rfl rfl ?_
        refine s_lst4 44 rfl rfl rfl ?_
        refine s_iconst 0 45 rfl rfl (by decide) ?_
        refine s_ist6 47 rfl rfl rfl ?_
        -- Facts_groupAll 47: end
        have e0 : lP (oP M 16 1 (fa_f (nI 0) (nI ru) pv)) 21 16 ts = gm_m M ru pv ts gf gs 0 := by
          unfold gm_m lP oP iP
          rw [ax_id (M := ax_put M 21 (.inl (3, 16, .inr (.inl ts)))) (a := 17) h_groupFact, ax_id (M := ax_put M 21 (.inl (3, 16, .inr (.inl ts)))) (a := 18) h_groupSet, ax_px _ _ (by decide)]
        rw [e0]
        have fin : ∀ (r : Nat) (x : Int64) (gf : Nat → Int32) (gs : Nat → Int64) (z6 z7 : Value), z6.category = 1 → z7.category = 1 → r ≤ 16 → bk_ op tr al r = -1 → gq_ op tr al r gf gs → (∀ a, a < 64 → lb x a = (decide (a < al) && Lr_ op tr al r a)) → ax_G g mt_Facts_groupAll (h + 2) 0 0 109 [.ref 16, .ref 9, .long w, .float 0, .long x, .float 0, z6, z7] [] (gm_m M ru pv ts gf gs r) Q := by
          intro r x gf gs z6 z7 _ _ hr hb hgq hx
          refine s_lload 111 rfl rfl rfl ?_
          refine s_lconst 0 112 rfl rfl (by decide) ?_
          refine s_lcmp 113 rfl rfl ?_
          refine s_if_eq 123 116 rfl rfl (by decide) (fun c2 => ?_) (fun c2 => ?_)
          -- Facts_groupAll 116: branch 123 116
          · rw [lg_c0] at c2
            rcases l_any (by omega) hx with ⟨-, q⟩ | ⟨q, -⟩
            · exact s_return rfl rfl (hq r r ts gf gs ⟨hr, hb, hgq, Or.inl ⟨q, rfl⟩⟩)
            · exact absurd c2 q
          · rw [lg_c0] at c2
            rcases l_any (by omega) hx with ⟨q, -⟩ | ⟨-, q⟩
            · exact absurd q c2
            · skip
              refine s_aload_n 117 rfl rfl rfl ?_
              refine s_iconst (-1) 118 rfl rfl (by decide) ?_
              refine s_lload 120 rfl rfl rfl ?_
              refine c_callV2 (h+1) 123 rfl rfl mv_Facts_55 (by omega) (Nat.le_of_ble_eq_true rfl) (Nat.le_of_ble_eq_true rfl) rfl rfl rfl ?_
              -- Facts_groupAll 123: call Facts_addGroup
              refine m_Facts_addGroup rfl rfl rfl hr ?_
              dsimp only [ax_rs]
              unfold gm_m lP oP iP
              rw [ax_p6]
              refine s_return rfl rfl (hq r (r + 1) ts _ _ ⟨hr, hb, fun k hk => ?_, Or.inr ⟨q, rfl, ?_, fun a ha => ?_⟩⟩)
              · unfold upd vp_updL
                rw [if_neg (by omega), if_neg (by omega)]
                exact hgq k hk
              · unfold upd
                rw [if_pos rfl]
              · unfold vp_updL
                rw [if_pos rfl]
                exact hx a ha
        have loop2 : ∀ (d r : Nat) (x : Int64) (gf : Nat → Int32) (gs : Nat → Int64) (z7 : Value), z7.category = 1 → r + d = 16 → Pr_ op tr al r + r ≤ 16 → gq_ op tr al r gf gs → (∀ a, a < 64 → lb x a = (decide (a < al) && Lr_ op tr al r a)) → (∀ a, Lr_ op tr al r a = true → op a = true) → ax_G g mt_Facts_groupAll (h + 2) 0 0 47 [.ref 16, .ref 9, .long w, .float 0, .long x, .float 0, .int (nI r), z7] [] (gm_m M ru pv ts gf gs r) Q := by
          intro d
          induction d with
          | zero =>
            intro r x gf gs z7 w7 hr hP hgq hx hs
            obtain rfl : r = 16 := by omega
            refine s_iload 49 rfl rfl rfl ?_
            refine s_bipush 16 51 rfl rfl (by decide) ?_
            refine s_icmp_ge 109 54 rfl rfl (by decide) (fun c3 => ?_) (fun c3 => ?_)
            -- Facts_groupAll 54: branch 109 54
            · exact fin 16 x gf gs _ _ rfl w7 (by omega) (Pr_0 (by omega)) hgq hx
            · exact absurd (by decide) c3
          | succ d ih =>
            intro r x gf gs z7 w7 hr hP hgq hx hs
            have hcn : ∀ f, f < 16 → cnt (lb (x &&& ts f)) 64 = cnt (fun a => Lr_ op tr al r a && tr f a) al := by
              intro f hf
              refine cnt_x (by omega) (fun b hb => ?_) (fun b h1 h2 => ?_)
              · rw [l_and, hx b (by omega), hts f hf b (by omega), decide_eq_true hb]
                have := hs b
                cases e1 : Lr_ op tr al r b with
                | false => simp
                | true => rw [this e1]; simp
              · rw [l_and, hx b h2, decide_eq_false (by omega)]
                rfl
            refine s_iload 49 rfl rfl rfl ?_
            refine s_bipush 16 51 rfl rfl (by decide) ?_
            refine s_icmp_ge 109 54 rfl rfl (by decide) (fun c4 => ?_) (fun c4 => ?_)
            -- Facts_groupAll 54: branch 109 54
            · exact absurd (nn_le (a := 16) c4) (by omega)
            · refine s_aload_n 55 rfl rfl rfl ?_
              refine s_lload 57 rfl rfl rfl ?_
              refine c_callV1 (h+1) 60 rfl rfl mv_Facts_51 (by omega) (Nat.le_of_ble_eq_true rfl) (Nat.le_of_ble_eq_true rfl) rfl rfl rfl ?_
              -- Facts_groupAll 60: call Facts_bestTrial
              refine m_Facts_bestTrial (h := h) (gc := nI r) (M := gm_m M ru pv ts gf gs r) (c := fun f => cnt (fun a => Lr_ op tr al r a && tr f a) al) rfl rfl hcn ?_
              dsimp only [ax_rs]
              refine s_ist7 62 rfl rfl rfl ?_
              refine s_iload 64 rfl rfl rfl ?_
              refine s_iconst (-1) 65 rfl rfl (by decide) ?_
              refine s_icmp_ne 71 68 rfl rfl (by decide) (fun c5 => ?_) (fun c5 => ?_)
              -- Facts_groupAll 68: branch 71 68
              · have c5 : bk_ op tr al r ≠ -1 := c5
                obtain ⟨f, hf, ef, hlt⟩ := Pr_s c5
                have ef' : (bs_ (fun f => cnt (fun a => Lr_ op tr al r a && tr f a) al) 16).1 = nI f := ef
                rw [ef']
                refine s_aload_n 72 rfl rfl rfl ?_
                refine s_iload 74 rfl rfl rfl ?_
                refine s_lload 76 rfl rfl rfl ?_
                refine s_aload_n 77 rfl rfl rfl ?_
                refine s_getfield 1 6 80 rfl rfl fl_Facts_25 rfl rfl ?_
                refine s_iload 82 rfl rfl rfl ?_
                refine s_laload (f) 83 rfl rfl rfl rfl (by omega) (by decide) ?_
                refine s_land 84 rfl rfl ?_
                refine c_callV2 (h+1) 87 rfl rfl mv_Facts_55 (by omega) (Nat.le_of_ble_eq_true rfl) (Nat.le_of_ble_eq_true rfl) rfl rfl rfl ?_
                -- Facts_groupAll 87: call Facts_addGroup
                refine m_Facts_addGroup (M := gm_m M ru pv ts gf gs r) rfl rfl rfl (by omega) ?_
                dsimp only [ax_rs]
                unfold gm_m lP oP iP
                rw [ax_p6]
                refine s_lload 89 rfl rfl rfl ?_
                refine s_aload_n 90 rfl rfl rfl ?_
                refine s_getfield 1 6 93 rfl rfl fl_Facts_25 rfl rfl ?_
                refine s_iload 95 rfl rfl rfl ?_
                refine s_laload (f) 96 rfl rfl rfl rfl (by omega) (by decide) ?_
                refine s_ldc2_w (-1) 99 rfl rfl kl_Facts_59 ?_
                refine s_lxor 100 rfl rfl ?_
                refine s_land 101 rfl rfl ?_
                refine s_lst4 103 rfl rfl rfl ?_
                refine s_inc6 _ 106 rfl rfl rfl rfl ?_
                refine s_goto 47 rfl (by decide) ?_
                -- Facts_groupAll 47: end
                rw [inc1]
                refine ih (r + 1) _ _ _ _ rfl (by omega) (by omega) (fun k hk => ?_) (fun a ha => ?_) (fun a q => ?_)
                · unfold upd vp_updL
                  by_cases z : k = r
                  · subst z
                    rw [if_pos rfl, if_pos rfl]
                    refine ⟨c5, ef.symm, fun a ha => ?_⟩
                    rw [l_and, hx a ha, hts f hf a ha, ef, nI_clamp (by omega)]
                    have := hs a
                    cases e1 : Lr_ op tr al k a with
                    | false => simp
                    | true => rw [this e1]; cases decide (a < al) <;> simp
                  · rw [if_neg z, if_neg z]
                    exact hgq k (by omega)
                · rw [l_and, l_xor, hx a ha, hts f hf a ha, l_m1 a ha, Lr_s op tr al r hf ef]
                  have := hs a
                  cases e1 : Lr_ op tr al r a with
                  | false => simp
                  | true => rw [this e1]; cases decide (a < al) <;> simp
                · rw [Lr_s op tr al r hf ef] at q
                  simp at q
                  exact hs a q.1
              · refine s_goto 109 rfl (by decide) ?_
                -- Facts_groupAll 109: end
                exact fin r x gf gs _ _ rfl rfl (by omega) c5 hgq hx
        exact loop2 16 0 w gf gs _ rfl (by omega) (Pr_16 op tr al 0) (fun k hk => absurd hk (Nat.not_lt_zero k)) hw (fun a q => q)
      · exact absurd (by decide) c1
    | succ d ih =>
      intro i ts hi hts
      refine s_iload 10 rfl rfl rfl ?_
      refine s_bipush 16 12 rfl rfl (by decide) ?_
      refine s_icmp_ge 41 15 rfl rfl (by decide) (fun c6 => ?_) (fun c6 => ?_)
      -- Facts_groupAll 15: branch 41 15
      · exact absurd (nn_le (a := 16) c6) (by omega)
      · refine s_aload_n 16 rfl rfl rfl ?_
        refine s_getfield 1 6 19 rfl rfl fl_Facts_25 rfl rfl ?_
        refine s_iload 21 rfl rfl rfl ?_
        refine s_aload_n 22 rfl rfl rfl ?_
        refine s_lload_n 23 rfl rfl rfl ?_
        refine s_aload_n 24 rfl rfl rfl ?_
        refine s_iconst 1 25 rfl rfl (by decide) ?_
        refine s_iload 27 rfl rfl rfl ?_
        refine s_ishl 28 rfl rfl ?_
        refine c_callV1 (h+1) 31 rfl rfl mv_Facts_42 (by omega) (Nat.le_of_ble_eq_true rfl) (Nat.le_of_ble_eq_true rfl) rfl rfl rfl ?_
        -- Facts_groupAll 31: call Facts_knownWith
        refine m_Facts_knownWith (h := h) (gc := nI 0) (M := lP (oP M 16 1 (fa_f (nI 0) (nI ru) pv)) 21 16 ts) rfl h_ruleSet h_ruleHead hru ?_
        dsimp only [ax_rs]
        refine c_callV2 (h+1) 34 rfl rfl mv_Facts_45 (by omega) (Nat.le_of_ble_eq_true rfl) (Nat.le_of_ble_eq_true rfl) h_alarms rfl rfl ?_
        -- Facts_groupAll 34: call Alarms_closedOf
        refine m_Alarms_closedOf (M := lP (oP M 16 1 (fa_f (nI 0) (nI ru) pv)) 21 16 ts) h_alarms h_wants hal ?_
        dsimp only [ax_rs]
        refine s_lastore (i) 35 rfl rfl rfl rfl (by omega) (by decide) ?_
        refine s_inc4 _ 38 rfl rfl rfl rfl ?_
        refine s_goto 8 rfl (by decide) ?_
        -- Facts_groupAll 8: end
        unfold lP
        rw [ax_pp, inc1]
        refine ih (i + 1) _ (by omega) (fun f hf a ha => ?_)
        unfold vp_updL
        by_cases z : f = i
        · subst z
          rw [if_pos rfl, lset_b _ _ (by omega) a ha, hw a ha]
          by_cases q : a < al
          · rw [ht f a (by omega) q, decide_eq_true q]
            simp
          · rw [decide_eq_false q]
            rfl
        · rw [if_neg z]
          exact hts f (by omega) a ha
  have h0 := loop1 16 0 ts (by omega) (fun f hf => absurd hf (Nat.not_lt_zero f))
  unfold lP at h0
  rw [ax_id (M := oP M 16 1 (fa_f (nI 0) (nI ru) pv)) (a := 21) h_trials] at h0
  exact h0
end GRP
