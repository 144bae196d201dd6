/-! What the calls that only look read: the class's side KC, the reference's KM, and that they agree. -/
abbrev Sta : Type := Nat × Nat × Nat × Nat × Nat × Int32 × Int32 × (Nat → Int64) × (Nat → Int32) × (Nat → Int32) × (Nat → Int32) × (Nat → Int32) × (Nat → Int32) × (Nat → Int32) × (Nat → Int32) × (Nat → Int32) × (Nat → Int32) × (Nat → Int32) × (Nat → Int32) × (Nat → Int32) × (Nat → Int32)
def sAl (s : Sta) : Nat := s.1
def sRu (s : Sta) : Nat := s.2.1
def sSi (s : Sta) : Nat := s.2.2.1
def sLn (s : Sta) : Nat := s.2.2.2.1
def sBl (s : Sta) : Nat := s.2.2.2.2.1
def sPv (s : Sta) : Int32 := s.2.2.2.2.2.1
def sKn (s : Sta) : Int32 := s.2.2.2.2.2.2.1
def sLs (s : Sta) : Nat → Int64 := s.2.2.2.2.2.2.2.1
def sLi (s : Sta) : Nat → Int32 := s.2.2.2.2.2.2.2.2.1
def sKi (s : Sta) : Nat → Int32 := s.2.2.2.2.2.2.2.2.2.1
def sWa (s : Sta) : Nat → Int32 := s.2.2.2.2.2.2.2.2.2.2.1
def sPp (s : Sta) : Nat → Int32 := s.2.2.2.2.2.2.2.2.2.2.2.1
def sQq (s : Sta) : Nat → Int32 := s.2.2.2.2.2.2.2.2.2.2.2.2.1
def sSt (s : Sta) : Nat → Int32 := s.2.2.2.2.2.2.2.2.2.2.2.2.2.1
def sUn (s : Sta) : Nat → Int32 := s.2.2.2.2.2.2.2.2.2.2.2.2.2.2.1
def sKd (s : Sta) : Nat → Int32 := s.2.2.2.2.2.2.2.2.2.2.2.2.2.2.2.1
def sWh (s : Sta) : Nat → Int32 := s.2.2.2.2.2.2.2.2.2.2.2.2.2.2.2.2.1
def sFi (s : Sta) : Nat → Int32 := s.2.2.2.2.2.2.2.2.2.2.2.2.2.2.2.2.2.1
def sLf (s : Sta) : Nat → Int32 := s.2.2.2.2.2.2.2.2.2.2.2.2.2.2.2.2.2.2.1
def sRs (s : Sta) : Nat → Int32 := s.2.2.2.2.2.2.2.2.2.2.2.2.2.2.2.2.2.2.2.1
def sRh (s : Sta) : Nat → Int32 := s.2.2.2.2.2.2.2.2.2.2.2.2.2.2.2.2.2.2.2.2
def KC (M : ax_M) (s : Sta) (dw nw : Nat) (gc pa : Int32) (sl : Nat → Option Nat) : Prop := (oC M 0 11 (tp_f dw nw (nI (sBl s)) pa)) ∧ (oC M 9 0 (al_f (sAl s))) ∧ (iA M 10 50 (sLi s)) ∧ (iA M 11 50 (sKi s)) ∧ (iA M 12 50 (sWa s)) ∧ (iA M 13 50 (sPp s)) ∧ (iA M 14 50 (sQq s)) ∧ (iA M 15 50 (sSt s)) ∧ (oC M nw 2 [.ref (nw + 1), .ref (nw + 2), .ref (nw + 3), .int (nI (sLn s))]) ∧ (iA M (nw + 1) 40 (sLf s)) ∧ (oC M 16 1 (fa_f gc (nI (sRu s)) (sPv s))) ∧ (iA M 19 20 (sRs s)) ∧ (iA M 20 20 (sRh s)) ∧ (kw_ (ap_ (sRs s) (sRh s) (sRu s)) 16 (sPv s) = sKn s) ∧ (oC M 22 9 [.ref 23, .int (nI (sSi s)), .ref 24]) ∧ (M.2 23 = some (.inl (5, 13, .inr (.inr (.inr (.inr sl)))))) ∧ (∀ k, k < sSi s → ∃ p w, sl k = some p ∧ oC M p 8 [.int (sUn s k), .int (sKd s k), .int (sWh s k), .int (sFi s k), .long (sLs s k), .ref w]) ∧ (sAl s ≤ 50 ∧ sRu s ≤ 20 ∧ sSi s ≤ 12 ∧ sLn s ≤ 40 ∧ sBl s ≤ 12) ∧ (∀ a, a < sAl s → sSt s a = 0 → ∃ c, c < sLn s ∧ sLi s a = nI c) ∧ (∀ k, k < sSi s → sWh s k = 0 ∨ sWh s k = 1 ∨ sWh s k = 2)
theorem KC.top {M : ax_M} {s : Sta} {dw nw : Nat} {gc pa : Int32} {sl : Nat → Option Nat} (h : KC M s dw nw gc pa sl) : oC M 0 11 (tp_f dw nw (nI (sBl s)) pa) := h.1
theorem KC.alarms {M : ax_M} {s : Sta} {dw nw : Nat} {gc pa : Int32} {sl : Nat → Option Nat} (h : KC M s dw nw gc pa sl) : oC M 9 0 (al_f (sAl s)) := h.2.1
theorem KC.line {M : ax_M} {s : Sta} {dw nw : Nat} {gc pa : Int32} {sl : Nat → Option Nat} (h : KC M s dw nw gc pa sl) : iA M 10 50 (sLi s) := h.2.2.1
theorem KC.kind {M : ax_M} {s : Sta} {dw nw : Nat} {gc pa : Int32} {sl : Nat → Option Nat} (h : KC M s dw nw gc pa sl) : iA M 11 50 (sKi s) := h.2.2.2.1
theorem KC.wants {M : ax_M} {s : Sta} {dw nw : Nat} {gc pa : Int32} {sl : Nat → Option Nat} (h : KC M s dw nw gc pa sl) : iA M 12 50 (sWa s) := h.2.2.2.2.1
theorem KC.p {M : ax_M} {s : Sta} {dw nw : Nat} {gc pa : Int32} {sl : Nat → Option Nat} (h : KC M s dw nw gc pa sl) : iA M 13 50 (sPp s) := h.2.2.2.2.2.1
theorem KC.q {M : ax_M} {s : Sta} {dw nw : Nat} {gc pa : Int32} {sl : Nat → Option Nat} (h : KC M s dw nw gc pa sl) : iA M 14 50 (sQq s) := h.2.2.2.2.2.2.1
theorem KC.state {M : ax_M} {s : Sta} {dw nw : Nat} {gc pa : Int32} {sl : Nat → Option Nat} (h : KC M s dw nw gc pa sl) : iA M 15 50 (sSt s) := h.2.2.2.2.2.2.2.1
theorem KC.now {M : ax_M} {s : Sta} {dw nw : Nat} {gc pa : Int32} {sl : Nat → Option Nat} (h : KC M s dw nw gc pa sl) : oC M nw 2 [.ref (nw + 1), .ref (nw + 2), .ref (nw + 3), .int (nI (sLn s))] := h.2.2.2.2.2.2.2.2.1
theorem KC.file {M : ax_M} {s : Sta} {dw nw : Nat} {gc pa : Int32} {sl : Nat → Option Nat} (h : KC M s dw nw gc pa sl) : iA M (nw + 1) 40 (sLf s) := h.2.2.2.2.2.2.2.2.2.1
theorem KC.facts {M : ax_M} {s : Sta} {dw nw : Nat} {gc pa : Int32} {sl : Nat → Option Nat} (h : KC M s dw nw gc pa sl) : oC M 16 1 (fa_f gc (nI (sRu s)) (sPv s)) := h.2.2.2.2.2.2.2.2.2.2.1
theorem KC.ruleSet {M : ax_M} {s : Sta} {dw nw : Nat} {gc pa : Int32} {sl : Nat → Option Nat} (h : KC M s dw nw gc pa sl) : iA M 19 20 (sRs s) := h.2.2.2.2.2.2.2.2.2.2.2.1
theorem KC.ruleHead {M : ax_M} {s : Sta} {dw nw : Nat} {gc pa : Int32} {sl : Nat → Option Nat} (h : KC M s dw nw gc pa sl) : iA M 20 20 (sRh s) := h.2.2.2.2.2.2.2.2.2.2.2.2.1
theorem KC.kn {M : ax_M} {s : Sta} {dw nw : Nat} {gc pa : Int32} {sl : Nat → Option Nat} (h : KC M s dw nw gc pa sl) : kw_ (ap_ (sRs s) (sRh s) (sRu s)) 16 (sPv s) = sKn s := h.2.2.2.2.2.2.2.2.2.2.2.2.2.1
theorem KC.silences {M : ax_M} {s : Sta} {dw nw : Nat} {gc pa : Int32} {sl : Nat → Option Nat} (h : KC M s dw nw gc pa sl) : oC M 22 9 [.ref 23, .int (nI (sSi s)), .ref 24] := h.2.2.2.2.2.2.2.2.2.2.2.2.2.2.1
theorem KC.slots {M : ax_M} {s : Sta} {dw nw : Nat} {gc pa : Int32} {sl : Nat → Option Nat} (h : KC M s dw nw gc pa sl) : M.2 23 = some (.inl (5, 13, .inr (.inr (.inr (.inr sl))))) := h.2.2.2.2.2.2.2.2.2.2.2.2.2.2.2.1
theorem KC.slot {M : ax_M} {s : Sta} {dw nw : Nat} {gc pa : Int32} {sl : Nat → Option Nat} (h : KC M s dw nw gc pa sl) : ∀ k, k < sSi s → ∃ p w, sl k = some p ∧ oC M p 8 [.int (sUn s k), .int (sKd s k), .int (sWh s k), .int (sFi s k), .long (sLs s k), .ref w] := h.2.2.2.2.2.2.2.2.2.2.2.2.2.2.2.2.1
theorem KC.bd {M : ax_M} {s : Sta} {dw nw : Nat} {gc pa : Int32} {sl : Nat → Option Nat} (h : KC M s dw nw gc pa sl) : sAl s ≤ 50 ∧ sRu s ≤ 20 ∧ sSi s ≤ 12 ∧ sLn s ≤ 40 ∧ sBl s ≤ 12 := h.2.2.2.2.2.2.2.2.2.2.2.2.2.2.2.2.2.1
theorem KC.told {M : ax_M} {s : Sta} {dw nw : Nat} {gc pa : Int32} {sl : Nat → Option Nat} (h : KC M s dw nw gc pa sl) : ∀ a, a < sAl s → sSt s a = 0 → ∃ c, c < sLn s ∧ sLi s a = nI c := h.2.2.2.2.2.2.2.2.2.2.2.2.2.2.2.2.2.2.1
theorem KC.whc {M : ax_M} {s : Sta} {dw nw : Nat} {gc pa : Int32} {sl : Nat → Option Nat} (h : KC M s dw nw gc pa sl) : ∀ k, k < sSi s → sWh s k = 0 ∨ sWh s k = 1 ∨ sWh s k = 2 := h.2.2.2.2.2.2.2.2.2.2.2.2.2.2.2.2.2.2.2
def KM (M : ax_M) (s : Sta) (n dr pa cm os gm tk pl bh : Int32) (va : Int64) (iw od : Int32) : Prop := (oC M 143 12 (md_f n (nI (sBl s)) (nI (sLn s)) dr (nI (sAl s)) (nI (sRu s)) (sPv s) (nI (sSi s)) pa cm os gm tk pl bh va iw od)) ∧ (iA M 155 50 (sLi s)) ∧ (iA M 156 50 (sKi s)) ∧ (iA M 157 50 (sWa s)) ∧ (iA M 158 50 (sPp s)) ∧ (iA M 159 50 (sQq s)) ∧ (iA M 160 50 (sSt s)) ∧ (iA M 145 40 (sLf s)) ∧ (iA M 162 20 (sRs s)) ∧ (iA M 163 20 (sRh s)) ∧ (kw_ (ap_ (sRs s) (fun i => (1 : Int32) <<< (sRh s i &&& 31)) (sRu s)) 33 (sPv s) = sKn s) ∧ (iA M 166 26 (sUn s)) ∧ (iA M 167 26 (sKd s)) ∧ (iA M 168 26 (sWh s)) ∧ (iA M 169 26 (sFi s)) ∧ (lA M 170 26 (sLs s)) ∧ (sAl s ≤ 50 ∧ sRu s ≤ 20 ∧ sSi s ≤ 12 ∧ sLn s ≤ 40 ∧ sBl s ≤ 12) ∧ (∀ a, a < sAl s → sSt s a = 0 → ∃ c, c < sLn s ∧ sLi s a = nI c) ∧ (∀ k, k < sSi s → sWh s k = 0 ∨ sWh s k = 1 ∨ sWh s k = 2)
theorem KM.this {M : ax_M} {s : Sta} {n dr pa cm os gm tk pl bh : Int32} {va : Int64} {iw od : Int32} (h : KM M s n dr pa cm os gm tk pl bh va iw od) : oC M 143 12 (md_f n (nI (sBl s)) (nI (sLn s)) dr (nI (sAl s)) (nI (sRu s)) (sPv s) (nI (sSi s)) pa cm os gm tk pl bh va iw od) := h.1
theorem KM.lineOf {M : ax_M} {s : Sta} {n dr pa cm os gm tk pl bh : Int32} {va : Int64} {iw od : Int32} (h : KM M s n dr pa cm os gm tk pl bh va iw od) : iA M 155 50 (sLi s) := h.2.1
theorem KM.kindOf {M : ax_M} {s : Sta} {n dr pa cm os gm tk pl bh : Int32} {va : Int64} {iw od : Int32} (h : KM M s n dr pa cm os gm tk pl bh va iw od) : iA M 156 50 (sKi s) := h.2.2.1
theorem KM.wants {M : ax_M} {s : Sta} {n dr pa cm os gm tk pl bh : Int32} {va : Int64} {iw od : Int32} (h : KM M s n dr pa cm os gm tk pl bh va iw od) : iA M 157 50 (sWa s) := h.2.2.2.1
theorem KM.above {M : ax_M} {s : Sta} {n dr pa cm os gm tk pl bh : Int32} {va : Int64} {iw od : Int32} (h : KM M s n dr pa cm os gm tk pl bh va iw od) : iA M 158 50 (sPp s) := h.2.2.2.2.1
theorem KM.below {M : ax_M} {s : Sta} {n dr pa cm os gm tk pl bh : Int32} {va : Int64} {iw od : Int32} (h : KM M s n dr pa cm os gm tk pl bh va iw od) : iA M 159 50 (sQq s) := h.2.2.2.2.2.1
theorem KM.state {M : ax_M} {s : Sta} {n dr pa cm os gm tk pl bh : Int32} {va : Int64} {iw od : Int32} (h : KM M s n dr pa cm os gm tk pl bh va iw od) : iA M 160 50 (sSt s) := h.2.2.2.2.2.2.1
theorem KM.fileOf {M : ax_M} {s : Sta} {n dr pa cm os gm tk pl bh : Int32} {va : Int64} {iw od : Int32} (h : KM M s n dr pa cm os gm tk pl bh va iw od) : iA M 145 40 (sLf s) := h.2.2.2.2.2.2.2.1
theorem KM.ruleSet {M : ax_M} {s : Sta} {n dr pa cm os gm tk pl bh : Int32} {va : Int64} {iw od : Int32} (h : KM M s n dr pa cm os gm tk pl bh va iw od) : iA M 162 20 (sRs s) := h.2.2.2.2.2.2.2.2.1
theorem KM.ruleHead {M : ax_M} {s : Sta} {n dr pa cm os gm tk pl bh : Int32} {va : Int64} {iw od : Int32} (h : KM M s n dr pa cm os gm tk pl bh va iw od) : iA M 163 20 (sRh s) := h.2.2.2.2.2.2.2.2.2.1
theorem KM.kn {M : ax_M} {s : Sta} {n dr pa cm os gm tk pl bh : Int32} {va : Int64} {iw od : Int32} (h : KM M s n dr pa cm os gm tk pl bh va iw od) : kw_ (ap_ (sRs s) (fun i => (1 : Int32) <<< (sRh s i &&& 31)) (sRu s)) 33 (sPv s) = sKn s := h.2.2.2.2.2.2.2.2.2.2.1
theorem KM.until_ {M : ax_M} {s : Sta} {n dr pa cm os gm tk pl bh : Int32} {va : Int64} {iw od : Int32} (h : KM M s n dr pa cm os gm tk pl bh va iw od) : iA M 166 26 (sUn s) := h.2.2.2.2.2.2.2.2.2.2.2.1
theorem KM.silenceKind {M : ax_M} {s : Sta} {n dr pa cm os gm tk pl bh : Int32} {va : Int64} {iw od : Int32} (h : KM M s n dr pa cm os gm tk pl bh va iw od) : iA M 167 26 (sKd s) := h.2.2.2.2.2.2.2.2.2.2.2.2.1
theorem KM.where_ {M : ax_M} {s : Sta} {n dr pa cm os gm tk pl bh : Int32} {va : Int64} {iw od : Int32} (h : KM M s n dr pa cm os gm tk pl bh va iw od) : iA M 168 26 (sWh s) := h.2.2.2.2.2.2.2.2.2.2.2.2.2.1
theorem KM.silenceFile {M : ax_M} {s : Sta} {n dr pa cm os gm tk pl bh : Int32} {va : Int64} {iw od : Int32} (h : KM M s n dr pa cm os gm tk pl bh va iw od) : iA M 169 26 (sFi s) := h.2.2.2.2.2.2.2.2.2.2.2.2.2.2.1
theorem KM.silenceLines {M : ax_M} {s : Sta} {n dr pa cm os gm tk pl bh : Int32} {va : Int64} {iw od : Int32} (h : KM M s n dr pa cm os gm tk pl bh va iw od) : lA M 170 26 (sLs s) := h.2.2.2.2.2.2.2.2.2.2.2.2.2.2.2.1
theorem KM.bd {M : ax_M} {s : Sta} {n dr pa cm os gm tk pl bh : Int32} {va : Int64} {iw od : Int32} (h : KM M s n dr pa cm os gm tk pl bh va iw od) : sAl s ≤ 50 ∧ sRu s ≤ 20 ∧ sSi s ≤ 12 ∧ sLn s ≤ 40 ∧ sBl s ≤ 12 := h.2.2.2.2.2.2.2.2.2.2.2.2.2.2.2.2.1
theorem KM.told {M : ax_M} {s : Sta} {n dr pa cm os gm tk pl bh : Int32} {va : Int64} {iw od : Int32} (h : KM M s n dr pa cm os gm tk pl bh va iw od) : ∀ a, a < sAl s → sSt s a = 0 → ∃ c, c < sLn s ∧ sLi s a = nI c := h.2.2.2.2.2.2.2.2.2.2.2.2.2.2.2.2.2.1
theorem KM.whc {M : ax_M} {s : Sta} {n dr pa cm os gm tk pl bh : Int32} {va : Int64} {iw od : Int32} (h : KM M s n dr pa cm os gm tk pl bh va iw od) : ∀ k, k < sSi s → sWh s k = 0 ∨ sWh s k = 1 ∨ sWh s k = 2 := h.2.2.2.2.2.2.2.2.2.2.2.2.2.2.2.2.2.2
def Ag (s t : Sta) : Prop := (sAl t = sAl s ∧ sRu t = sRu s ∧ sSi t = sSi s ∧ sLn t = sLn s ∧ sBl t = sBl s ∧ sPv t = sPv s ∧ sKn t = sKn s) ∧ (∀ a, a < sAl s → sLi t a = sLi s a ∧ sKi t a = sKi s a ∧ sWa t a = sWa s a ∧ sPp t a = sPp s a ∧ sQq t a = sQq s a ∧ sSt t a = sSt s a) ∧ (∀ k, k < sSi s → sUn t k = sUn s k ∧ sKd t k = sKd s k ∧ sWh t k = sWh s k ∧ sFi t k = sFi s k ∧ sLs t k = sLs s k) ∧ (∀ j, j < sLn s → sLf t j = sLf s j)
theorem Ag.sc {s t : Sta} (h : Ag s t) : sAl t = sAl s ∧ sRu t = sRu s ∧ sSi t = sSi s ∧ sLn t = sLn s ∧ sBl t = sBl s ∧ sPv t = sPv s ∧ sKn t = sKn s := h.1
theorem Ag.al {s t : Sta} (h : Ag s t) : ∀ a, a < sAl s → sLi t a = sLi s a ∧ sKi t a = sKi s a ∧ sWa t a = sWa s a ∧ sPp t a = sPp s a ∧ sQq t a = sQq s a ∧ sSt t a = sSt s a := h.2.1
theorem Ag.si {s t : Sta} (h : Ag s t) : ∀ k, k < sSi s → sUn t k = sUn s k ∧ sKd t k = sKd s k ∧ sWh t k = sWh s k ∧ sFi t k = sFi s k ∧ sLs t k = sLs s k := h.2.2.1
theorem Ag.ln {s t : Sta} (h : Ag s t) : ∀ j, j < sLn s → sLf t j = sLf s j := h.2.2.2
theorem Rel.get {g : ax_Y} {M : ax_M} (h : Rel g M) : ∃ s t dw nw gc sl, ∃ n pa dr cm os : Nat, ∃ gm tk pl bh va iw od, KC M s dw nw gc (nI pa) sl ∧ KM M t (nI n) (nI dr) (nI pa) (nI cm) (nI os) gm tk pl bh va iw od ∧ Ag s t ∧ R_text M n ∧ R_lines M (sLn s) dr dw nw ∧ R_alarms M (sBl s) (sLn s) (sAl s) ∧ R_facts M (sRu s) (sPv s) ∧ R_sil M (sLn s) (sSi s) ∧ R_own M pa ∧ R_out M os ∧ R_cho M cm ∧ R_scr M ∧ (sBl s = 0 → sLn s = 0) := by
  obtain ⟨n, bl, ln, dr, al, ru, si, pa, cm, os, dw, nw, pv, gm, tk, pl, bh, va, iw, od, h0, h143, hT, hL, hA, hF, hS, hO, hU, hC, hX, hz⟩ := h
  have hL' := hL
  have hA' := hA
  have hF' := hF
  have hS' := hS
  obtain ⟨hw, nf, nm, nb, df, dm, db, mf, mm, mp, gf, gm2, l1, l2, l3, l4, l5, l6, l7, l8, l9, l10, l11, l12, l13, l14, l15, l16, l17⟩ := hL
  obtain ⟨li, ki, wa, pp, qq, st, l2', k2, w2, p2, q2, s3, ob, tr, ps, a1, a2, a3, a4, a5, a6, a7, a8, a9, a10, a11, a12, a13, a14, a15, a16, a17, a18, a19, a20⟩ := hA
  obtain ⟨gc, rs, rh, s2, h2, gf', gs, ts, f1, f2, f3, f4, f5, f6, f7, f8, f9, ⟨cp, hcp, rfl⟩, f11⟩ := hF
  obtain ⟨sl, pm, un, kd, wh, fi, rz, rb, ls, i1, i2, i3, i4, i5, i6, i7, i8, i9, i10, i11, i12, i13⟩ := hS
  refine ⟨(al, ru, si, ln, bl, nI cp, kw_ (ap_ rs rh ru) 16 (nI cp), ls, li, ki, wa, pp, qq, st, un, kd, wh, fi, nf, rs, rh), (al, ru, si, ln, bl, nI cp, kw_ (ap_ rs rh ru) 16 (nI cp), ls, l2', k2, w2, p2, q2, s3, un, kd, wh, fi, mf, s2, h2), dw, nw, gc, sl, n, pa, dr, cm, os, gm, tk, pl, bh, va, iw, od, ⟨h0, a1, a2, a3, a4, a5, a6, a7, l1, l2, f1, f4, f5, rfl, i1, i2, ?_, ⟨a17, f9, i12, l14, a18⟩, ?_, ?_⟩, ⟨h143, a9, a10, a11, a12, a13, a14, l9, f7, f8, kn_eq f11 (lo_nI hcp), i5, i6, i7, i8, i9, ⟨a17, f9, i12, l14, a18⟩, ?_, ?_⟩, ⟨⟨rfl, rfl, rfl, rfl, rfl, rfl, rfl⟩, fun a ha => (a19 a ha).1, fun k _ => ⟨rfl, rfl, rfl, rfl, rfl⟩, fun j hj => (l16 j hj).1.symm⟩, hT, hL', hA', hF', hS', hO, hU, hC, hX, hz⟩
  · intro k hk
    have hk : k < si := hk
    obtain ⟨a, b, c, d, e, r, f, q1, q2⟩ := i13 k (by omega)
    obtain ⟨e1, e2, e3, e4, e5, -⟩ := q2 hk
    refine ⟨_, 31 + 3 * pm k, (i3 k (by omega)).2, ?_⟩
    show oC M _ 8 [.int (un k), .int (kd k), .int (wh k), .int (fi k), .long (ls k), _]
    rw [e1, e2, e3, e4, e5]
    exact q1.1
  · intro a ha e
    exact (a19 a ha).2.2.2.1 (fun q => by
      have e : st a = 0 := e
      rw [e] at q
      exact absurd q (by decide))
  · intro k hk
    have hk : k < si := hk
    obtain ⟨a, b, c, d, e, r, f, q1, q2⟩ := i13 k (by omega)
    obtain ⟨e1, e2, e3, e4, e5, e6, e7, -⟩ := q2 hk
    show wh k = 0 ∨ wh k = 1 ∨ wh k = 2
    rw [e3]
    exact e7
  · intro a ha e
    obtain ⟨⟨x1, x2, x3, x4, x5, x6⟩, -, -, x7, -⟩ := a19 a ha
    have e : s3 a = 0 := e
    show ∃ c, c < ln ∧ l2' a = nI c
    rw [x1]
    exact x7 (fun q => by
      rw [← x6, e] at q
      exact absurd q (by decide))
  · intro k hk
    have hk : k < si := hk
    obtain ⟨a, b, c, d, e, r, f, q1, q2⟩ := i13 k (by omega)
    obtain ⟨e1, e2, e3, e4, e5, e6, e7, -⟩ := q2 hk
    show wh k = 0 ∨ wh k = 1 ∨ wh k = 2
    rw [e3]
    exact e7
/-- the first place below n with p, or -1 -/
def ff_ (p : Nat → Bool) : Nat → Int32
  | 0 => -1
  | n + 1 => if ff_ p n = -1 then (if p n then nI n else -1) else ff_ p n
theorem ff_no {p : Nat → Bool} : ∀ {n : Nat}, (∀ j, j < n → p j = false) → ff_ p n = -1 := by
  intro n
  induction n with
  | zero => intro _; rfl
  | succ n ih =>
    intro h
    rw [ff_, ih (fun j hj => h j (by omega)), if_pos rfl, h n (by omega)]
    rfl
theorem ff_at {p : Nat → Bool} {i : Nat} (hp : p i = true) (hb : ∀ j, j < i → p j = false) : ∀ {n : Nat}, i < n → n < 65536 → ff_ p n = nI i := by
  intro n
  induction n with
  | zero => intro h; omega
  | succ n ih =>
    intro h hn
    rw [ff_]
    by_cases e : i = n
    · subst e
      rw [ff_no hb, if_pos rfl, if_pos hp]
    · rw [ih (by omega) (by omega), if_neg (nn_m1 (by omega))]
theorem ff_cg {p q : Nat → Bool} : ∀ {n : Nat}, (∀ j, j < n → p j = q j) → ff_ p n = ff_ q n := by
  intro n
  induction n with
  | zero => intro _; rfl
  | succ n ih =>
    intro h
    rw [ff_, ff_, ih (fun j hj => h j (by omega)), h n (by omega)]
/-- has a silence a line? -/
def hl_ (wh fi : Int32) (ls : Int64) (l : Nat) (fl : Int32) : Bool := if wh = 2 then true else if wh = 1 then decide (fl = fi) else lb ls l
def sl_b (s : Sta) (l : Nat) (kd : Int32) (k : Nat) : Bool := decide (sUn s k = -1 ∨ nI (sBl s) - 1 ≤ sUn s k) && hl_ (sWh s k) (sFi s k) (sLs s k) l (sLf s l) && decide (sKd s k = -1 ∨ sKd s k = kd)
/-- the silence that silences alarm a -/
def sv_ (s : Sta) (a : Nat) : Int32 := if sSt s a = 0 then ff_ (sl_b s (sLi s a).toNatClampNeg (sKi s a)) (sSi s) else -1
theorem sv_ag {s t : Sta} (h : Ag s t) (ht : ∀ a, a < sAl s → sSt s a = 0 → ∃ c, c < sLn s ∧ sLi s a = nI c) (hb : sLn s ≤ 40) {a : Nat} (ha : a < sAl s) : sv_ t a = sv_ s a := by
  obtain ⟨e1, e2, e3, e4, e5, e6⟩ := h.al a ha
  unfold sv_
  rw [e6]
  by_cases z : sSt s a = 0
  · rw [if_pos z, if_pos z, e1, e2, h.sc.2.2.1]
    refine ff_cg (fun k hk => ?_)
    obtain ⟨c, hc, e⟩ := ht a ha z
    obtain ⟨x1, x2, x3, x4, x5⟩ := h.si k hk
    unfold sl_b
    rw [x1, x2, x3, x4, x5, h.sc.2.2.2.2.1, e, nI_clamp (by omega), h.ln c hc]
  · rw [if_neg z, if_neg z]
/-- what a trend counts -/
def be_ (s : Sta) (w : Nat) (a : Nat) : Bool := decide (sSt s a = 0) && (if w = 0 then true else if w = 1 then cz (sWa s a) (sKn s) else if w = 2 then !decide (sv_ s a = -1) else (!cz (sWa s a) (sKn s) && decide (sv_ s a = -1)))
theorem be_ag {s t : Sta} (h : Ag s t) (ht : ∀ a, a < sAl s → sSt s a = 0 → ∃ c, c < sLn s ∧ sLi s a = nI c) (hb : sLn s ≤ 40) (w : Nat) {a : Nat} (ha : a < sAl s) : be_ t w a = be_ s w a := by
  obtain ⟨e1, e2, e3, e4, e5, e6⟩ := h.al a ha
  unfold be_
  rw [sv_ag h ht hb ha, e3, e6, h.sc.2.2.2.2.2.2]
section KCS
variable {g : ax_Y} {M : ax_M} {Q : Option Value → ax_M → Prop} {h : Nat} {s : Sta} {dw nw : Nat} {gc pa : Int32} {sl : Nat → Option Nat}
theorem m_Silence_holds {b w : Nat} {un kd fo fi x : Int32} {ls : Int64} (h_this : oC M b 8 [.int un, .int kd, .int fo, .int fi, .long ls, .ref w]) (hq : Q (some (.int (bi (un = -1 ∨ x ≤ un)))) M) : ax_G g mt_Silence_holds h 0 0 0 [.ref b, .int x] [] M Q := by
  refine s_aload_n 1 rfl rfl rfl ?_
  refine s_getfield 8 0 4 rfl rfl fl_Silence_20 h_this rfl ?_
  refine s_iconst (-1) 5 rfl rfl (by decide) ?_
  refine s_icmp_eq 16 8 rfl rfl (by decide) (fun c1 => ?_) (fun c1 => ?_)
  -- Silence_holds 8: branch 16 8
  · rw [bi_t (Or.inl c1)] at hq
    refine s_iconst 1 17 rfl rfl (by decide) ?_
    refine s_goto 21 rfl (by decide) ?_
    -- Silence_holds 21: ireturn
    exact s_ireturn rfl .boolean rfl rfl (hq)
  · refine s_iload_n 9 rfl rfl rfl ?_
    refine s_aload_n 10 rfl rfl rfl ?_
    refine s_getfield 8 0 13 rfl rfl fl_Silence_20 h_this rfl ?_
    refine s_icmp_gt 20 16 rfl rfl (by decide) (fun c2 => ?_) (fun c2 => ?_)
    -- Silence_holds 16: branch 20 16
    · rw [bi_f (fun q => q.elim c1 (fun z => absurd c2 (Int32.not_lt.mpr z)))] at hq
      refine s_iconst 0 21 rfl rfl (by decide) ?_
      -- Silence_holds 21: ireturn
      exact s_ireturn rfl .boolean rfl rfl (hq)
    · rw [bi_t (Or.inr (Int32.not_lt.mp c2))] at hq
      refine s_iconst 1 17 rfl rfl (by decide) ?_
      refine s_goto 21 rfl (by decide) ?_
      -- Silence_holds 21: ireturn
      exact s_ireturn rfl .boolean rfl rfl (hq)
theorem m_Silence_hasLine {b w l : Nat} {un kd fo fi fl : Int32} {ls : Int64} (h_this : oC M b 8 [.int un, .int kd, .int fo, .int fi, .long ls, .ref w]) (hf : fo = 0 ∨ fo = 1 ∨ fo = 2) (hl : l < 64) (hq : Q (some (.int (bi (hl_ fo fi ls l fl = true)))) M) : ax_G g mt_Silence_hasLine h 0 0 0 [.ref b, .int (nI l), .int fl] [] M Q := by
  unfold hl_ at hq
  refine s_aload_n 1 rfl rfl rfl ?_
  refine s_getfield 8 2 4 rfl rfl fl_Silence_27 h_this rfl ?_
  -- Silence_hasLine 4: end
  rcases hf with rfl | rfl | rfl
  · rw [if_neg (by decide), if_neg (by decide)] at hq
    refine s_lookup 44 48 rfl (by decide) (by decide) (by decide) ?_
    -- to 48
    refine s_aload_n 49 rfl rfl rfl ?_
    refine s_getfield 8 4 52 rfl rfl fl_Silence_33 h_this rfl ?_
    refine s_iload_n 53 rfl rfl rfl ?_
    refine s_lushr 54 rfl rfl ?_
    refine s_lconst 1 55 rfl rfl (by decide) ?_
    refine s_land 56 rfl rfl ?_
    -- Silence_hasLine 56: end
    rw [l_tsu ls hl]
    refine s_lconst 0 57 rfl rfl (by decide) ?_
    refine s_lcmp 58 rfl rfl ?_
    -- Silence_hasLine 58: end
    rw [l_c0]
    refine s_if_eq 65 61 rfl rfl (by decide) (fun c1 => ?_) (fun c1 => ?_)
    -- Silence_hasLine 61: branch 65 61
    · rw [i01] at c1
      rw [bi_f (by simp [c1])] at hq
      refine s_iconst 0 66 rfl rfl (by decide) ?_
      -- Silence_hasLine 66: ireturn
      exact s_ireturn rfl .boolean rfl rfl (hq)
    · rw [i01] at c1
      rw [bi_t (by simpa using c1)] at hq
      refine s_iconst 1 62 rfl rfl (by decide) ?_
      refine s_goto 66 rfl (by decide) ?_
      -- Silence_hasLine 66: ireturn
      exact s_ireturn rfl .boolean rfl rfl (hq)
  · rw [if_neg (by decide), if_pos rfl] at hq
    refine s_lookup 30 34 rfl (by decide) (by decide) (by decide) ?_
    -- to 34
    refine s_iload_n 35 rfl rfl rfl ?_
    refine s_aload_n 36 rfl rfl rfl ?_
    refine s_getfield 8 3 39 rfl rfl fl_Silence_30 h_this rfl ?_
    refine s_icmp_ne 46 42 rfl rfl (by decide) (fun c2 => ?_) (fun c2 => ?_)
    -- Silence_hasLine 42: branch 46 42
    · rw [bi_f (by simpa using c2)] at hq
      refine s_iconst 0 47 rfl rfl (by decide) ?_
      -- Silence_hasLine 47: ireturn
      exact s_ireturn rfl .boolean rfl rfl (hq)
    · rw [bi_t (by simpa using c2)] at hq
      refine s_iconst 1 43 rfl rfl (by decide) ?_
      refine s_goto 47 rfl (by decide) ?_
      -- Silence_hasLine 47: ireturn
      exact s_ireturn rfl .boolean rfl rfl (hq)
  · rw [if_pos rfl, bi_t rfl] at hq
    refine s_lookup 28 32 rfl (by decide) (by decide) (by decide) ?_
    -- to 32
    refine s_iconst 1 33 rfl rfl (by decide) ?_
    -- Silence_hasLine 33: ireturn
    exact s_ireturn rfl .boolean rfl rfl (hq)
theorem m_Silences_has {x : Int32} {n : Nat} (h_this : oC M 22 9 [.ref 23, .int (nI n), .ref 24]) (hq : Q (some (.int (bi (¬ x < 0 ∧ ¬ nI n ≤ x)))) M) : ax_G g mt_Silences_has h 0 0 0 [.ref 22, .int x] [] M Q := by
  refine s_iload_n 1 rfl rfl rfl ?_
  refine s_if_lt 16 4 rfl rfl (by decide) (fun c1 => ?_) (fun c1 => ?_)
  -- Silences_has 4: branch 16 4
  · rw [bi_f (fun q => q.1 c1)] at hq
    refine s_iconst 0 17 rfl rfl (by decide) ?_
    -- Silences_has 17: ireturn
    exact s_ireturn rfl .boolean rfl rfl (hq)
  · refine s_iload_n 5 rfl rfl rfl ?_
    refine s_aload_n 6 rfl rfl rfl ?_
    refine s_getfield 9 1 9 rfl rfl fl_Silences_25 h_this rfl ?_
    refine s_icmp_ge 16 12 rfl rfl (by decide) (fun c2 => ?_) (fun c2 => ?_)
    -- Silences_has 12: branch 16 12
    · rw [bi_f (fun q => q.2 c2)] at hq
      refine s_iconst 0 17 rfl rfl (by decide) ?_
      -- Silences_has 17: ireturn
      exact s_ireturn rfl .boolean rfl rfl (hq)
    · rw [bi_t ⟨c1, c2⟩] at hq
      refine s_iconst 1 13 rfl rfl (by decide) ?_
      refine s_goto 17 rfl (by decide) ?_
      -- Silences_has 17: ireturn
      exact s_ireturn rfl .boolean rfl rfl (hq)
theorem m_Silences_firstFor {l : Nat} {kd : Int32} (hK : KC M s dw nw gc pa sl) (hl : l < 64) (hq : Q (some (.int (ff_ (sl_b s l kd) (sSi s)))) M) : ax_G g mt_Silences_firstFor (h + 1) 0 0 0 [.ref 22, .int (nI l), .int (sLf s l), .int kd, .int (nI (sBl s) - 1), .float 0, .float 0, .float 0] [] M Q := by
  have b3 := hK.bd.2.2.1
  refine s_iconst 0 1 rfl rfl (by decide) ?_
  refine s_ist5 3 rfl rfl rfl ?_
  -- Silences_firstFor 3: end
  have loop : ∀ (d i : Nat) (z1 z2 : Value), z1.category = 1 → z2.category = 1 → i + d = sSi s → (∀ j, j < i → sl_b s l kd j = false) → ax_G g mt_Silences_firstFor (h + 1) 0 0 3 [.ref 22, .int (nI l), .int (sLf s l), .int kd, .int (nI (sBl s) - 1), .int (nI i), z1, z2] [] M Q := by
    intro d
    induction d with
    | zero =>
      intro i z1 z2 _ _ hi hb
      obtain rfl : i = sSi s := by omega
      rw [ff_no hb] at hq
      refine s_iload 5 rfl rfl rfl ?_
      refine s_aload_n 6 rfl rfl rfl ?_
      refine s_getfield 9 1 9 rfl rfl fl_Silences_25 hK.silences rfl ?_
      refine s_icmp_ge 80 12 rfl rfl (by decide) (fun c1 => ?_) (fun c1 => ?_)
      -- Silences_firstFor 12: branch 80 12
      · refine s_iconst (-1) 81 rfl rfl (by decide) ?_
        -- Silences_firstFor 81: ireturn
        exact s_ireturn rfl .int rfl rfl (hq)
      · exact absurd (nn_nle c1) (by omega)
    | succ d ih =>
      intro i z1 z2 hz1 hz2 hi hb
      have nx : ∀ (y1 y2 : Value), y1.category = 1 → y2.category = 1 → sl_b s l kd i = false → ax_G g mt_Silences_firstFor (h + 1) 0 0 3 [.ref 22, .int (nI l), .int (sLf s l), .int kd, .int (nI (sBl s) - 1), .int (nI (i + 1)), y1, y2] [] M Q := fun y1 y2 w1 w2 q => ih (i + 1) y1 y2 w1 w2 (by omega) (fun j hj => by
        rcases Nat.lt_or_ge j i with z | z
        · exact hb j z
        · obtain rfl : j = i := by omega
          exact q)
      obtain ⟨p, w, y_one, h_one⟩ := hK.slot i (by omega)
      have hwc := hK.whc i (by omega)
      refine s_iload 5 rfl rfl rfl ?_
      refine s_aload_n 6 rfl rfl rfl ?_
      refine s_getfield 9 1 9 rfl rfl fl_Silences_25 hK.silences rfl ?_
      refine s_icmp_ge 80 12 rfl rfl (by decide) (fun c2 => ?_) (fun c2 => ?_)
      -- Silences_firstFor 12: branch 80 12
      · exact absurd (nn_le c2) (by omega)
      · skip
        refine s_aload_n 13 rfl rfl rfl ?_
        refine s_getfield 9 0 16 rfl rfl fl_Silences_11 hK.silences rfl ?_
        refine s_iload 18 rfl rfl rfl ?_
        refine s_aaload 5 "AlarmGroups$Silence" (i) 19 rfl rfl rfl hK.slots rfl (by omega) (by decide) (y_one) ?_
        refine s_ast6 21 rfl rfl rfl ?_
        refine s_aload 23 rfl rfl rfl ?_
        refine s_getfield 8 1 26 rfl rfl fl_Silences_39 h_one rfl ?_
        refine s_iconst (-1) 27 rfl rfl (by decide) ?_
        refine s_icmp_eq 39 30 rfl rfl (by decide) (fun c3 => ?_) (fun c3 => ?_)
        -- Silences_firstFor 30: branch 39 30
        · have ck : decide (sKd s i = -1 ∨ sKd s i = kd) = true := decide_eq_true (Or.inl c3)
          refine s_iconst 1 40 rfl rfl (by decide) ?_
          refine s_goto 44 rfl (by decide) ?_
          refine s_ist7 46 rfl rfl rfl ?_
          refine s_iload 48 rfl rfl rfl ?_
          refine s_if_eq 74 51 rfl rfl (by decide) (fun c4 => ?_) (fun c4 => ?_)
          -- Silences_firstFor 51: branch 74 51
          · exact absurd c4 (by decide)
          · refine s_aload 53 rfl rfl rfl ?_
            refine s_iload 55 rfl rfl rfl ?_
            refine c_callV1 h 58 rfl rfl mv_Silences_42 (by omega) (Nat.le_of_ble_eq_true rfl) (Nat.le_of_ble_eq_true rfl) h_one rfl rfl ?_
            -- Silences_firstFor 58: call Silence_holds
            refine m_Silence_holds h_one ?_
            dsimp only [ax_rs]
            refine s_if_eq 74 61 rfl rfl (by decide) (fun c5 => ?_) (fun c5 => ?_)
            -- Silences_firstFor 61: branch 74 61
            · rw [bi_0] at c5
              refine s_inc5 _ 77 rfl rfl rfl rfl ?_
              refine s_goto 3 rfl (by decide) ?_
              -- Silences_firstFor 3: end
              rw [inc1]
              exact nx _ _ rfl rfl (by unfold sl_b; rw [decide_eq_false c5]; rfl)
            · rw [bi_0, Classical.not_not] at c5
              refine s_aload 63 rfl rfl rfl ?_
              refine s_iload_n 64 rfl rfl rfl ?_
              refine s_iload_n 65 rfl rfl rfl ?_
              refine c_callV2 h 68 rfl rfl mv_Silences_46 (by omega) (Nat.le_of_ble_eq_true rfl) (Nat.le_of_ble_eq_true rfl) h_one rfl rfl ?_
              -- Silences_firstFor 68: call Silence_hasLine
              refine m_Silence_hasLine h_one hwc hl ?_
              dsimp only [ax_rs]
              refine s_if_eq 74 71 rfl rfl (by decide) (fun c6 => ?_) (fun c6 => ?_)
              -- Silences_firstFor 71: branch 74 71
              · rw [bi_0] at c6
                refine s_inc5 _ 77 rfl rfl rfl rfl ?_
                refine s_goto 3 rfl (by decide) ?_
                -- Silences_firstFor 3: end
                rw [inc1]
                exact nx _ _ rfl rfl (by unfold sl_b; rw [Bool.eq_false_iff.mpr c6]; simp)
              · rw [bi_0, Classical.not_not] at c6
                refine s_iload 73 rfl rfl rfl ?_
                -- Silences_firstFor 73: ireturn
                rw [ff_at (by unfold sl_b; rw [decide_eq_true c5, c6, ck]; rfl) hb (by omega) (by omega)] at hq
                exact s_ireturn rfl .int rfl rfl (hq)
        · refine s_aload 32 rfl rfl rfl ?_
          refine s_getfield 8 1 35 rfl rfl fl_Silences_39 h_one rfl ?_
          refine s_iload_n 36 rfl rfl rfl ?_
          refine s_icmp_ne 43 39 rfl rfl (by decide) (fun c7 => ?_) (fun c7 => ?_)
          -- Silences_firstFor 39: branch 43 39
          · have ck : decide (sKd s i = -1 ∨ sKd s i = kd) = false := decide_eq_false (fun q => q.elim c3 c7)
            refine s_iconst 0 44 rfl rfl (by decide) ?_
            refine s_ist7 46 rfl rfl rfl ?_
            refine s_iload 48 rfl rfl rfl ?_
            refine s_if_eq 74 51 rfl rfl (by decide) (fun c8 => ?_) (fun c8 => ?_)
            -- Silences_firstFor 51: branch 74 51
            · refine s_inc5 _ 77 rfl rfl rfl rfl ?_
              refine s_goto 3 rfl (by decide) ?_
              -- Silences_firstFor 3: end
              rw [inc1]
              exact nx _ _ rfl rfl (by unfold sl_b; rw [ck]; simp)
            · exact absurd rfl c8
          · have ck : decide (sKd s i = -1 ∨ sKd s i = kd) = true := decide_eq_true (Or.inr c7)
            refine s_iconst 1 40 rfl rfl (by decide) ?_
            refine s_goto 44 rfl (by decide) ?_
            refine s_ist7 46 rfl rfl rfl ?_
            refine s_iload 48 rfl rfl rfl ?_
            refine s_if_eq 74 51 rfl rfl (by decide) (fun c9 => ?_) (fun c9 => ?_)
            -- Silences_firstFor 51: branch 74 51
            · exact absurd c9 (by decide)
            · refine s_aload 53 rfl rfl rfl ?_
              refine s_iload 55 rfl rfl rfl ?_
              refine c_callV1 h 58 rfl rfl mv_Silences_42 (by omega) (Nat.le_of_ble_eq_true rfl) (Nat.le_of_ble_eq_true rfl) h_one rfl rfl ?_
              -- Silences_firstFor 58: call Silence_holds
              refine m_Silence_holds h_one ?_
              dsimp only [ax_rs]
              refine s_if_eq 74 61 rfl rfl (by decide) (fun c10 => ?_) (fun c10 => ?_)
              -- Silences_firstFor 61: branch 74 61
              · rw [bi_0] at c10
                refine s_inc5 _ 77 rfl rfl rfl rfl ?_
                refine s_goto 3 rfl (by decide) ?_
                -- Silences_firstFor 3: end
                rw [inc1]
                exact nx _ _ rfl rfl (by unfold sl_b; rw [decide_eq_false c10]; rfl)
              · rw [bi_0, Classical.not_not] at c10
                refine s_aload 63 rfl rfl rfl ?_
                refine s_iload_n 64 rfl rfl rfl ?_
                refine s_iload_n 65 rfl rfl rfl ?_
                refine c_callV2 h 68 rfl rfl mv_Silences_46 (by omega) (Nat.le_of_ble_eq_true rfl) (Nat.le_of_ble_eq_true rfl) h_one rfl rfl ?_
                -- Silences_firstFor 68: call Silence_hasLine
                refine m_Silence_hasLine h_one hwc hl ?_
                dsimp only [ax_rs]
                refine s_if_eq 74 71 rfl rfl (by decide) (fun c11 => ?_) (fun c11 => ?_)
                -- Silences_firstFor 71: branch 74 71
                · rw [bi_0] at c11
                  refine s_inc5 _ 77 rfl rfl rfl rfl ?_
                  refine s_goto 3 rfl (by decide) ?_
                  -- Silences_firstFor 3: end
                  rw [inc1]
                  exact nx _ _ rfl rfl (by unfold sl_b; rw [Bool.eq_false_iff.mpr c11]; simp)
                · rw [bi_0, Classical.not_not] at c11
                  refine s_iload 73 rfl rfl rfl ?_
                  -- Silences_firstFor 73: ireturn
                  rw [ff_at (by unfold sl_b; rw [decide_eq_true c10, c11, ck]; rfl) hb (by omega) (by omega)] at hq
                  exact s_ireturn rfl .int rfl rfl (hq)
  exact loop (sSi s) 0 _ _ rfl rfl (by omega) (fun j hj => by omega)
theorem m_Top_silencerOf {a : Nat} (hK : KC M s dw nw gc pa sl) (ha : a < sAl s) (hq : Q (some (.int (sv_ s a))) M) : ax_G g mt_Top_silencerOf (h + 2) 0 0 0 [.ref 0, .int (nI a), .float 0] [] M Q := by
  obtain ⟨b1, b2, b3, b4, b5⟩ := hK.bd
  unfold sv_ at hq
  refine s_aload_n 1 rfl rfl rfl ?_
  refine s_getfield 11 3 4 rfl rfl fl_Top_31 hK.top rfl ?_
  refine s_getfield 0 5 7 rfl rfl fl_Top_162 hK.alarms rfl ?_
  refine s_iload_n 8 rfl rfl rfl ?_
  refine s_iaload (a) 9 rfl rfl hK.state rfl (by omega) (by decide) ?_
  refine s_if_eq 14 12 rfl rfl (by decide) (fun c1 => ?_) (fun c1 => ?_)
  -- Top_silencerOf 12: branch 14 12
  · rw [if_pos c1] at hq
    obtain ⟨c, hc, e⟩ := hK.told a ha c1
    rw [e, nI_clamp (by omega)] at hq
    refine s_aload_n 15 rfl rfl rfl ?_
    refine s_getfield 11 3 18 rfl rfl fl_Top_31 hK.top rfl ?_
    refine s_getfield 0 0 21 rfl rfl fl_Top_153 hK.alarms rfl ?_
    refine s_iload_n 22 rfl rfl rfl ?_
    refine s_iaload (a) 23 rfl rfl hK.line rfl (by omega) (by decide) ?_
    refine s_ist2 24 rfl rfl rfl ?_
    -- Top_silencerOf 24: end
    rw [e]
    refine s_aload_n 25 rfl rfl rfl ?_
    refine s_getfield 11 5 28 rfl rfl fl_Top_45 hK.top rfl ?_
    refine s_iload_n 29 rfl rfl rfl ?_
    refine s_aload_n 30 rfl rfl rfl ?_
    refine s_getfield 11 13 33 rfl rfl fl_Top_87 hK.top rfl ?_
    refine s_iload_n 34 rfl rfl rfl ?_
    refine c_callV1 (h+1) 37 rfl rfl mv_Top_176 (by omega) (Nat.le_of_ble_eq_true rfl) (Nat.le_of_ble_eq_true rfl) hK.now rfl rfl ?_
    -- Top_silencerOf 37: call Lines_fileOf
    refine m_Lines_fileOf hK.now hK.file b4 ?_
    dsimp only [ax_rs]
    rw [if_pos ⟨nI_pos (by omega), nI_ge hc (by omega)⟩, nI_clamp (by omega)]
    refine s_aload_n 38 rfl rfl rfl ?_
    refine s_getfield 11 3 41 rfl rfl fl_Top_31 hK.top rfl ?_
    refine s_getfield 0 1 44 rfl rfl fl_Top_156 hK.alarms rfl ?_
    refine s_iload_n 45 rfl rfl rfl ?_
    refine s_iaload (a) 46 rfl rfl hK.kind rfl (by omega) (by decide) ?_
    refine s_aload_n 47 rfl rfl rfl ?_
    refine s_getfield 11 14 50 rfl rfl fl_Top_114 hK.top rfl ?_
    refine s_iconst 1 51 rfl rfl (by decide) ?_
    refine s_isub 52 rfl rfl ?_
    refine c_callV4 (h+1) 55 rfl rfl mv_Top_330 (by omega) (Nat.le_of_ble_eq_true rfl) (Nat.le_of_ble_eq_true rfl) hK.silences rfl rfl ?_
    -- Top_silencerOf 55: call Silences_firstFor
    refine m_Silences_firstFor hK (by omega) ?_
    dsimp only [ax_rs]
    exact s_ireturn rfl .int rfl rfl (hq)
  · rw [if_neg c1] at hq
    refine s_iconst (-1) 13 rfl rfl (by decide) ?_
    -- Top_silencerOf 13: ireturn
    exact s_ireturn rfl .int rfl rfl (hq)
theorem m_Top_belongs {a w : Nat} (hK : KC M s dw nw gc pa sl) (ha : a < sAl s) (hst : sSt s a = 0) (hw : w < 4) (hq : Q (some (.int (bi (be_ s w a = true)))) M) : ax_G g mt_Top_belongs (h + 3) 0 0 0 [.ref 0, .int (nI a), .int (nI w), .int (sKn s)] [] M Q := by
  obtain ⟨b1, b2, b3, b4, b5⟩ := hK.bd
  unfold be_ at hq
  rw [decide_eq_true hst, Bool.true_and] at hq
  refine s_iload_n 1 rfl rfl rfl ?_
  -- Top_belongs 1: end
  rcases (by omega : w = 0 ∨ w = 1 ∨ w = 2 ∨ w = 3) with rfl | rfl | rfl | rfl
  · refine s_tabIn 28 rfl (by decide) (by decide) rfl (by decide) ?_
    -- to 28
    refine s_iconst 1 29 rfl rfl (by decide) ?_
    -- Top_belongs 29: ireturn
    exact s_ireturn rfl .boolean rfl rfl (hq)
  · refine s_tabIn 30 rfl (by decide) (by decide) rfl (by decide) ?_
    -- to 30
    refine s_aload_n 31 rfl rfl rfl ?_
    refine s_getfield 11 3 34 rfl rfl fl_Top_31 hK.top rfl ?_
    refine s_iload_n 35 rfl rfl rfl ?_
    refine s_iload_n 36 rfl rfl rfl ?_
    refine c_callV2 (h+2) 39 rfl rfl mv_Top_169 (by omega) (Nat.le_of_ble_eq_true rfl) (Nat.le_of_ble_eq_true rfl) hK.alarms rfl rfl ?_
    -- Top_belongs 39: call Alarms_isClosed
    refine m_Alarms_isClosed hK.alarms hK.wants (by omega) ?_
    dsimp only [ax_rs]
    exact s_ireturn rfl .boolean rfl  (bi_n _) (hq )
  · refine s_tabIn 40 rfl (by decide) (by decide) rfl (by decide) ?_
    -- to 40
    refine s_aload_n 41 rfl rfl rfl ?_
    refine s_iload_n 42 rfl rfl rfl ?_
    refine c_callV1 (h+2) 45 rfl rfl mv_Top_173 (by omega) (Nat.le_of_ble_eq_true rfl) (Nat.le_of_ble_eq_true rfl) hK.top rfl rfl ?_
    -- Top_belongs 45: call Top_silencerOf
    refine m_Top_silencerOf (h := h) hK ha ?_
    dsimp only [ax_rs]
    refine s_iconst (-1) 46 rfl rfl (by decide) ?_
    refine s_icmp_eq 53 49 rfl rfl (by decide) (fun c1 => ?_) (fun c1 => ?_)
    -- Top_belongs 49: branch 53 49
    · rw [bi_f (by simp [c1])] at hq
      refine s_iconst 0 54 rfl rfl (by decide) ?_
      -- Top_belongs 54: ireturn
      exact s_ireturn rfl .boolean rfl rfl (hq)
    · rw [bi_t (by simp [c1])] at hq
      refine s_iconst 1 50 rfl rfl (by decide) ?_
      refine s_goto 54 rfl (by decide) ?_
      -- Top_belongs 54: ireturn
      exact s_ireturn rfl .boolean rfl rfl (hq)
  · refine s_tabOut 55 rfl (Or.inr (by decide)) (by decide) ?_
    -- to 55
    refine s_aload_n 56 rfl rfl rfl ?_
    refine s_getfield 11 3 59 rfl rfl fl_Top_31 hK.top rfl ?_
    refine s_iload_n 60 rfl rfl rfl ?_
    refine s_iload_n 61 rfl rfl rfl ?_
    refine c_callV2 (h+2) 64 rfl rfl mv_Top_169 (by omega) (Nat.le_of_ble_eq_true rfl) (Nat.le_of_ble_eq_true rfl) hK.alarms rfl rfl ?_
    -- Top_belongs 64: call Alarms_isClosed
    refine m_Alarms_isClosed hK.alarms hK.wants (by omega) ?_
    dsimp only [ax_rs]
    refine s_if_ne 80 67 rfl rfl (by decide) (fun c2 => ?_) (fun c2 => ?_)
    -- Top_belongs 67: branch 80 67
    · rw [bi_0, Classical.not_not] at c2
      rw [bi_f (by simp [c2])] at hq
      refine s_iconst 0 81 rfl rfl (by decide) ?_
      -- Top_belongs 81: ireturn
      exact s_ireturn rfl .boolean rfl rfl (hq)
    · rw [bi_0] at c2
      refine s_aload_n 68 rfl rfl rfl ?_
      refine s_iload_n 69 rfl rfl rfl ?_
      refine c_callV1 (h+2) 72 rfl rfl mv_Top_173 (by omega) (Nat.le_of_ble_eq_true rfl) (Nat.le_of_ble_eq_true rfl) hK.top rfl rfl ?_
      -- Top_belongs 72: call Top_silencerOf
      refine m_Top_silencerOf (h := h) hK ha ?_
      dsimp only [ax_rs]
      refine s_iconst (-1) 73 rfl rfl (by decide) ?_
      refine s_icmp_ne 80 76 rfl rfl (by decide) (fun c3 => ?_) (fun c3 => ?_)
      -- Top_belongs 76: branch 80 76
      · rw [bi_f (by simp [c3])] at hq
        refine s_iconst 0 81 rfl rfl (by decide) ?_
        -- Top_belongs 81: ireturn
        exact s_ireturn rfl .boolean rfl rfl (hq)
      · rw [bi_t (by simp [c2, c3])] at hq
        refine s_iconst 1 77 rfl rfl (by decide) ?_
        refine s_goto 81 rfl (by decide) ?_
        -- Top_belongs 81: ireturn
        exact s_ireturn rfl .boolean rfl rfl (hq)
theorem m_Top_setNow {w : Nat} (hK : KC M s dw nw gc pa sl) (hw : w < 4) (hq : Q (some (.long (lset (be_ s w) (sAl s)))) M) : ax_G g mt_Top_setNow (h + 4) 0 0 0 [.ref 0, .int (nI w), .float 0, .float 0, .float 0, .float 0] [] M Q := by
  obtain ⟨b1, b2, b3, b4, b5⟩ := hK.bd
  refine s_aload_n 1 rfl rfl rfl ?_
  refine s_getfield 11 4 4 rfl rfl fl_Top_38 hK.top rfl ?_
  refine s_iconst 0 5 rfl rfl (by decide) ?_
  refine c_callV1 (h+3) 8 rfl rfl mv_Top_165 (by omega) (Nat.le_of_ble_eq_true rfl) (Nat.le_of_ble_eq_true rfl) hK.facts rfl rfl ?_
  -- Top_setNow 8: call Facts_knownWith
  refine m_Facts_knownWith (h := h + 2) hK.facts hK.ruleSet hK.ruleHead b2 ?_
  dsimp only [ax_rs]
  rw [or0, hK.kn]
  refine s_ist2 9 rfl rfl rfl ?_
  refine s_lconst 0 10 rfl rfl (by decide) ?_
  refine s_lst3 11 rfl rfl rfl ?_
  refine s_iconst 0 12 rfl rfl (by decide) ?_
  refine s_ist5 14 rfl rfl rfl ?_
  -- Top_setNow 14: end
  have loop : ∀ (d i : Nat), i + d = sAl s → ax_G g mt_Top_setNow (h + 4) 0 0 14 [.ref 0, .int (nI w), .int (sKn s), .long (lset (be_ s w) i), .float 0, .int (nI i)] [] M Q := by
    intro d
    induction d with
    | zero =>
      intro i hi
      obtain rfl : i = sAl s := by omega
      refine s_iload 16 rfl rfl rfl ?_
      refine s_aload_n 17 rfl rfl rfl ?_
      refine s_getfield 11 3 20 rfl rfl fl_Top_31 hK.top rfl ?_
      refine s_getfield 0 6 23 rfl rfl fl_Top_145 hK.alarms rfl ?_
      refine s_icmp_ge 63 26 rfl rfl (by decide) (fun c1 => ?_) (fun c1 => ?_)
      -- Top_setNow 26: branch 63 26
      · refine s_lload_n 64 rfl rfl rfl ?_
        -- Top_setNow 64: lreturn
        exact s_lreturn rfl rfl (hq)
      · exact absurd (nn_nle c1) (by omega)
    | succ d ih =>
      intro i hi
      have nx := ih (i + 1) (by omega)
      rw [lset] at nx
      refine s_iload 16 rfl rfl rfl ?_
      refine s_aload_n 17 rfl rfl rfl ?_
      refine s_getfield 11 3 20 rfl rfl fl_Top_31 hK.top rfl ?_
      refine s_getfield 0 6 23 rfl rfl fl_Top_145 hK.alarms rfl ?_
      refine s_icmp_ge 63 26 rfl rfl (by decide) (fun c2 => ?_) (fun c2 => ?_)
      -- Top_setNow 26: branch 63 26
      · exact absurd (nn_le c2) (by omega)
      · refine s_aload_n 27 rfl rfl rfl ?_
        refine s_getfield 11 3 30 rfl rfl fl_Top_31 hK.top rfl ?_
        refine s_getfield 0 5 33 rfl rfl fl_Top_162 hK.alarms rfl ?_
        refine s_iload 35 rfl rfl rfl ?_
        refine s_iaload (i) 36 rfl rfl hK.state rfl (by omega) (by decide) ?_
        refine s_if_ne 57 39 rfl rfl (by decide) (fun c3 => ?_) (fun c3 => ?_)
        -- Top_setNow 39: branch 57 39
        · rw [if_neg (by unfold be_; simp [c3])] at nx
          refine s_inc5 _ 60 rfl rfl rfl rfl ?_
          refine s_goto 14 rfl (by decide) ?_
          -- Top_setNow 14: end
          rw [inc1]
          exact nx
        · refine s_aload_n 40 rfl rfl rfl ?_
          refine s_iload 42 rfl rfl rfl ?_
          refine s_iload_n 43 rfl rfl rfl ?_
          refine s_iload_n 44 rfl rfl rfl ?_
          refine c_callV3 (h+3) 47 rfl rfl mv_Top_334 (by omega) (Nat.le_of_ble_eq_true rfl) (Nat.le_of_ble_eq_true rfl) hK.top rfl rfl ?_
          -- Top_setNow 47: call Top_belongs
          refine m_Top_belongs (h := h) hK (by omega) c3 hw ?_
          dsimp only [ax_rs]
          refine s_if_eq 57 50 rfl rfl (by decide) (fun c4 => ?_) (fun c4 => ?_)
          -- Top_setNow 50: branch 57 50
          · rw [bi_0] at c4
            rw [if_neg c4] at nx
            refine s_inc5 _ 60 rfl rfl rfl rfl ?_
            refine s_goto 14 rfl (by decide) ?_
            -- Top_setNow 14: end
            rw [inc1]
            exact nx
          · rw [bi_0, Classical.not_not] at c4
            rw [if_pos c4] at nx
            refine s_lload_n 51 rfl rfl rfl ?_
            refine s_lconst 1 52 rfl rfl (by decide) ?_
            refine s_iload 54 rfl rfl rfl ?_
            refine s_lshl 55 rfl rfl ?_
            refine s_lor 56 rfl rfl ?_
            refine s_lst3 57 rfl rfl rfl ?_
            refine s_inc5 _ 60 rfl rfl rfl rfl ?_
            refine s_goto 14 rfl (by decide) ?_
            -- Top_setNow 14: end
            rw [inc1]
            exact nx
  exact loop (sAl s) 0 (by omega)
end KCS
