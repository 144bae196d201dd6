/-! The relation between the class's cells and the reference's. -/
def cnt (p : Nat → Bool) : Nat → Nat
  | 0 => 0
  | n + 1 => cnt p n + (if p n then 1 else 0)
/-- draft, now, builds, patterns -/
abbrev tp_f (dw nw : Nat) (bl pa : Int32) : List Value := [.ref 1, .ref 3, .ref 5, .ref 9, .ref 16, .ref 22, .ref 69, .ref 73, .ref 75, .ref 76, .ref 77, .ref 78, .ref dw, .ref nw, .int bl, .int pa]
/-- size builds lines drafted alarms rules proved silences patterns chosenMany outSize; scratch: groupMany token place behind value isWrong ordered -/
abbrev md_f (n bl ln dr al ru pv si pa cm os : Int32) (gm tk pl bh : Int32) (va : Int64) (iw od : Int32) : List Value := [.ref 144, .int n, .int bl, .int ln, .ref 145, .ref 146, .ref 147, .int dr, .ref 148, .ref 149, .ref 150, .ref 151, .ref 152, .ref 153, .ref 154, .int al, .ref 155, .ref 156, .ref 157, .ref 158, .ref 159, .ref 160, .ref 161, .int ru, .ref 162, .ref 163, .int pv, .ref 164, .ref 165, .int gm, .int si, .ref 166, .ref 167, .ref 168, .ref 169, .ref 170, .ref 171, .ref 172, .int tk, .int pl, .int bh, .long va, .int iw, .ref 173, .ref 174, .int pa, .ref 175, .ref 176, .ref 177, .ref 178, .ref 179, .int od, .ref 180, .int cm, .ref 181, .ref 182, .int os, .ref 183]
abbrev bA (M : ax_M) (a N : Nat) (f : Nat → Int32) : Prop := M.2 a = some (.inl (1, N, .inl f))
abbrev bP (M : ax_M) (a N : Nat) (f : Nat → Int32) : ax_M := ax_put M a (.inl (1, N, .inl f))
abbrev zA (M : ax_M) (a N : Nat) (f : Nat → Int32) : Prop := M.2 a = some (.inl (2, N, .inl f))
/-- two rows of bytes are the same -/
def by_ (n : Nat) (f1 f2 : Nat → Int32) : Prop := ∀ j, j < n → f1 j &&& 255 = f2 j ∧ ∃ c, c < 256 ∧ f2 j = nI c
def R_text (M : ax_M) (n : Nat) : Prop := ∃ f1 f2 : Nat → Int32, oC M 1 7 [.ref 2, .int (nI n)] ∧ bA M 2 160 f1 ∧ iA M 144 160 f2 ∧ n ≤ 160 ∧ by_ n f1 f2
def R_out (M : ax_M) (os : Nat) : Prop := ∃ f1 f2 : Nat → Int32, oC M 3 7 [.ref 4, .int (nI os)] ∧ bA M 4 800 f1 ∧ iA M 182 800 f2 ∧ os ≤ 800 ∧ by_ os f1 f2
/-- the rows of the lines of now and of the draft -/
def R_lines (M : ax_M) (ln dr dw nw : Nat) : Prop := ((dw = 79 ∧ nw = 83) ∨ (dw = 83 ∧ nw = 79)) ∧ ∃ nf nm nb df dm db mf mm mp gf gm : Nat → Int32,
  oC M nw 2 [.ref (nw + 1), .ref (nw + 2), .ref (nw + 3), .int (nI ln)] ∧ iA M (nw + 1) 40 nf ∧ iA M (nw + 2) 40 nm ∧ iA M (nw + 3) 40 nb ∧ oC M dw 2 [.ref (dw + 1), .ref (dw + 2), .ref (dw + 3), .int (nI dr)] ∧ iA M (dw + 1) 40 df ∧ iA M (dw + 2) 40 dm ∧ iA M (dw + 3) 40 db ∧
  iA M 145 40 mf ∧ iA M 146 40 mm ∧ iA M 147 40 mp ∧ iA M 148 40 gf ∧ iA M 149 40 gm ∧ ln ≤ 40 ∧ dr ≤ 40 ∧
  (∀ j, j < ln → nf j = mf j ∧ nm j = mm j ∧ nb j = mp j ∧ (∃ c, c < 6 ∧ mf j = nI c) ∧ (mp j = -1 ∨ ∃ k, k < 40 ∧ mp j = nI k)) ∧ (∀ j, j < dr → df j = gf j ∧ dm j = gm j ∧ db j = -1 ∧ ∃ c, c < 6 ∧ gf j = nI c)
def R_alarms (M : ax_M) (bl ln al : Nat) : Prop := ∃ (li ki wa pp qq st : Nat → Int32) (l2 k2 w2 p2 q2 s2 ob tr : Nat → Int32) (pa : Nat → Int64),
  oC M 9 0 (al_f al) ∧ iA M 10 50 li ∧ iA M 11 50 ki ∧ iA M 12 50 wa ∧ iA M 13 50 pp ∧ iA M 14 50 qq ∧ iA M 15 50 st ∧ lA M 78 48 pa ∧
  iA M 155 50 l2 ∧ iA M 156 50 k2 ∧ iA M 157 50 w2 ∧ iA M 158 50 p2 ∧ iA M 159 50 q2 ∧ iA M 160 50 s2 ∧ iA M 161 50 ob ∧ iA M 154 48 tr ∧ al ≤ 50 ∧ bl ≤ 12 ∧
  (∀ a, a < al → (l2 a = li a ∧ k2 a = ki a ∧ w2 a = wa a ∧ p2 a = pp a ∧ q2 a = qq a ∧ s2 a = st a) ∧ (st a = 0 ∨ st a = 1 ∨ st a = 2) ∧ (st a = 2 → li a = -1) ∧ (st a ≠ 2 → ∃ c, c < ln ∧ li a = nI c) ∧ (∃ c, c < 10 ∧ ki a = nI c) ∧ (∃ c, c < 65536 ∧ wa a = nI c) ∧ (∃ c d, c ≤ d ∧ 1 ≤ d ∧ d ≤ 1000 ∧ pp a = nI c ∧ qq a = nI d) ∧ ∀ b, bl ≤ b + 1 → b < 32 → bt (ob a) b = false) ∧
  (∀ a b, a < al → b < al → st a ≠ 2 → st b ≠ 2 → li a = li b → ki a = ki b → a = b) ∧
  (∀ b, b + 1 < bl → (∀ a, a < 64 → lb (pa (4 * b)) a = (decide (a < al) && bt (ob a) b)) ∧ ∀ w, w < 4 → tr (4 * b + w) = nI (cnt (lb (pa (4 * b + w))) 64))
def R_facts (M : ax_M) (ru : Nat) (pv : Int32) : Prop := ∃ (gc : Int32) (rs rh s2 h2 gf : Nat → Int32) (gs ts : Nat → Int64), oC M 16 1 (fa_f gc (nI ru) pv) ∧ iA M 17 17 gf ∧ lA M 18 17 gs ∧ iA M 19 20 rs ∧ iA M 20 20 rh ∧ lA M 21 16 ts ∧ iA M 162 20 s2 ∧ iA M 163 20 h2 ∧ ru ≤ 20 ∧ (∃ c, c < 65536 ∧ pv = nI c) ∧
  ∀ i, i < ru → s2 i = rs i ∧ (∃ c, c < 65536 ∧ rs i = nI c) ∧ ∃ f, f < 16 ∧ h2 i = nI f ∧ rh i = (1 : Int32) <<< (nI f &&& 31)
/-- one silence of the class, at cell 30 + 3 p -/
def sl_ (M : ax_M) (p : Nat) (un kd fo fi : Int32) (ls : Int64) (r : Nat) (f : Nat → Int32) : Prop := oC M (30 + 3 * p) 8 [.int un, .int kd, .int fo, .int fi, .long ls, .ref (31 + 3 * p)] ∧ oC M (31 + 3 * p) 7 [.ref (32 + 3 * p), .int (nI r)] ∧ bA M (32 + 3 * p) 20 f ∧ r ≤ 20
def R_sil (M : ax_M) (ln si : Nat) : Prop := ∃ (sl : Nat → Option Nat) (pm : Nat → Nat) (un kd wh fi rz rb : Nat → Int32) (ls : Nat → Int64), oC M 22 9 [.ref 23, .int (nI si), .ref 24] ∧ M.2 23 = some (.inl (5, 13, .inr (.inr (.inr (.inr sl))))) ∧ (∀ k, k < 13 → pm k < 13 ∧ sl k = some (30 + 3 * pm k)) ∧ (∀ j k, j < 13 → k < 13 → pm j = pm k → j = k) ∧
  iA M 166 26 un ∧ iA M 167 26 kd ∧ iA M 168 26 wh ∧ iA M 169 26 fi ∧ lA M 170 26 ls ∧ iA M 171 26 rz ∧ iA M 172 520 rb ∧ si ≤ 12 ∧
  (∀ k, k < 13 → ∃ a b c d e r f, sl_ M (pm k) a b c d e r f ∧ (k < si → un k = a ∧ kd k = b ∧ wh k = c ∧ fi k = d ∧ ls k = e ∧ rz k = nI r ∧ (c = 0 ∨ c = 1 ∨ c = 2) ∧ ∀ j, j < r → f j &&& 255 = rb (20 * k + j)))
/-- a path or a pattern of the class at cell b: n bytes f, and where its parts begin -/
def pt_ (M : ax_M) (b n : Nat) (f : Nat → Int32) (k : Nat) (s : Nat → Int32) : Prop := oC M b 5 [.ref (b + 1), .ref (b + 3), .int (nI k)] ∧ oC M (b + 1) 7 [.ref (b + 2), .int (nI n)] ∧ bA M (b + 2) 24 f ∧ iA M (b + 3) 25 s ∧ n ≤ 24
/-- s tells the k places below n at which a part begins -/
def ps_ (n : Nat) (f : Nat → Int32) (k : Nat) (s : Nat → Int32) : Prop := ∃ z : Nat → Nat, (∀ i, i < k → s i = nI (z i) ∧ z i < n) ∧ (∀ i j, i < j → j < k → z i < z j) ∧ ∀ j, j < n → ((j = 0 ∨ f (j - 1) &&& 255 = 47) ↔ ∃ i, i < k ∧ z i = j)
/-- its end is no slash, and two stars at the beginning of a part are the part -/
def vp_ (n : Nat) (f : Nat → Int32) : Prop := (n = 0 ∨ f (n - 1) &&& 255 ≠ 47) ∧ ∀ i, (i = 0 ∨ f (i - 1) &&& 255 = 47) → i + 1 < n → f i &&& 255 = 42 → f (i + 1) &&& 255 = 42 → i + 2 = n ∨ f (i + 2) &&& 255 = 47
def R_own (M : ax_M) (pa : Nat) : Prop := (∃ h : Nat → Option Nat, M.2 75 = some (.inl (4, 6, .inr (.inr (.inr (.inr h))))) ∧ ∀ i, i < 6 → h i = some (87 + 4 * i)) ∧ (∃ h : Nat → Option Nat, M.2 76 = some (.inl (4, 8, .inr (.inr (.inr (.inr h))))) ∧ ∀ i, i < 8 → h i = some (111 + 4 * i)) ∧
  ∃ po p2 pz pt tz : Nat → Int32, ∃ o2 : Nat → Int32, iA M 77 8 po ∧ iA M 173 144 p2 ∧ iA M 174 6 pz ∧ iA M 175 192 pt ∧ iA M 176 8 tz ∧ iA M 177 8 o2 ∧ pa ≤ 8 ∧
  (∀ i, i < 6 → ∃ n f k s, pt_ M (87 + 4 * i) n f k s ∧ (ps_ n f k s ∧ vp_ n f) ∧ pz i = nI n ∧ by_ n f (fun j => p2 (24 * i + j))) ∧
  (∀ i, i < 8 → ∃ n f k s, pt_ M (111 + 4 * i) n f k s ∧ (i < pa → (ps_ n f k s ∧ vp_ n f) ∧ 1 ≤ n ∧ tz i = nI n ∧ by_ n f (fun j => pt (24 * i + j)) ∧ po i = o2 i ∧ ∃ c, c < 10 ∧ o2 i = nI c))
def R_cho (M : ax_M) (cm : Nat) : Prop := ∃ (sz : Int32) (rw cr pf c2 : Nat → Int32), oC M 69 6 [.ref 70, .ref 71, .int sz, .int (nI cm), .ref 72] ∧ iA M 70 50 rw ∧ iA M 71 50 cr ∧ iA M 72 6 pf ∧ iA M 180 50 c2 ∧ cm ≤ 50 ∧ ∀ j, j < cm → cr j = c2 j
def sI (M : ax_M) (a N : Nat) : Prop := ∃ f, iA M a N f
/-- cells that hold nothing from call to call -/
def R_scr (M : ax_M) : Prop := (∃ o n : Int32, oC M 5 4 [.ref 6, .ref 7, .ref 8, .int o, .int n]) ∧ sI M 6 40 ∧ sI M 7 40 ∧ sI M 8 1681 ∧ (∃ z x : Int32, oC M 24 10 [.ref 25, .ref 27, .ref 28, .ref 29, .int z, .int x]) ∧ (∃ r, r ≤ 160 ∧ oC M 25 7 [.ref 26, .int (nI r)]) ∧ (∃ f, bA M 26 160 f) ∧ sI M 27 161 ∧ sI M 28 161 ∧ sI M 29 161 ∧ (∃ z : Int32, oC M 73 3 [.ref 74, .int z]) ∧ sI M 74 4 ∧
  sI M 150 40 ∧ sI M 151 40 ∧ sI M 152 40 ∧ sI M 153 1681 ∧ sI M 164 50 ∧ sI M 165 18 ∧ (∃ f, zA M 178 676 f) ∧ sI M 179 50 ∧ sI M 181 6 ∧ sI M 183 4
def Rel (_ : ax_Y) (M : ax_M) : Prop := ∃ (n bl ln dr al ru si pa cm os dw nw : Nat) (pv gm tk pl bh : Int32) (va : Int64) (iw od : Int32), oC M 0 11 (tp_f dw nw (nI bl) (nI pa)) ∧ oC M 143 12 (md_f (nI n) (nI bl) (nI ln) (nI dr) (nI al) (nI ru) pv (nI si) (nI pa) (nI cm) (nI os) gm tk pl bh va iw od) ∧
  R_text M n ∧ R_lines M ln dr dw nw ∧ R_alarms M bl ln al ∧ R_facts M ru pv ∧ R_sil M ln si ∧ R_own M pa ∧ R_out M os ∧ R_cho M cm ∧ R_scr M ∧ (bl = 0 → ln = 0)
theorem Rel_0 {g : ax_Y} {M : ax_M} (h : Rel g M) : ∃ fs, M.2 0 = some (.inr (11, fs)) := by
  obtain ⟨n, bl, ln, dr, al, ru, si, pa, cm, os, dw, nw, pv, gm, tk, pl, bh, va, iw, od, h0, -⟩ := h
  exact ⟨_, h0⟩
