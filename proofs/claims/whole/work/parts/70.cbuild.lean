/-! build: the class, and both -/
section CBD
variable {g : ax_Y} {M : ax_M} {Q : Option Value → ax_M → Prop} {h : Nat} {s : Sta} {dw nw : Nat} {gc pa : Int32} {sl : Nat → Option Nat}
theorem c_build {pt : Nat → Int64} {nf nm df dm db e6 e7 e8 : Nat → Int32} {o0 n0 : Int32} {fo fn : Nat → Nat} {drn : Nat} {pm : Nat → Nat} (hK : KC M s dw nw gc pa sl) (hd : (dw = 79 ∧ nw = 83) ∨ (dw = 83 ∧ nw = 79)) (h_past : lA M 78 48 pt) (h5 : oC M 5 4 [.ref 6, .ref 7, .ref 8, .int o0, .int n0]) (h6 : iA M 6 40 e6) (h7 : iA M 7 40 e7) (h8 : iA M 8 1681 e8) (n1 : iA M (nw + 1) 40 nf) (n2 : iA M (nw + 2) 40 nm) (d0 : oC M dw 2 (li_f dw drn)) (d1 : iA M (dw + 1) 40 df) (d2 : iA M (dw + 2) 40 dm) (d3 : iA M (dw + 3) 40 db) (hdr : drn ≤ 40) (hdb : ∀ j, j < drn → db j = -1) (ho : ∀ i, i < sLn s → nf i = nI (fo i) ∧ fo i < 6) (hn : ∀ j, j < drn → df j = nI (fn j) ∧ fn j < 6) (hs1 : ∀ k, k < 13 → pm k < 13 ∧ sl k = some (30 + 3 * pm k)) (hs2 : ∀ j k, j < 13 → k < 13 → pm j = pm k → j = k) (hs3 : ∀ k, k < 13 → ∃ a b c d e r f, sl_ M (pm k) a b c d e r f) (hroom : sBl s = 12 → Q (some (.int (-4))) M) (hq : sBl s ≠ 12 → ∀ (N : ax_M) (o1 n1 : Int32) (x6 x7 x8 be l2 s2 : Nat → Int32), fr_ M N (fun k => k = 0 ∨ (5 ≤ k ∧ k ≤ 8) ∨ k = 10 ∨ k = 15 ∨ (30 ≤ k ∧ k ≤ 68 ∧ k % 3 = 0) ∨ k = 78 ∨ k = dw + 3 ∨ k = nw) → oC N 0 11 (tp_f nw dw (nI (sBl s + 1)) pa) → oC N 5 4 [.ref 6, .ref 7, .ref 8, .int o1, .int n1] → iA N 6 40 x6 → iA N 7 40 x7 → iA N 8 1681 x8 → lA N 78 48 (if sBl s = 0 then pt else kt_ s (sBl s - 1) pt 4) → oC N nw 2 (li_f nw 0) → iA N (dw + 3) 40 be → rp_ be (mt_ fo fn (fun i j => decide (nm i = dm j)) (sLn s) drn 6).1 drn → iA N 10 50 l2 → iA N 15 50 s2 → (∀ a, a < sAl s → l2 a = cl_ (sSt s) (sLi s) (mt_ fo fn (fun i j => decide (nm i = dm j)) (sLn s) drn 6).2 a ∧ s2 a = if cl_ (sSt s) (sLi s) (mt_ fo fn (fun i j => decide (nm i = dm j)) (sLn s) drn 6).2 a = -1 then 2 else 1) → (∀ k, k < 13 → ∀ a b c d e r f, sl_ M (pm k) a b c d e r f → sl_ N (pm k) a b c d (if k < sSi s then ls_ be drn e else e) r f) → Q (some (.int (nI (sBl s)))) N) : ax_G g mt_Top_build (h + 6) 0 0 0 [.ref 0, .float 0] [] M Q := by
  obtain ⟨b1, b2, b3, b4, b5⟩ := hK.bd
  obtain ⟨hJ, -, -⟩ := mt_J fo fn (fun i j => decide (nm i = dm j)) (sLn s) drn 6
  refine s_aload_n 1 rfl rfl rfl ?_
  refine s_getfield 11 14 4 rfl rfl fl_Top_114 hK.top rfl ?_
  refine s_bipush 12 6 rfl rfl (by decide) ?_
  refine s_icmp_lt 12 9 rfl rfl (by decide) (fun c1 => ?_) (fun c1 => ?_)
  -- Top_build 9: branch 12 9
  · have lt12 := nn_lt (b := 12) c1
    have hq := hq (by omega)
    have main : ∀ p1 : Nat → Int64, p1 = (if sBl s = 0 then pt else kt_ s (sBl s - 1) pt 4) → ax_G g mt_Top_build (h + 6) 0 0 29 [.ref 0, .float 0] [] (lP M 78 48 p1) Q := by
      intro p1 hp1
      have y0 : oC (lP M 78 48 p1) 0 11 (tp_f dw nw (nI (sBl s)) pa) := hK.top
      refine s_aload_n 30 rfl rfl rfl ?_
      refine s_getfield 11 2 33 rfl rfl fl_Top_24 y0 rfl ?_
      refine s_aload_n 34 rfl rfl rfl ?_
      refine s_getfield 11 13 37 rfl rfl fl_Top_87 y0 rfl ?_
      refine s_aload_n 38 rfl rfl rfl ?_
      refine s_getfield 11 12 41 rfl rfl fl_Top_83 y0 rfl ?_
      refine c_callV2 (h+5) 44 rfl rfl mv_Top_120 (by omega) (Nat.le_of_ble_eq_true rfl) (Nat.le_of_ble_eq_true rfl) h5 rfl rfl ?_
      -- Top_build 44: call Matching_match
      refine m_Matching_match (h := h + 3) (M := lP M 78 48 p1) (fo := fo) (fn := fn) (nf := nf) (mo := nm) (df := df) (ml := dm) (be := db) ⟨ax_ne (by omega) hK.now, ax_ne (by omega) n1, ax_ne (by omega) n2, ax_ne (by omega) d0, ax_ne (by omega) d1, ax_ne (by omega) d2, by omega, by omega, by omega, b4, hdr⟩ h5 h6 h7 h8 (ax_ne (by omega) d3) (fun j hj => hdb j hj) ho hn (fun N1 o1 n1' x6 x7 x8 be hf1 g5 g6 g7 g8 gb gr => ?_)
      dsimp only [ax_rs]
      have y1 : oC N1 0 11 (tp_f dw nw (nI (sBl s)) pa) := (hf1 0 (by omega)).trans hK.top
      refine s_aload_n 45 rfl rfl rfl ?_
      refine s_getfield 11 3 48 rfl rfl fl_Top_31 y1 rfl ?_
      refine s_aload_n 49 rfl rfl rfl ?_
      refine s_getfield 11 12 52 rfl rfl fl_Top_83 y1 rfl ?_
      refine c_callV1 (h+5) 55 rfl rfl mv_Top_124 (by omega) (Nat.le_of_ble_eq_true rfl) (Nat.le_of_ble_eq_true rfl) ((hf1 9 (by omega)).trans hK.alarms) rfl rfl ?_
      -- Top_build 55: call Alarms_carry
      refine m_Alarms_carry (h := h + 4) (M := N1) (ln := sLn s) (nl := drn) ((hf1 9 (by omega)).trans hK.alarms) ((hf1 10 (by omega)).trans hK.line) ((hf1 15 (by omega)).trans hK.state) ((hf1 dw (by omega)).trans (ax_ne (by omega) d0)) gb (by omega) b1 hdr b4 hJ gr hK.told (fun l2 s2 hls => ?_)
      dsimp only [ax_rs]
      refine s_aload_n 56 rfl rfl rfl ?_
      refine s_getfield 11 5 59 rfl rfl fl_Top_45 y1 rfl ?_
      refine s_aload_n 60 rfl rfl rfl ?_
      refine s_getfield 11 12 63 rfl rfl fl_Top_83 y1 rfl ?_
      refine c_callV1 (h+5) 66 rfl rfl mv_Top_128 (by omega) (Nat.le_of_ble_eq_true rfl) (Nat.le_of_ble_eq_true rfl) ((hf1 22 (by omega)).trans hK.silences) rfl rfl ?_
      -- Top_build 66: call Silences_carry
      have rr : ∀ i, i < drn → be i = -1 ∨ ∃ k : Nat, k < 40 ∧ be i = nI k := by
        intro i hi
        rw [gr i hi]
        cases e : (mt_ fo fn (fun i j => decide (nm i = dm j)) (sLn s) drn 6).1 i with
        | none => exact Or.inl rfl
        | some v => exact Or.inr ⟨v, by have := (hJ.1 i hi v e).1; omega, rfl⟩
      have k2 : ∀ k, ¬ ((5 ≤ k ∧ k ≤ 8) ∨ k = 10 ∨ k = 15 ∨ k = 78 ∨ k = dw + 3) → (iP (iP N1 10 50 l2) 15 50 s2).2 k = M.2 k := fun k hk => ax_ne (by omega) (ax_ne (by omega) ((hf1 k (by omega)).trans (ax_ne (by omega) rfl)))
      have ss : ∀ k, k < 13 → ∀ a b c d e r f, sl_ M (pm k) a b c d e r f → sl_ (iP (iP N1 10 50 l2) 15 50 s2) (pm k) a b c d e r f := fun k hk a b c d e r f hh => hh.mv2 (hs1 k hk).1 (fun x hx => k2 x (by omega))
      refine m_Silences_carry (h := h + 4) (M := iP (iP N1 10 50 l2) 15 50 s2) (l := dw) (nl := drn) (be := be) ((k2 22 (by omega)).trans hK.silences) ((k2 23 (by omega)).trans hK.slots) hs1 hs2 (fun k hk => ?_) ((k2 dw (by omega)).trans d0) (ax_ne (by omega) (ax_ne (by omega) gb)) (by omega) b3 hdr rr (fun N3 hf3 h3 => ?_)
      · obtain ⟨a, b, c, d, e, r, f, hh⟩ := hs3 k hk
        exact ⟨a, b, c, d, e, r, f, ss k hk a b c d e r f hh⟩
      dsimp only [ax_rs]
      have y3 : oC N3 0 11 (tp_f dw nw (nI (sBl s)) pa) := (hf3 0 (by omega)).trans ((k2 0 (by omega)).trans hK.top)
      have y4 : oC N3 nw 2 (li_f nw (sLn s)) := (hf3 nw (by omega)).trans ((k2 nw (by omega)).trans hK.now)
      have k3 : ∀ k, ¬ (k = 0 ∨ (5 ≤ k ∧ k ≤ 8) ∨ k = 10 ∨ k = 15 ∨ (30 ≤ k ∧ k ≤ 68 ∧ k % 3 = 0) ∨ k = 78 ∨ k = dw + 3 ∨ k = nw) → N3.2 k = M.2 k := fun k hk => (hf3 k (by omega)).trans (k2 k (by omega))
      have z5 : oC N3 5 4 [.ref 6, .ref 7, .ref 8, .int o1, .int n1'] := (hf3 5 (by omega)).trans g5
      have z6 : iA N3 6 40 x6 := (hf3 6 (by omega)).trans g6
      have z7 : iA N3 7 40 x7 := (hf3 7 (by omega)).trans g7
      have z8 : iA N3 8 1681 x8 := (hf3 8 (by omega)).trans g8
      have z78 : lA N3 78 48 p1 := (hf3 78 (by omega)).trans ((hf1 78 (by omega)).trans ax_eq)
      have zb : iA N3 (dw + 3) 40 be := (hf3 (dw + 3) (by omega)).trans (ax_ne (by omega) (ax_ne (by omega) gb))
      have z10 : iA N3 10 50 l2 := (hf3 10 (by omega)).trans rfl
      have z15 : iA N3 15 50 s2 := (hf3 15 (by omega)).trans rfl
      refine s_aload_n 67 rfl rfl rfl ?_
      refine s_getfield 11 13 70 rfl rfl fl_Top_87 y3 rfl ?_
      refine s_ast1 71 rfl rfl rfl ?_
      refine s_aload_n 72 rfl rfl rfl ?_
      refine s_aload_n 73 rfl rfl rfl ?_
      refine s_getfield 11 12 76 rfl rfl fl_Top_83 y3 rfl ?_
      refine s_putfield 11 13 (.object "AlarmGroups$Lines") 79 rfl rfl fp_Top_87 y3 (Nat.le_of_ble_eq_true rfl) ⟨rfl, rfl⟩ (fun h => absurd h (by decide)) ?_
      refine s_aload_n 80 rfl rfl rfl ?_
      refine s_aload_n 81 rfl rfl rfl ?_
      refine s_putfield 11 12 (.object "AlarmGroups$Lines") 84 rfl rfl fp_Top_83 rfl (Nat.le_of_ble_eq_true rfl) ⟨rfl, rfl⟩ (fun h => absurd h (by decide)) ?_
      refine s_aload_n 85 rfl rfl rfl ?_
      refine s_getfield 11 12 88 rfl rfl fl_Top_83 rfl rfl ?_
      refine c_callV0 (h+5) 91 rfl rfl mv_Top_129 (by omega) (Nat.le_of_ble_eq_true rfl) (Nat.le_of_ble_eq_true rfl) (ax_ne (by omega) (ax_ne (by omega) y4)) rfl rfl ?_
      -- Top_build 91: call Lines_clear
      refine m_Lines_clear (a := nw) (fa := nw + 1) (ma := nw + 2) (ba := nw + 3) (n := sLn s) (ax_ne (by omega) (ax_ne (by omega) y4)) ?_
      dsimp only [ax_rs]
      refine s_aload_n 92 rfl rfl rfl ?_
      refine s_dup 93 rfl rfl rfl ?_
      refine s_getfield 11 14 96 rfl rfl fl_Top_114 (ax_ne (by omega) rfl) rfl ?_
      refine s_iconst 1 97 rfl rfl (by decide) ?_
      refine s_iadd 98 rfl rfl ?_
      -- Top_build 98: end
      rw [nI_1]
      refine s_putfield 11 14 (.int) 101 rfl rfl fp_Top_114 (ax_ne (by omega) rfl) (Nat.le_of_ble_eq_true rfl) ⟨rfl, rfl⟩ (fun h => absurd h (by decide)) ?_
      refine s_aload_n 102 rfl rfl rfl ?_
      refine s_getfield 11 14 105 rfl rfl fl_Top_114 rfl rfl ?_
      refine s_iconst 1 106 rfl rfl (by decide) ?_
      refine s_isub 107 rfl rfl ?_
      -- Top_build 107: end
      rw [nI_pred]
      refine s_ireturn rfl .int rfl rfl (hq _ o1 n1' x6 x7 x8 be l2 s2 (fun k hk => ax_ne (by omega) (ax_ne (by omega) (ax_ne (by omega) (ax_ne (by omega) (k3 k hk))))) rfl (ax_ne (by omega) (ax_ne (by omega) (ax_ne (by omega) (ax_ne (by omega) z5)))) (ax_ne (by omega) (ax_ne (by omega) (ax_ne (by omega) (ax_ne (by omega) z6)))) (ax_ne (by omega) (ax_ne (by omega) (ax_ne (by omega) (ax_ne (by omega) z7)))) (ax_ne (by omega) (ax_ne (by omega) (ax_ne (by omega) (ax_ne (by omega) z8)))) ?_ (ax_ne (by omega) ax_eq) (ax_ne (by omega) (ax_ne (by omega) (ax_ne (by omega) (ax_ne (by omega) zb)))) gr (ax_ne (by omega) (ax_ne (by omega) (ax_ne (by omega) (ax_ne (by omega) z10)))) (ax_ne (by omega) (ax_ne (by omega) (ax_ne (by omega) (ax_ne (by omega) z15)))) hls (fun k hk a b c d e r f hh => ?_))
      · rw [← hp1]
        exact ax_ne (by omega) (ax_ne (by omega) (ax_ne (by omega) (ax_ne (by omega) z78)))
      · exact (h3 k hk a b c d e r f (ss k hk a b c d e r f hh)).mv2 (hs1 k hk).1 (fun x hx => ax_ne (by omega) (ax_ne (by omega) (ax_ne (by omega) (ax_ne (by omega) rfl))))
    refine s_aload_n 13 rfl rfl rfl ?_
    refine s_getfield 11 14 16 rfl rfl fl_Top_114 hK.top rfl ?_
    refine s_if_le 29 19 rfl rfl (by decide) (fun c1 => ?_) (fun c1 => ?_)
    -- Top_build 19: branch 29 19
    · have z0 : sBl s = 0 := by have := nn_le (b := 0) c1; omega
      have m := main pt (by rw [if_pos z0])
      unfold lP at m
      rw [ax_id h_past] at m
      exact m
    · have z0 : sBl s ≠ 0 := by have := nn_nle (b := 0) c1; omega
      refine s_aload_n 20 rfl rfl rfl ?_
      refine s_aload_n 21 rfl rfl rfl ?_
      refine s_getfield 11 14 24 rfl rfl fl_Top_114 hK.top rfl ?_
      refine s_iconst 1 25 rfl rfl (by decide) ?_
      refine s_isub 26 rfl rfl ?_
      -- Top_build 26: end
      rw [show nI (sBl s) = nI (sBl s - 1 + 1) by rw [show sBl s - 1 + 1 = sBl s by omega], nI_pred]
      refine c_callV1 (h+5) 29 rfl rfl mv_Top_117 (by omega) (Nat.le_of_ble_eq_true rfl) (Nat.le_of_ble_eq_true rfl) hK.top rfl rfl ?_
      -- Top_build 29: call Top_keepTrends
      refine m_Top_keepTrends (h := h) hK (by omega) h_past (by omega) ?_
      dsimp only [ax_rs]
      exact main _ (by rw [if_neg z0])
  · refine s_bipush (-4) 11 rfl rfl (by decide) ?_
    -- Top_build 11: ireturn
    exact s_ireturn rfl .int rfl rfl (hroom (by have := nn_nlt (b := 12) c1; omega))
end CBD
