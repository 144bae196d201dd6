/-! build: the reference -/
/-- bits of an alarm's builds -/
def on_ (st ob : Nat → Int32) (bl a : Nat) : Int32 := if st a = 0 then ob a ||| ((1 : Int32) <<< (nI (bl - 1) &&& 31)) else ob a
/-- the lines of a silence go where their lines go -/
def sq_ (wt : Nat → Option Nat) (ln : Nat) (w x : Int64) : Prop := ∀ j, j < 64 → (lb x j = true ↔ ∃ l, l < ln ∧ lb w l = true ∧ wt l = some j)
section MBD
variable {g : ax_Y} {M : ax_M} {Q : Option Value → ax_M → Prop} {h : Nat} {nn pa cm os gm tk pl bh pv : Int32} {va : Int64} {iw od : Int32} {bl ln dr al ru si : Nat}
theorem m_Mod_carryAlarms {li st ob e0 : Nat → Int32} {wt : Nat → Option Nat} (h_this : oC M 143 12 (md_f nn (nI bl) (nI ln) (nI dr) (nI al) (nI ru) pv (nI si) pa cm os gm tk pl bh va iw od)) (h_lineOf : iA M 155 50 li) (h_state : iA M 160 50 st) (h_ofBuilds : iA M 161 50 ob) (h_wentTo : iA M 150 40 e0) (hr : rp_ e0 wt ln) (hal : al ≤ 50) (hln : ln ≤ 40) (hbl : bl ≤ 12) (hz : bl = 0 → ln = 0) (ht : ∀ a, a < al → st a = 0 → ∃ c, c < ln ∧ li a = nI c) (hs : ∀ a, a < al → (st a = 0 ∨ st a = 1 ∨ st a = 2) ∧ (st a = 2 → li a = -1)) (hq : ∀ l2 s2 o2, (∀ a, a < al → l2 a = cl_ st li wt a ∧ s2 a = (if cl_ st li wt a = -1 then 2 else 1) ∧ o2 a = on_ st ob bl a) → Q none (iP (iP (iP M 161 50 o2) 155 50 l2) 160 50 s2)) : ax_G g mt_Mod_carryAlarms h 0 0 0 [.ref 143, .float 0] [] M Q := by
  refine s_iconst 0 1 rfl rfl (by decide) ?_
  refine s_ist1 2 rfl rfl rfl ?_
  -- Mod_carryAlarms 2: end
  have loop : ∀ (d i : Nat) (l2 s2 o2 : Nat → Int32), i + d = al → (∀ a, a < i → l2 a = cl_ st li wt a ∧ s2 a = (if cl_ st li wt a = -1 then 2 else 1) ∧ o2 a = on_ st ob bl a) → (∀ a, i ≤ a → l2 a = li a ∧ s2 a = st a ∧ o2 a = ob a) → ax_G g mt_Mod_carryAlarms h 0 0 2 [.ref 143, .int (nI i)] [] (iP (iP (iP M 161 50 o2) 155 50 l2) 160 50 s2) Q := by
    intro d
    induction d with
    | zero =>
      intro i l2 s2 o2 hi h1 h2
      obtain rfl : i = al := by omega
      refine s_iload_n 3 rfl rfl rfl ?_
      refine s_aload_n 4 rfl rfl rfl ?_
      refine s_getfield 12 15 7 rfl rfl fl_Mod_169 h_this rfl ?_
      refine s_icmp_ge 107 10 rfl rfl (by decide) (fun c1 => ?_) (fun c1 => ?_)
      -- Mod_carryAlarms 10: branch 107 10
      · exact s_return rfl rfl (hq l2 s2 o2 h1)
      · exact absurd (nn_nle c1) (by omega)
    | succ d ih =>
      intro i l2 s2 o2 hi h1 h2
      obtain ⟨e1, e2, e3⟩ := h2 i (Nat.le_refl i)
      have nx : ∀ l3 s3 o3, l3 i = cl_ st li wt i → s3 i = (if cl_ st li wt i = -1 then 2 else 1) → o3 i = on_ st ob bl i → (∀ a, a ≠ i → l3 a = l2 a ∧ s3 a = s2 a ∧ o3 a = o2 a) → ax_G g mt_Mod_carryAlarms h 0 0 2 [.ref 143, .int (nI (i + 1))] [] (iP (iP (iP M 161 50 o3) 155 50 l3) 160 50 s3) Q := by
        intro l3 s3 o3 q1 q2 q3 q4
        refine ih (i + 1) l3 s3 o3 (by omega) (fun a ha => ?_) (fun a ha => ?_)
        · by_cases z : a = i
          · subst z; exact ⟨q1, q2, q3⟩
          · obtain ⟨w1, w2, w3⟩ := q4 a z
            rw [w1, w2, w3]
            exact h1 a (by omega)
        · obtain ⟨w1, w2, w3⟩ := q4 a (by omega)
          rw [w1, w2, w3]
          exact h2 a (by omega)
      have un : ∀ (f : Nat → Int32) (v : Int32) (a : Nat), a ≠ i → upd f i v a = f a := by
        intro f v a z
        unfold upd
        rw [if_neg z]
      refine s_iload_n 3 rfl rfl rfl ?_
      refine s_aload_n 4 rfl rfl rfl ?_
      refine s_getfield 12 15 7 rfl rfl fl_Mod_169 h_this rfl ?_
      refine s_icmp_ge 107 10 rfl rfl (by decide) (fun c2 => ?_) (fun c2 => ?_)
      -- Mod_carryAlarms 10: branch 107 10
      · exact absurd (nn_le c2) (by omega)
      · refine s_aload_n 11 rfl rfl rfl ?_
        refine s_getfield 12 21 14 rfl rfl fl_Mod_58 h_this rfl ?_
        refine s_iload_n 15 rfl rfl rfl ?_
        refine s_iaload (i) 16 rfl rfl rfl rfl (by omega) (by decide) ?_
        -- Mod_carryAlarms 16: end
        rw [e2]
        refine s_if_ne 77 19 rfl rfl (by decide) (fun c3 => ?_) (fun c3 => ?_)
        -- Mod_carryAlarms 19: branch 77 19
        · refine s_aload_n 78 rfl rfl rfl ?_
          refine s_getfield 12 21 81 rfl rfl fl_Mod_58 h_this rfl ?_
          refine s_iload_n 82 rfl rfl rfl ?_
          refine s_iaload (i) 83 rfl rfl rfl rfl (by omega) (by decide) ?_
          -- Mod_carryAlarms 83: end
          rw [e2]
          have ec : cl_ st li wt i = -1 := by unfold cl_; rw [if_neg c3]
          have eo : on_ st ob bl i = ob i := by unfold on_; rw [if_neg c3]
          refine s_iconst 1 84 rfl rfl (by decide) ?_
          refine s_icmp_ne 101 87 rfl rfl (by decide) (fun c4 => ?_) (fun c4 => ?_)
          -- Mod_carryAlarms 87: branch 101 87
          · have s2' : st i = 2 := by
              rcases (hs i (by omega)).1 with q | q | q
              · exact absurd q c3
              · exact absurd q c4
              · exact q
            refine s_inc1 _ 104 rfl rfl rfl rfl ?_
            refine s_goto 2 rfl (by decide) ?_
            -- Mod_carryAlarms 2: end
            rw [inc1]
            exact nx l2 s2 o2 (by rw [e1, ec]; exact (hs i (by omega)).2 s2') (by rw [e2, ec, if_pos rfl, s2']) (by rw [e3, eo]) (fun a _ => ⟨rfl, rfl, rfl⟩)
          · refine s_aload_n 88 rfl rfl rfl ?_
            refine s_getfield 12 16 91 rfl rfl fl_Mod_43 h_this rfl ?_
            refine s_iload_n 92 rfl rfl rfl ?_
            refine s_iconst (-1) 93 rfl rfl (by decide) ?_
            refine s_iastore (i) 94 rfl rfl rfl rfl (by omega) (by decide) ?_
            refine s_aload_n 95 rfl rfl rfl ?_
            refine s_getfield 12 21 98 rfl rfl fl_Mod_58 h_this rfl ?_
            refine s_iload_n 99 rfl rfl rfl ?_
            refine s_iconst 2 100 rfl rfl (by decide) ?_
            refine s_iastore (i) 101 rfl rfl rfl rfl (by omega) (by decide) ?_
            refine s_inc1 _ 104 rfl rfl rfl rfl ?_
            refine s_goto 2 rfl (by decide) ?_
            -- Mod_carryAlarms 2: end
            unfold iP at nx ⊢
            rw [ax_p4, inc1]
            exact nx _ _ o2 (by rw [upd_s, ec]) (by rw [upd_s, ec, if_pos rfl]) (by rw [e3, eo]) (fun a z => ⟨un _ _ a z, un _ _ a z, rfl⟩)
        · obtain ⟨c, hc, e4⟩ := ht i (by omega) c3
          have bl1 : 1 ≤ bl := by
            by_cases z : bl = 0
            · have := hz z
              omega
            · omega
          have ec : cl_ st li wt i = e0 c := by
            unfold cl_
            rw [if_pos c3, e4, nI_clamp (by omega), hr c hc]
          have eo : on_ st ob bl i = ob i ||| ((1 : Int32) <<< (nI (bl - 1) &&& 31)) := by unfold on_; rw [if_pos c3]
          refine s_aload_n 20 rfl rfl rfl ?_
          refine s_getfield 12 22 23 rfl rfl fl_Mod_61 h_this rfl ?_
          refine s_iload_n 24 rfl rfl rfl ?_
          refine s_dup2 25 rfl rfl rfl rfl ?_
          refine s_iaload (i) 26 rfl rfl rfl rfl (by omega) (by decide) ?_
          refine s_iconst 1 27 rfl rfl (by decide) ?_
          refine s_aload_n 28 rfl rfl rfl ?_
          refine s_getfield 12 2 31 rfl rfl fl_Mod_152 h_this rfl ?_
          refine s_iconst 1 32 rfl rfl (by decide) ?_
          refine s_isub 33 rfl rfl ?_
          -- Mod_carryAlarms 33: end
          rw [e3, show nI bl = nI (bl - 1 + 1) by rw [show bl - 1 + 1 = bl by omega], nI_pred]
          refine s_ishl 34 rfl rfl ?_
          refine s_ior 35 rfl rfl ?_
          refine s_iastore (i) 36 rfl rfl rfl rfl (by omega) (by decide) ?_
          refine s_aload_n 37 rfl rfl rfl ?_
          refine s_getfield 12 16 40 rfl rfl fl_Mod_43 h_this rfl ?_
          refine s_iload_n 41 rfl rfl rfl ?_
          refine s_aload_n 42 rfl rfl rfl ?_
          refine s_getfield 12 10 45 rfl rfl fl_Mod_28 h_this rfl ?_
          refine s_aload_n 46 rfl rfl rfl ?_
          refine s_getfield 12 16 49 rfl rfl fl_Mod_43 h_this rfl ?_
          refine s_iload_n 50 rfl rfl rfl ?_
          refine s_iaload (i) 51 rfl rfl rfl rfl (by omega) (by decide) ?_
          -- Mod_carryAlarms 51: end
          rw [e1, e4]
          refine s_iaload (c) 52 rfl rfl h_wentTo rfl (by omega) (by decide) ?_
          refine s_iastore (i) 53 rfl rfl rfl rfl (by omega) (by decide) ?_
          refine s_aload_n 54 rfl rfl rfl ?_
          refine s_getfield 12 21 57 rfl rfl fl_Mod_58 h_this rfl ?_
          refine s_iload_n 58 rfl rfl rfl ?_
          refine s_aload_n 59 rfl rfl rfl ?_
          refine s_getfield 12 16 62 rfl rfl fl_Mod_43 h_this rfl ?_
          refine s_iload_n 63 rfl rfl rfl ?_
          refine s_iaload (i) 64 rfl rfl rfl rfl (by omega) (by decide) ?_
          -- Mod_carryAlarms 64: end
          rw [upd_s]
          refine s_iconst (-1) 65 rfl rfl (by decide) ?_
          refine s_icmp_ne 72 68 rfl rfl (by decide) (fun c5 => ?_) (fun c5 => ?_)
          -- Mod_carryAlarms 68: branch 72 68
          · refine s_iconst 1 73 rfl rfl (by decide) ?_
            refine s_iastore (i) 74 rfl rfl rfl rfl (by omega) (by decide) ?_
            refine s_goto 101 rfl (by decide) ?_
            refine s_inc1 _ 104 rfl rfl rfl rfl ?_
            refine s_goto 2 rfl (by decide) ?_
            -- Mod_carryAlarms 2: end
            unfold iP at nx ⊢
            rw [ax_p6, inc1]
            exact nx _ _ _ (by rw [upd_s, ec]) (by rw [upd_s, ec, if_neg c5]) (by rw [upd_s, eo]) (fun a z => ⟨un _ _ a z, un _ _ a z, un _ _ a z⟩)
          · refine s_iconst 2 69 rfl rfl (by decide) ?_
            refine s_goto 73 rfl (by decide) ?_
            refine s_iastore (i) 74 rfl rfl rfl rfl (by omega) (by decide) ?_
            refine s_goto 101 rfl (by decide) ?_
            refine s_inc1 _ 104 rfl rfl rfl rfl ?_
            refine s_goto 2 rfl (by decide) ?_
            -- Mod_carryAlarms 2: end
            unfold iP at nx ⊢
            rw [ax_p6, inc1]
            exact nx _ _ _ (by rw [upd_s, ec]) (by rw [upd_s, ec, if_pos c5]) (by rw [upd_s, eo]) (fun a z => ⟨un _ _ a z, un _ _ a z, un _ _ a z⟩)
  have h0 := loop al 0 li st ob (by omega) (fun a ha => absurd ha (Nat.not_lt_zero a)) (fun a _ => ⟨rfl, rfl, rfl⟩)
  unfold iP at h0
  rw [ax_id h_ofBuilds, ax_id h_lineOf, ax_id h_state] at h0
  exact h0
/-- from 245 on: the draft's lines are the lines -/
theorem bd_G {mf mm gf gm2 : Nat → Int32} {z1 z2 z4 : Value} (h1 : z1.category = 1) (h4 : z4.category = 1) (h_this : oC M 143 12 (md_f nn (nI bl) (nI ln) (nI dr) (nI al) (nI ru) pv (nI si) pa cm os gm tk pl bh va iw od)) (h_fileOf : iA M 145 40 mf) (h_markOf : iA M 146 40 mm) (h_draftFile : iA M 148 40 gf) (h_draftMark : iA M 149 40 gm2) (hdr : dr ≤ 40) (hq : ∀ N f2 m2, fr_ M N (fun k => k = 143 ∨ k = 145 ∨ k = 146) → oC N 143 12 (md_f nn (nI (bl + 1)) (nI dr) (nI 0) (nI al) (nI ru) pv (nI si) pa cm os gm tk pl bh va iw od) → iA N 145 40 f2 → iA N 146 40 m2 → (∀ j, j < dr → f2 j = gf j ∧ m2 j = gm2 j) → Q (some (.int (nI bl))) N) : ax_G g mt_Mod_build h 0 0 245 [.ref 143, z1, z2, .float 0, z4] [] M Q := by
  refine s_aload_n 246 rfl rfl rfl ?_
  refine s_aload_n 247 rfl rfl rfl ?_
  refine s_getfield 12 7 250 rfl rfl fl_Mod_146 h_this rfl ?_
  refine s_putfield 12 3 (.int) 253 rfl rfl fp_Mod_149 h_this (Nat.le_of_ble_eq_true rfl) ⟨rfl, rfl⟩ (fun h => absurd h (by decide)) ?_
  refine s_iconst 0 254 rfl rfl (by decide) ?_
  refine s_ist1 255 rfl rfl rfl ?_
  -- Mod_build 255: end
  have loop : ∀ (d i : Nat) (f2 m2 : Nat → Int32), i + d = dr → (∀ j, j < i → f2 j = gf j ∧ m2 j = gm2 j) → ax_G g mt_Mod_build h 0 0 255 [.ref 143, .int (nI i), z2, .float 0, z4] [] (iP (iP (oP M 143 12 (md_f nn (nI bl) (nI dr) (nI dr) (nI al) (nI ru) pv (nI si) pa cm os gm tk pl bh va iw od)) 145 40 f2) 146 40 m2) Q := by
    intro d
    induction d with
    | zero =>
      intro i f2 m2 hi hj
      obtain rfl : i = dr := by omega
      refine s_iload_n 256 rfl rfl rfl ?_
      refine s_aload_n 257 rfl rfl rfl ?_
      refine s_getfield 12 7 260 rfl rfl fl_Mod_146 rfl rfl ?_
      refine s_icmp_ge 293 263 rfl rfl (by decide) (fun c1 => ?_) (fun c1 => ?_)
      -- Mod_build 263: branch 293 263
      · refine s_aload_n 294 rfl rfl rfl ?_
        refine s_iconst 0 295 rfl rfl (by decide) ?_
        refine s_putfield 12 7 (.int) 298 rfl rfl fp_Mod_146 rfl (Nat.le_of_ble_eq_true rfl) ⟨rfl, rfl⟩ (fun h => absurd h (by decide)) ?_
        refine s_aload_n 299 rfl rfl rfl ?_
        refine s_dup 300 rfl rfl rfl ?_
        refine s_getfield 12 2 303 rfl rfl fl_Mod_152 rfl rfl ?_
        refine s_iconst 1 304 rfl rfl (by decide) ?_
        refine s_iadd 305 rfl rfl ?_
        -- Mod_build 305: end
        rw [nI_1]
        refine s_putfield 12 2 (.int) 308 rfl rfl fp_Mod_152 rfl (Nat.le_of_ble_eq_true rfl) ⟨rfl, rfl⟩ (fun h => absurd h (by decide)) ?_
        refine s_aload_n 309 rfl rfl rfl ?_
        refine s_getfield 12 2 312 rfl rfl fl_Mod_152 rfl rfl ?_
        refine s_iconst 1 313 rfl rfl (by decide) ?_
        refine s_isub 314 rfl rfl ?_
        -- Mod_build 314: end
        rw [nI_pred]
        exact s_ireturn rfl .int rfl rfl (hq _ f2 m2 (((((fr_.r.put (by omega)).put (by omega)).put (by omega)).put (by omega)).put (by omega)) rfl rfl rfl hj)
      · exact absurd (nn_nle c1) (by omega)
    | succ d ih =>
      intro i f2 m2 hi hj
      refine s_iload_n 256 rfl rfl rfl ?_
      refine s_aload_n 257 rfl rfl rfl ?_
      refine s_getfield 12 7 260 rfl rfl fl_Mod_146 rfl rfl ?_
      refine s_icmp_ge 293 263 rfl rfl (by decide) (fun c2 => ?_) (fun c2 => ?_)
      -- Mod_build 263: branch 293 263
      · exact absurd (nn_le c2) (by omega)
      · refine s_aload_n 264 rfl rfl rfl ?_
        refine s_getfield 12 4 267 rfl rfl fl_Mod_13 rfl rfl ?_
        refine s_iload_n 268 rfl rfl rfl ?_
        refine s_aload_n 269 rfl rfl rfl ?_
        refine s_getfield 12 8 272 rfl rfl fl_Mod_22 rfl rfl ?_
        refine s_iload_n 273 rfl rfl rfl ?_
        refine s_iaload (i) 274 rfl rfl h_draftFile rfl (by omega) (by decide) ?_
        refine s_iastore (i) 275 rfl rfl rfl rfl (by omega) (by decide) ?_
        refine s_aload_n 276 rfl rfl rfl ?_
        refine s_getfield 12 5 279 rfl rfl fl_Mod_16 rfl rfl ?_
        refine s_iload_n 280 rfl rfl rfl ?_
        refine s_aload_n 281 rfl rfl rfl ?_
        refine s_getfield 12 9 284 rfl rfl fl_Mod_25 rfl rfl ?_
        refine s_iload_n 285 rfl rfl rfl ?_
        refine s_iaload (i) 286 rfl rfl h_draftMark rfl (by omega) (by decide) ?_
        refine s_iastore (i) 287 rfl rfl rfl rfl (by omega) (by decide) ?_
        refine s_inc1 _ 290 rfl rfl rfl rfl ?_
        refine s_goto 255 rfl (by decide) ?_
        -- Mod_build 255: end
        unfold iP
        rw [ax_p4, inc1]
        refine ih (i + 1) _ _ (by omega) (fun j hj2 => ?_)
        unfold upd
        by_cases z : j = i
        · subst z
          rw [if_pos rfl, if_pos rfl]
          exact ⟨rfl, rfl⟩
        · rw [if_neg z, if_neg z]
          exact hj j (by omega)
  have h0 := loop dr 0 mf mm (by omega) (fun j hj => absurd hj (Nat.not_lt_zero j))
  unfold iP at h0
  rw [ax_id (M := oP M 143 12 _) (a := 145) h_fileOf, ax_id (M := oP M 143 12 _) (a := 146) h_markOf] at h0
  exact h0
/-- from 184 on: partnerOf -/
theorem bd_E {mf mm gf gm2 mp e0 : Nat → Int32} {bf wt : Nat → Option Nat} {z1 z2 z4 : Value} (h1 : z1.category = 1) (h4 : z4.category = 1) (h_this : oC M 143 12 (md_f nn (nI bl) (nI ln) (nI dr) (nI al) (nI ru) pv (nI si) pa cm os gm tk pl bh va iw od)) (h_fileOf : iA M 145 40 mf) (h_markOf : iA M 146 40 mm) (h_partnerOf : iA M 147 40 mp) (h_draftFile : iA M 148 40 gf) (h_draftMark : iA M 149 40 gm2) (h_wentTo : iA M 150 40 e0) (hr : rp_ e0 wt ln) (hJ : J_ ln dr bf wt) (hln : ln ≤ 40) (hdr : dr ≤ 40) (hq : ∀ N f2 m2 p2, fr_ M N (fun k => k = 143 ∨ k = 145 ∨ k = 146 ∨ k = 147) → oC N 143 12 (md_f nn (nI (bl + 1)) (nI dr) (nI 0) (nI al) (nI ru) pv (nI si) pa cm os gm tk pl bh va iw od) → iA N 145 40 f2 → iA N 146 40 m2 → iA N 147 40 p2 → (∀ j, j < dr → f2 j = gf j ∧ m2 j = gm2 j) → rp_ p2 bf dr → Q (some (.int (nI bl))) N) : ax_G g mt_Mod_build h 0 0 184 [.ref 143, z1, z2, .float 0, z4] [] M Q := by
  have fin : ∀ (p2 : Nat → Int32) (z1 : Value), z1.category = 1 → rp_ p2 bf dr → ax_G g mt_Mod_build h 0 0 245 [.ref 143, z1, z2, .float 0, z4] [] (iP M 147 40 p2) Q := by
    intro p2 z1 h1 hp
    exact bd_G (M := iP M 147 40 p2) h1 h4 h_this h_fileOf h_markOf h_draftFile h_draftMark hdr (fun N f2 m2 a1 a2 a3 a4 a5 => hq N f2 m2 p2 (fun k hk => (a1 k (by omega)).trans (ax_ne (by omega) rfl)) a2 a3 a4 ((a1 147 (by omega)).trans ax_eq) a5 hp)
  have second : ∀ (p2 : Nat → Int32) (z1 : Value), z1.category = 1 → (∀ j, j < dr → p2 j = -1) → ax_G g mt_Mod_build h 0 0 207 [.ref 143, z1, z2, .float 0, z4] [] (iP M 147 40 p2) Q := by
    intro p2 z1 _ hp
    refine s_iconst 0 208 rfl rfl (by decide) ?_
    refine s_ist1 209 rfl rfl rfl ?_
    -- Mod_build 209: end
    have loop : ∀ (d i : Nat) (p2 : Nat → Int32), i + d = ln → (∀ j, j < dr → (∃ k, k < i ∧ wt k = some j ∧ p2 j = nI k) ∨ ((∀ k, k < i → wt k ≠ some j) ∧ p2 j = -1)) → ax_G g mt_Mod_build h 0 0 209 [.ref 143, .int (nI i), z2, .float 0, z4] [] (iP M 147 40 p2) Q := by
      intro d
      induction d with
      | zero =>
        intro i p2 hi hj
        obtain rfl : i = ln := by omega
        refine s_iload_n 210 rfl rfl rfl ?_
        refine s_aload_n 211 rfl rfl rfl ?_
        refine s_getfield 12 3 214 rfl rfl fl_Mod_149 h_this rfl ?_
        refine s_icmp_ge 245 217 rfl rfl (by decide) (fun c1 => ?_) (fun c1 => ?_)
        -- Mod_build 217: branch 245 217
        · refine fin p2 _ rfl (fun j hj2 => ?_)
          rcases hj j hj2 with ⟨k, q1, q2, q3⟩ | ⟨q1, q2⟩
          · rw [q3, (hJ.2 k q1 j q2).2]
            rfl
          · cases e : bf j with
            | none => exact q2
            | some k =>
              obtain ⟨u1, u2⟩ := hJ.1 j hj2 k e
              exact absurd u2 (q1 k u1)
        · exact absurd (nn_nle c1) (by omega)
      | succ d ih =>
        intro i p2 hi hj
        have ew := hr i (by omega)
        refine s_iload_n 210 rfl rfl rfl ?_
        refine s_aload_n 211 rfl rfl rfl ?_
        refine s_getfield 12 3 214 rfl rfl fl_Mod_149 h_this rfl ?_
        refine s_icmp_ge 245 217 rfl rfl (by decide) (fun c2 => ?_) (fun c2 => ?_)
        -- Mod_build 217: branch 245 217
        · exact absurd (nn_le c2) (by omega)
        · refine s_aload_n 218 rfl rfl rfl ?_
          refine s_getfield 12 10 221 rfl rfl fl_Mod_28 h_this rfl ?_
          refine s_iload_n 222 rfl rfl rfl ?_
          refine s_iaload (i) 223 rfl rfl h_wentTo rfl (by omega) (by decide) ?_
          -- Mod_build 223: end
          rw [ew]
          refine s_iconst (-1) 224 rfl rfl (by decide) ?_
          refine s_icmp_eq 239 227 rfl rfl (by decide) (fun c3 => ?_) (fun c3 => ?_)
          -- Mod_build 227: branch 239 227
          · have e : wt i = none := by
              cases e : wt i with
              | none => rfl
              | some j =>
                rw [e] at c3
                exact absurd c3 (nn_m1 (by have := (hJ.2 i (by omega) j e).1; omega))
            refine s_inc1 _ 242 rfl rfl rfl rfl ?_
            refine s_goto 209 rfl (by decide) ?_
            -- Mod_build 209: end
            rw [inc1]
            refine ih (i + 1) p2 (by omega) (fun j hj2 => ?_)
            rcases hj j hj2 with ⟨k, q1, q2, q3⟩ | ⟨q1, q2⟩
            · exact Or.inl ⟨k, by omega, q2, q3⟩
            · refine Or.inr ⟨fun k hk => ?_, q2⟩
              by_cases z : k = i
              · subst z; rw [e]; exact fun q => by cases q
              · exact q1 k (by omega)
          · cases e : wt i with
            | none => rw [e] at c3; exact absurd rfl c3
            | some v =>
              obtain ⟨u1, u2⟩ := hJ.2 i (by omega) v e
              rw [e] at ew
              refine s_aload_n 228 rfl rfl rfl ?_
              refine s_getfield 12 6 231 rfl rfl fl_Mod_19 h_this rfl ?_
              refine s_aload_n 232 rfl rfl rfl ?_
              refine s_getfield 12 10 235 rfl rfl fl_Mod_28 h_this rfl ?_
              refine s_iload_n 236 rfl rfl rfl ?_
              refine s_iaload (i) 237 rfl rfl h_wentTo rfl (by omega) (by decide) ?_
              -- Mod_build 237: end
              rw [ew]
              refine s_iload_n 238 rfl rfl rfl ?_
              refine s_iastore (v) 239 rfl rfl rfl rfl (by omega) (by decide) ?_
              refine s_inc1 _ 242 rfl rfl rfl rfl ?_
              refine s_goto 209 rfl (by decide) ?_
              -- Mod_build 209: end
              unfold iP
              rw [ax_pp, inc1]
              refine ih (i + 1) _ (by omega) (fun j hj2 => ?_)
              unfold upd
              by_cases z : j = v
              · subst z
                rw [if_pos rfl]
                exact Or.inl ⟨i, by omega, e, rfl⟩
              · rw [if_neg z]
                rcases hj j hj2 with ⟨k, q1, q2, q3⟩ | ⟨q1, q2⟩
                · exact Or.inl ⟨k, by omega, q2, q3⟩
                · refine Or.inr ⟨fun k hk q => ?_, q2⟩
                  by_cases w : k = i
                  · subst w
                    rw [e] at q
                    injection q with q
                    exact z q.symm
                  · exact q1 k (by omega) q
    exact loop ln 0 p2 (by omega) (fun j hj => Or.inr ⟨fun k hk => absurd hk (Nat.not_lt_zero k), hp j hj⟩)
  refine s_iconst 0 185 rfl rfl (by decide) ?_
  refine s_ist1 186 rfl rfl rfl ?_
  -- Mod_build 186: end
  have loop : ∀ (d i : Nat) (p2 : Nat → Int32), i + d = dr → (∀ j, j < i → p2 j = -1) → ax_G g mt_Mod_build h 0 0 186 [.ref 143, .int (nI i), z2, .float 0, z4] [] (iP M 147 40 p2) Q := by
    intro d
    induction d with
    | zero =>
      intro i p2 hi hj
      obtain rfl : i = dr := by omega
      refine s_iload_n 187 rfl rfl rfl ?_
      refine s_aload_n 188 rfl rfl rfl ?_
      refine s_getfield 12 7 191 rfl rfl fl_Mod_146 h_this rfl ?_
      refine s_icmp_ge 207 194 rfl rfl (by decide) (fun c1 => ?_) (fun c1 => ?_)
      -- Mod_build 194: branch 207 194
      · exact second p2 _ rfl hj
      · exact absurd (nn_nle c1) (by omega)
    | succ d ih =>
      intro i p2 hi hj
      refine s_iload_n 187 rfl rfl rfl ?_
      refine s_aload_n 188 rfl rfl rfl ?_
      refine s_getfield 12 7 191 rfl rfl fl_Mod_146 h_this rfl ?_
      refine s_icmp_ge 207 194 rfl rfl (by decide) (fun c2 => ?_) (fun c2 => ?_)
      -- Mod_build 194: branch 207 194
      · exact absurd (nn_le c2) (by omega)
      · refine s_aload_n 195 rfl rfl rfl ?_
        refine s_getfield 12 6 198 rfl rfl fl_Mod_19 h_this rfl ?_
        refine s_iload_n 199 rfl rfl rfl ?_
        refine s_iconst (-1) 200 rfl rfl (by decide) ?_
        refine s_iastore (i) 201 rfl rfl rfl rfl (by omega) (by decide) ?_
        refine s_inc1 _ 204 rfl rfl rfl rfl ?_
        refine s_goto 186 rfl (by decide) ?_
        -- Mod_build 186: end
        unfold iP
        rw [ax_pp, inc1]
        refine ih (i + 1) _ (by omega) (fun j hj2 => ?_)
        unfold upd
        by_cases z : j = i
        · rw [if_pos z]
        · rw [if_neg z]
          exact hj j (by omega)
  have h0 := loop dr 0 mp (by omega) (fun j hj => absurd hj (Nat.not_lt_zero j))
  unfold iP at h0
  rw [ax_id h_partnerOf] at h0
  exact h0
/-- from 96 on: the silences' lines -/
theorem bd_D {e0 : Nat → Int32} {ls : Nat → Int64} {bf wt : Nat → Option Nat} {z1 z2 z4 : Value} (h1 : z1.category = 1) (h4 : z4.category = 1) (h_this : oC M 143 12 (md_f nn (nI bl) (nI ln) (nI dr) (nI al) (nI ru) pv (nI si) pa cm os gm tk pl bh va iw od)) (h_wentTo : iA M 150 40 e0) (h_silenceLines : lA M 170 26 ls) (hr : rp_ e0 wt ln) (hJ : J_ ln dr bf wt) (hsi : si ≤ 12) (hln : ln ≤ 40) (hdr : dr ≤ 40) (hq : ∀ (l2 : Nat → Int64) (z1 z2 z4 : Value), z1.category = 1 → z4.category = 1 → (∀ k, k < si → sq_ wt ln (ls k) (l2 k)) → ax_G g mt_Mod_build h 0 0 184 [.ref 143, z1, z2, .float 0, z4] [] (lP M 170 26 l2) Q) : ax_G g mt_Mod_build h 0 0 96 [.ref 143, z1, z2, .float 0, z4] [] M Q := by
  refine s_iconst 0 97 rfl rfl (by decide) ?_
  refine s_ist1 98 rfl rfl rfl ?_
  -- Mod_build 98: end
  have loop : ∀ (d k : Nat) (l2 : Nat → Int64) (z2 z4 : Value), z4.category = 1 → k + d = si → (∀ j, j < k → sq_ wt ln (ls j) (l2 j)) → (∀ j, k ≤ j → l2 j = ls j) → ax_G g mt_Mod_build h 0 0 98 [.ref 143, .int (nI k), z2, .float 0, z4] [] (lP M 170 26 l2) Q := by
    intro d
    induction d with
    | zero =>
      intro k l2 z2 z4 h4 hk q1 q2
      obtain rfl : k = si := by omega
      refine s_iload_n 99 rfl rfl rfl ?_
      refine s_aload_n 100 rfl rfl rfl ?_
      refine s_getfield 12 30 103 rfl rfl fl_Mod_166 h_this rfl ?_
      refine s_icmp_ge 184 106 rfl rfl (by decide) (fun c1 => ?_) (fun c1 => ?_)
      -- Mod_build 106: branch 184 106
      · exact hq l2 _ _ _ rfl h4 q1
      · exact absurd (nn_nle c1) (by omega)
    | succ d ih =>
      intro k l2 z2 z4 h4 hk q1 q2
      refine s_iload_n 99 rfl rfl rfl ?_
      refine s_aload_n 100 rfl rfl rfl ?_
      refine s_getfield 12 30 103 rfl rfl fl_Mod_166 h_this rfl ?_
      refine s_icmp_ge 184 106 rfl rfl (by decide) (fun c2 => ?_) (fun c2 => ?_)
      -- Mod_build 106: branch 184 106
      · exact absurd (nn_le c2) (by omega)
      · refine s_aload_n 107 rfl rfl rfl ?_
        refine s_getfield 12 35 110 rfl rfl fl_Mod_88 h_this rfl ?_
        refine s_iload_n 111 rfl rfl rfl ?_
        refine s_laload (k) 112 rfl rfl rfl rfl (by omega) (by decide) ?_
        -- Mod_build 112: end
        rw [q2 k (Nat.le_refl k)]
        refine s_lst2 113 rfl rfl rfl ?_
        refine s_aload_n 114 rfl rfl rfl ?_
        refine s_getfield 12 35 117 rfl rfl fl_Mod_88 h_this rfl ?_
        refine s_iload_n 118 rfl rfl rfl ?_
        refine s_lconst 0 119 rfl rfl (by decide) ?_
        refine s_lastore (k) 120 rfl rfl rfl rfl (by omega) (by decide) ?_
        refine s_iconst 0 121 rfl rfl (by decide) ?_
        refine s_ist4 123 rfl rfl rfl ?_
        -- Mod_build 123: end
        unfold lP
        rw [ax_pp]
        have inner : ∀ (d i : Nat) (l3 : Nat → Int64), i + d = ln → (∀ j, j ≠ k → l3 j = l2 j) → (∀ j, j < 64 → (lb (l3 k) j = true ↔ ∃ l, l < i ∧ lb (ls k) l = true ∧ wt l = some j)) → ax_G g mt_Mod_build h 0 0 123 [.ref 143, .int (nI k), .long (ls k), .float 0, .int (nI i)] [] (lP M 170 26 l3) Q := by
          intro d2
          induction d2 with
          | zero =>
            intro i l3 hi w1 w2
            obtain rfl : i = ln := by omega
            refine s_iload 125 rfl rfl rfl ?_
            refine s_aload_n 126 rfl rfl rfl ?_
            refine s_getfield 12 3 129 rfl rfl fl_Mod_149 h_this rfl ?_
            refine s_icmp_ge 178 132 rfl rfl (by decide) (fun c3 => ?_) (fun c3 => ?_)
            -- Mod_build 132: branch 178 132
            · refine s_inc1 _ 181 rfl rfl rfl rfl ?_
              refine s_goto 98 rfl (by decide) ?_
              -- Mod_build 98: end
              rw [inc1]
              refine ih (k + 1) l3 _ _ rfl (by omega) (fun j hj => ?_) (fun j hj => ?_)
              · by_cases z : j = k
                · subst z; exact w2
                · rw [w1 j z]
                  exact q1 j (by omega)
              · rw [w1 j (by omega)]
                exact q2 j (by omega)
            · exact absurd (nn_nle c3) (by omega)
          | succ d2 ih2 =>
            intro i l3 hi w1 w2
            have skip : ¬ (lb (ls k) i = true ∧ ∃ j, wt i = some j) → ax_G g mt_Mod_build h 0 0 172 [.ref 143, .int (nI k), .long (ls k), .float 0, .int (nI i)] [] (lP M 170 26 l3) Q := by
              intro q
              refine s_inc4 _ 175 rfl rfl rfl rfl ?_
              refine s_goto 123 rfl (by decide) ?_
              -- Mod_build 123: end
              rw [inc1]
              refine ih2 (i + 1) l3 (by omega) w1 (fun j hj => ?_)
              rw [w2 j hj]
              constructor
              · rintro ⟨l, u1, u2⟩
                exact ⟨l, by omega, u2⟩
              · rintro ⟨l, u1, u2, u3⟩
                by_cases z : l = i
                · subst z; exact absurd ⟨u2, j, u3⟩ q
                · exact ⟨l, by omega, u2, u3⟩
            have ew := hr i (by omega)
            refine s_iload 125 rfl rfl rfl ?_
            refine s_aload_n 126 rfl rfl rfl ?_
            refine s_getfield 12 3 129 rfl rfl fl_Mod_149 h_this rfl ?_
            refine s_icmp_ge 178 132 rfl rfl (by decide) (fun c4 => ?_) (fun c4 => ?_)
            -- Mod_build 132: branch 178 132
            · exact absurd (nn_le c4) (by omega)
            · refine s_lload_n 133 rfl rfl rfl ?_
              refine s_iload 135 rfl rfl rfl ?_
              refine s_lshr 136 rfl rfl ?_
              refine s_lconst 1 137 rfl rfl (by decide) ?_
              refine s_land 138 rfl rfl ?_
              -- Mod_build 138: end
              rw [l_tst _ (by omega)]
              refine s_lconst 1 139 rfl rfl (by decide) ?_
              refine s_lcmp 140 rfl rfl ?_
              -- Mod_build 140: end
              rw [l_c1]
              refine s_if_ne 172 143 rfl rfl (by decide) (fun c5 => ?_) (fun c5 => ?_)
              -- Mod_build 143: branch 172 143
              · rw [l_c1'] at c5
                exact skip (fun q => c5 q.1)
              · rw [l_c1'] at c5
                refine s_aload_n 144 rfl rfl rfl ?_
                refine s_getfield 12 10 147 rfl rfl fl_Mod_28 h_this rfl ?_
                refine s_iload 149 rfl rfl rfl ?_
                refine s_iaload (i) 150 rfl rfl h_wentTo rfl (by omega) (by decide) ?_
                -- Mod_build 150: end
                rw [ew]
                refine s_iconst (-1) 151 rfl rfl (by decide) ?_
                refine s_icmp_eq 172 154 rfl rfl (by decide) (fun c6 => ?_) (fun c6 => ?_)
                -- Mod_build 154: branch 172 154
                · have e : wt i = none := by
                    cases e : wt i with
                    | none => rfl
                    | some j =>
                      rw [e] at c6
                      exact absurd c6 (nn_m1 (by have := (hJ.2 i (by omega) j e).1; omega))
                  exact skip (fun ⟨_, j, q⟩ => by rw [e] at q; cases q)
                · cases e : wt i with
                  | none => rw [e] at c6; exact absurd rfl c6
                  | some v =>
                    obtain ⟨u1, u2⟩ := hJ.2 i (by omega) v e
                    rw [e] at ew
                    refine s_aload_n 155 rfl rfl rfl ?_
                    refine s_getfield 12 35 158 rfl rfl fl_Mod_88 h_this rfl ?_
                    refine s_iload_n 159 rfl rfl rfl ?_
                    refine s_dup2 160 rfl rfl rfl rfl ?_
                    refine s_laload (k) 161 rfl rfl rfl rfl (by omega) (by decide) ?_
                    refine s_lconst 1 162 rfl rfl (by decide) ?_
                    refine s_aload_n 163 rfl rfl rfl ?_
                    refine s_getfield 12 10 166 rfl rfl fl_Mod_28 h_this rfl ?_
                    refine s_iload 168 rfl rfl rfl ?_
                    refine s_iaload (i) 169 rfl rfl h_wentTo rfl (by omega) (by decide) ?_
                    -- Mod_build 169: end
                    rw [ew]
                    show ax_G g mt_Mod_build h 0 0 169 [.ref 143, .int (nI k), .long (ls k), .float 0, .int (nI i)] [.int (nI v), .long 1, .long (l3 k), .int (nI k), .ref 170] (lP M 170 26 l3) Q
                    refine s_lshl 170 rfl rfl ?_
                    refine s_lor 171 rfl rfl ?_
                    refine s_lastore (k) 172 rfl rfl rfl rfl (by omega) (by decide) ?_
                    refine s_inc4 _ 175 rfl rfl rfl rfl ?_
                    refine s_goto 123 rfl (by decide) ?_
                    -- Mod_build 123: end
                    unfold lP
                    rw [ax_pp, inc1]
                    refine ih2 (i + 1) _ (by omega) (fun j hj => ?_) (fun j hj => ?_)
                    · unfold vp_updL
                      rw [if_neg hj]
                      exact w1 j hj
                    · unfold vp_updL
                      rw [if_pos rfl, l_or, Bool.or_eq_true_iff, w2 j hj, l_one v (by omega) hj, decide_eq_true_eq]
                      constructor
                      · rintro (⟨l, x1, x2⟩ | x)
                        · exact ⟨l, by omega, x2⟩
                        · exact ⟨i, by omega, c5, by rw [e, x]⟩
                      · rintro ⟨l, x1, x2, x3⟩
                        by_cases z : l = i
                        · subst z
                          rw [e] at x3
                          injection x3 with x3
                          exact Or.inr x3.symm
                        · exact Or.inl ⟨l, by omega, x2, x3⟩
        refine inner ln 0 _ (by omega) (fun j hj => ?_) (fun j hj => ?_)
        · unfold vp_updL
          rw [if_neg hj]
        · unfold vp_updL
          rw [if_pos rfl, l_0]
          exact ⟨fun q => (by cases q), fun ⟨l, q, _⟩ => absurd q (Nat.not_lt_zero l)⟩
  have h0 := loop si 0 ls z2 z4 h4 (by omega) (fun j hj => absurd hj (Nat.not_lt_zero j)) (fun j _ => rfl)
  unfold lP at h0
  rw [ax_id h_silenceLines] at h0
  exact h0
end MBD
