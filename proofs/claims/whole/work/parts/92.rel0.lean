/-! the relation at the beginning; all pairs of calls -/
section REL0
variable {g : ax_Y} {M : ax_M}
set_option maxRecDepth 100000 in
theorem r0_sl (w : ∀ k, (k < 184 ∧ k ≠ 23 ∧ k ≠ 75 ∧ k ≠ 76) → M.2 k = wt_[k]?) : ∀ k, k < 13 → sl_ M k 0 0 0 0 0 0 (fun _ => 0) := by
  intro k hk
  match k, hk with
  | 0, _ => exact ⟨(w 30 (by decide)), (w 31 (by decide)), (w 32 (by decide)), by decide⟩
  | 1, _ => exact ⟨(w 33 (by decide)), (w 34 (by decide)), (w 35 (by decide)), by decide⟩
  | 2, _ => exact ⟨(w 36 (by decide)), (w 37 (by decide)), (w 38 (by decide)), by decide⟩
  | 3, _ => exact ⟨(w 39 (by decide)), (w 40 (by decide)), (w 41 (by decide)), by decide⟩
  | 4, _ => exact ⟨(w 42 (by decide)), (w 43 (by decide)), (w 44 (by decide)), by decide⟩
  | 5, _ => exact ⟨(w 45 (by decide)), (w 46 (by decide)), (w 47 (by decide)), by decide⟩
  | 6, _ => exact ⟨(w 48 (by decide)), (w 49 (by decide)), (w 50 (by decide)), by decide⟩
  | 7, _ => exact ⟨(w 51 (by decide)), (w 52 (by decide)), (w 53 (by decide)), by decide⟩
  | 8, _ => exact ⟨(w 54 (by decide)), (w 55 (by decide)), (w 56 (by decide)), by decide⟩
  | 9, _ => exact ⟨(w 57 (by decide)), (w 58 (by decide)), (w 59 (by decide)), by decide⟩
  | 10, _ => exact ⟨(w 60 (by decide)), (w 61 (by decide)), (w 62 (by decide)), by decide⟩
  | 11, _ => exact ⟨(w 63 (by decide)), (w 64 (by decide)), (w 65 (by decide)), by decide⟩
  | 12, _ => exact ⟨(w 66 (by decide)), (w 67 (by decide)), (w 68 (by decide)), by decide⟩
set_option maxRecDepth 100000 in
theorem r0_pa (w : ∀ k, (k < 184 ∧ k ≠ 23 ∧ k ≠ 75 ∧ k ≠ 76) → M.2 k = wt_[k]?) : ∀ k, k < 6 → pt_ M (87 + 4 * k) 0 (fun _ => 0) 0 (fun _ => 0) := by
  intro k hk
  match k, hk with
  | 0, _ => exact ⟨(w 87 (by decide)), (w 88 (by decide)), (w 89 (by decide)), (w 90 (by decide)), by decide⟩
  | 1, _ => exact ⟨(w 91 (by decide)), (w 92 (by decide)), (w 93 (by decide)), (w 94 (by decide)), by decide⟩
  | 2, _ => exact ⟨(w 95 (by decide)), (w 96 (by decide)), (w 97 (by decide)), (w 98 (by decide)), by decide⟩
  | 3, _ => exact ⟨(w 99 (by decide)), (w 100 (by decide)), (w 101 (by decide)), (w 102 (by decide)), by decide⟩
  | 4, _ => exact ⟨(w 103 (by decide)), (w 104 (by decide)), (w 105 (by decide)), (w 106 (by decide)), by decide⟩
  | 5, _ => exact ⟨(w 107 (by decide)), (w 108 (by decide)), (w 109 (by decide)), (w 110 (by decide)), by decide⟩
set_option maxRecDepth 100000 in
theorem r0_pt (w : ∀ k, (k < 184 ∧ k ≠ 23 ∧ k ≠ 75 ∧ k ≠ 76) → M.2 k = wt_[k]?) : ∀ k, k < 8 → pt_ M (111 + 4 * k) 0 (fun _ => 0) 0 (fun _ => 0) := by
  intro k hk
  match k, hk with
  | 0, _ => exact ⟨(w 111 (by decide)), (w 112 (by decide)), (w 113 (by decide)), (w 114 (by decide)), by decide⟩
  | 1, _ => exact ⟨(w 115 (by decide)), (w 116 (by decide)), (w 117 (by decide)), (w 118 (by decide)), by decide⟩
  | 2, _ => exact ⟨(w 119 (by decide)), (w 120 (by decide)), (w 121 (by decide)), (w 122 (by decide)), by decide⟩
  | 3, _ => exact ⟨(w 123 (by decide)), (w 124 (by decide)), (w 125 (by decide)), (w 126 (by decide)), by decide⟩
  | 4, _ => exact ⟨(w 127 (by decide)), (w 128 (by decide)), (w 129 (by decide)), (w 130 (by decide)), by decide⟩
  | 5, _ => exact ⟨(w 131 (by decide)), (w 132 (by decide)), (w 133 (by decide)), (w 134 (by decide)), by decide⟩
  | 6, _ => exact ⟨(w 135 (by decide)), (w 136 (by decide)), (w 137 (by decide)), (w 138 (by decide)), by decide⟩
  | 7, _ => exact ⟨(w 139 (by decide)), (w 140 (by decide)), (w 141 (by decide)), (w 142 (by decide)), by decide⟩
set_option maxRecDepth 100000 in
theorem r0_text (w : ∀ k, (k < 184 ∧ k ≠ 23 ∧ k ≠ 75 ∧ k ≠ 76) → M.2 k = wt_[k]?) : R_text M 0 := ⟨(fun _ => 0), (fun _ => 0), (w 1 (by decide)), (w 2 (by decide)), (w 144 (by decide)), by decide, (fun j hj => absurd hj (Nat.not_lt_zero j))⟩
set_option maxRecDepth 100000 in
theorem r0_out (w : ∀ k, (k < 184 ∧ k ≠ 23 ∧ k ≠ 75 ∧ k ≠ 76) → M.2 k = wt_[k]?) : R_out M 0 := ⟨(fun _ => 0), (fun _ => 0), (w 3 (by decide)), (w 4 (by decide)), (w 182 (by decide)), by decide, (fun j hj => absurd hj (Nat.not_lt_zero j))⟩
set_option maxRecDepth 100000 in
theorem r0_lines (w : ∀ k, (k < 184 ∧ k ≠ 23 ∧ k ≠ 75 ∧ k ≠ 76) → M.2 k = wt_[k]?) : R_lines M 0 0 79 83 := ⟨Or.inl ⟨rfl, rfl⟩, (fun _ => 0), (fun _ => 0), (fun _ => 0), (fun _ => 0), (fun _ => 0), (fun _ => 0), (fun _ => 0), (fun _ => 0), (fun _ => 0), (fun _ => 0), (fun _ => 0), (w 83 (by decide)), (w 84 (by decide)), (w 85 (by decide)), (w 86 (by decide)), (w 79 (by decide)), (w 80 (by decide)), (w 81 (by decide)), (w 82 (by decide)), (w 145 (by decide)), (w 146 (by decide)), (w 147 (by decide)), (w 148 (by decide)), (w 149 (by decide)), by decide, by decide, (fun j hj => absurd hj (Nat.not_lt_zero j)), (fun j hj => absurd hj (Nat.not_lt_zero j))⟩
set_option maxRecDepth 100000 in
theorem r0_alarms (w : ∀ k, (k < 184 ∧ k ≠ 23 ∧ k ≠ 75 ∧ k ≠ 76) → M.2 k = wt_[k]?) : R_alarms M 0 0 0 := ⟨(fun _ => 0), (fun _ => 0), (fun _ => 0), (fun _ => 0), (fun _ => 0), (fun _ => 0), (fun _ => 0), (fun _ => 0), (fun _ => 0), (fun _ => 0), (fun _ => 0), (fun _ => 0), (fun _ => 0), (fun _ => 0), (fun _ => 0), (w 9 (by decide)), (w 10 (by decide)), (w 11 (by decide)), (w 12 (by decide)), (w 13 (by decide)), (w 14 (by decide)), (w 15 (by decide)), (w 78 (by decide)), (w 155 (by decide)), (w 156 (by decide)), (w 157 (by decide)), (w 158 (by decide)), (w 159 (by decide)), (w 160 (by decide)), (w 161 (by decide)), (w 154 (by decide)), by decide, by decide, (fun j hj => absurd hj (Nat.not_lt_zero j)), (fun a b ha => absurd ha (Nat.not_lt_zero a)), (fun b hb => absurd hb (Nat.not_lt_zero _))⟩
set_option maxRecDepth 100000 in
theorem r0_facts (w : ∀ k, (k < 184 ∧ k ≠ 23 ∧ k ≠ 75 ∧ k ≠ 76) → M.2 k = wt_[k]?) : R_facts M 0 0 := ⟨0, (fun _ => 0), (fun _ => 0), (fun _ => 0), (fun _ => 0), (fun _ => 0), (fun _ => 0), (fun _ => 0), (w 16 (by decide)), (w 17 (by decide)), (w 18 (by decide)), (w 19 (by decide)), (w 20 (by decide)), (w 21 (by decide)), (w 162 (by decide)), (w 163 (by decide)), by decide, ⟨0, by decide, rfl⟩, (fun j hj => absurd hj (Nat.not_lt_zero j))⟩
set_option maxRecDepth 100000 in
theorem r0_sil (w : ∀ k, (k < 184 ∧ k ≠ 23 ∧ k ≠ 75 ∧ k ≠ 76) → M.2 k = wt_[k]?) (h23 : wt_r M 23 5 13 30 3) : R_sil M 0 0 := by
  obtain ⟨sl, e1, e2⟩ := h23
  exact ⟨sl, fun k => k, (fun _ => 0), (fun _ => 0), (fun _ => 0), (fun _ => 0), (fun _ => 0), (fun _ => 0), (fun _ => 0), (w 22 (by decide)), e1, fun k hk => ⟨hk, e2 k hk⟩, fun j k _ _ e => e, (w 166 (by decide)), (w 167 (by decide)), (w 168 (by decide)), (w 169 (by decide)), (w 170 (by decide)), (w 171 (by decide)), (w 172 (by decide)), by decide, fun k hk => ⟨0, 0, 0, 0, 0, 0, (fun _ => 0), r0_sl w k hk, fun q => absurd q (Nat.not_lt_zero k)⟩⟩
set_option maxRecDepth 100000 in
theorem r0_own (w : ∀ k, (k < 184 ∧ k ≠ 23 ∧ k ≠ 75 ∧ k ≠ 76) → M.2 k = wt_[k]?) (h75 : wt_r M 75 4 6 87 4) (h76 : wt_r M 76 4 8 111 4) : R_own M 0 := by
  obtain ⟨p1, a1, a2⟩ := h75
  obtain ⟨p2, b1, b2⟩ := h76
  refine ⟨⟨p1, a1, a2⟩, ⟨p2, b1, b2⟩, (fun _ => 0), (fun _ => 0), (fun _ => 0), (fun _ => 0), (fun _ => 0), (fun _ => 0), (w 77 (by decide)), (w 173 (by decide)), (w 174 (by decide)), (w 175 (by decide)), (w 176 (by decide)), (w 177 (by decide)), by decide, fun i hi => ?_, fun i hi => ?_⟩
  · exact ⟨0, (fun _ => 0), 0, (fun _ => 0), r0_pa w i hi, ⟨⟨(fun _ => 0), (fun j hj => absurd hj (Nat.not_lt_zero j)), (fun i j _ hj => absurd hj (Nat.not_lt_zero j)), (fun j hj => absurd hj (Nat.not_lt_zero j))⟩, ⟨Or.inl rfl, fun i _ q => absurd q (Nat.not_lt_zero _)⟩⟩, rfl, (fun j hj => absurd hj (Nat.not_lt_zero j))⟩
  · exact ⟨0, (fun _ => 0), 0, (fun _ => 0), r0_pt w i hi, fun q => absurd q (Nat.not_lt_zero i)⟩
set_option maxRecDepth 100000 in
theorem r0_cho (w : ∀ k, (k < 184 ∧ k ≠ 23 ∧ k ≠ 75 ∧ k ≠ 76) → M.2 k = wt_[k]?) : R_cho M 0 := ⟨0, (fun _ => 0), (fun _ => 0), (fun _ => 0), (fun _ => 0), (w 69 (by decide)), (w 70 (by decide)), (w 71 (by decide)), (w 72 (by decide)), (w 180 (by decide)), by decide, (fun j hj => absurd hj (Nat.not_lt_zero j))⟩
set_option maxRecDepth 100000 in
theorem r0_scr (w : ∀ k, (k < 184 ∧ k ≠ 23 ∧ k ≠ 75 ∧ k ≠ 76) → M.2 k = wt_[k]?) : R_scr M := ⟨⟨0, 0, (w 5 (by decide))⟩, ⟨(fun _ => 0), (w 6 (by decide))⟩, ⟨(fun _ => 0), (w 7 (by decide))⟩, ⟨(fun _ => 0), (w 8 (by decide))⟩, ⟨0, 0, (w 24 (by decide))⟩, ⟨0, by decide, (w 25 (by decide))⟩, ⟨(fun _ => 0), (w 26 (by decide))⟩, ⟨(fun _ => 0), (w 27 (by decide))⟩, ⟨(fun _ => 0), (w 28 (by decide))⟩, ⟨(fun _ => 0), (w 29 (by decide))⟩, ⟨0, (w 73 (by decide))⟩, ⟨(fun _ => 0), (w 74 (by decide))⟩, ⟨(fun _ => 0), (w 150 (by decide))⟩, ⟨(fun _ => 0), (w 151 (by decide))⟩, ⟨(fun _ => 0), (w 152 (by decide))⟩, ⟨(fun _ => 0), (w 153 (by decide))⟩, ⟨(fun _ => 0), (w 164 (by decide))⟩, ⟨(fun _ => 0), (w 165 (by decide))⟩, ⟨(fun _ => 0), (w 178 (by decide))⟩, ⟨(fun _ => 0), (w 179 (by decide))⟩, ⟨(fun _ => 0), (w 181 (by decide))⟩, ⟨(fun _ => 0), (w 183 (by decide))⟩⟩
set_option maxRecDepth 100000 in
theorem Rel_init (hq : wt_q M 0 184) (h23 : wt_r M 23 5 13 30 3) (h75 : wt_r M 75 4 6 87 4) (h76 : wt_r M 76 4 8 111 4) : Rel g M := by
  have w : ∀ k, (k < 184 ∧ k ≠ 23 ∧ k ≠ 75 ∧ k ≠ 76) → M.2 k = wt_[k]? := fun k hk => hq k hk.1 (Nat.zero_le k) hk.2.1 hk.2.2.1 hk.2.2.2
  exact ⟨0, 0, 0, 0, 0, 0, 0, 0, 0, 0, 79, 83, 0, 0, 0, 0, 0, 0, 0, 0, (w 0 (by decide)), (w 143 (by decide)), r0_text w, r0_lines w, r0_alarms w, r0_facts w, r0_sil w h23, r0_own w h75 h76, r0_out w, r0_cho w, r0_scr w, fun _ => rfl⟩
theorem BA_all : BA g (Rel g) := ⟨both_feed, both_cut, both_line, both_build, both_partner, both_alarm, both_of, both_why, both_rule, fun a b _ => both_prove a b, both_known, both_closes, both_groups, both_group, both_silence, both_silent, both_held, both_reason, both_lift, both_path, both_pattern, both_owner, both_rank, both_budget, both_chosen, both_compare, both_trend, both_out, both_outByte, both_back, both_read, both_count⟩
end REL0
theorem whole_start {p : Program} {e : Env} {s : State} {m : MethodId} {below : List Frame} {meth : Method} {c : Code} (l : Launch) {b L : Nat} {xs : Nat → Int32} (hL : L ≤ 3072) (C0 : lw_At p s m meth c b L xs) : W p l e room_1 s m #[Value.ref b] below meth c s.heap [] 0 0 (lw_Z below #[Value.ref b] s) (entryFrame m ([Value.ref b] : List Value).toArray 4) := whole_of Rel (fun _ _ q => Rel_0 q) (fun _ => BA_all) (fun _ _ _ h1 h2 h3 h4 => Rel_init h1 h2 h3 h4) l hL C0
