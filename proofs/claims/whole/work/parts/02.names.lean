def R_Alarms : String := "AlarmGroups$Alarms"
def F_Alarms : u_T := fun k => match k with
  | 0 => ("AlarmGroups$Alarms", "line", "[I", true)
  | 1 => ("AlarmGroups$Alarms", "kind", "[I", true)
  | 2 => ("AlarmGroups$Alarms", "wants", "[I", true)
  | 3 => ("AlarmGroups$Alarms", "p", "[I", true)
  | 4 => ("AlarmGroups$Alarms", "q", "[I", true)
  | 5 => ("AlarmGroups$Alarms", "state", "[I", true)
  | _ => ("AlarmGroups$Alarms", "size", "I", false)
def t_Alarms : Nat → FieldType := fun k => match k with
  | 0 => .array .int
  | 1 => .array .int
  | 2 => .array .int
  | 3 => .array .int
  | 4 => .array .int
  | 5 => .array .int
  | _ => .int
theorem n_Alarms : ∀ a, a < 7 → ∀ b, b < 7 → a ≠ b → (F_Alarms a).2.1 ≠ (F_Alarms b).2.1 := by decide +kernel
theorem t_Alarms_ok : ∀ k, k < 7 → parseFieldDescriptor (F_Alarms k).2.2.1 = some (t_Alarms k) := by decide +kernel
theorem i_Alarms : ∀ w ∈ u_ws R_Alarms F_Alarms 7, w ∈ lw_tbl := by decide +kernel
def R_Facts : String := "AlarmGroups$Facts"
def F_Facts : u_T := fun k => match k with
  | 0 => ("AlarmGroups$Facts", "groupFact", "[I", true)
  | 1 => ("AlarmGroups$Facts", "groupSet", "[J", true)
  | 2 => ("AlarmGroups$Facts", "groupCount", "I", false)
  | 3 => ("AlarmGroups$Facts", "rules", "I", false)
  | 4 => ("AlarmGroups$Facts", "ruleSet", "[I", true)
  | 5 => ("AlarmGroups$Facts", "ruleHead", "[I", true)
  | 6 => ("AlarmGroups$Facts", "trials", "[J", true)
  | _ => ("AlarmGroups$Facts", "proved", "I", false)
def t_Facts : Nat → FieldType := fun k => match k with
  | 0 => .array .int
  | 1 => .array .long
  | 2 => .int
  | 3 => .int
  | 4 => .array .int
  | 5 => .array .int
  | 6 => .array .long
  | _ => .int
theorem n_Facts : ∀ a, a < 8 → ∀ b, b < 8 → a ≠ b → (F_Facts a).2.1 ≠ (F_Facts b).2.1 := by decide +kernel
theorem t_Facts_ok : ∀ k, k < 8 → parseFieldDescriptor (F_Facts k).2.2.1 = some (t_Facts k) := by decide +kernel
theorem i_Facts : ∀ w ∈ u_ws R_Facts F_Facts 8, w ∈ lw_tbl := by decide +kernel
def R_Lines : String := "AlarmGroups$Lines"
def F_Lines : u_T := fun k => match k with
  | 0 => ("AlarmGroups$Lines", "file", "[I", true)
  | 1 => ("AlarmGroups$Lines", "mark", "[I", true)
  | 2 => ("AlarmGroups$Lines", "before", "[I", true)
  | _ => ("AlarmGroups$Lines", "size", "I", false)
def t_Lines : Nat → FieldType := fun k => match k with
  | 0 => .array .int
  | 1 => .array .int
  | 2 => .array .int
  | _ => .int
theorem n_Lines : ∀ a, a < 4 → ∀ b, b < 4 → a ≠ b → (F_Lines a).2.1 ≠ (F_Lines b).2.1 := by decide +kernel
theorem t_Lines_ok : ∀ k, k < 4 → parseFieldDescriptor (F_Lines k).2.2.1 = some (t_Lines k) := by decide +kernel
theorem i_Lines : ∀ w ∈ u_ws R_Lines F_Lines 4, w ∈ lw_tbl := by decide +kernel
def R_Lists : String := "AlarmGroups$Lists"
def F_Lists : u_T := fun k => match k with
  | 0 => ("AlarmGroups$Lists", "values", "[I", true)
  | _ => ("AlarmGroups$Lists", "place", "I", false)
def t_Lists : Nat → FieldType := fun k => match k with
  | 0 => .array .int
  | _ => .int
theorem n_Lists : ∀ a, a < 2 → ∀ b, b < 2 → a ≠ b → (F_Lists a).2.1 ≠ (F_Lists b).2.1 := by decide +kernel
theorem t_Lists_ok : ∀ k, k < 2 → parseFieldDescriptor (F_Lists k).2.2.1 = some (t_Lists k) := by decide +kernel
theorem i_Lists : ∀ w ∈ u_ws R_Lists F_Lists 2, w ∈ lw_tbl := by decide +kernel
def R_Matching : String := "AlarmGroups$Matching"
def F_Matching : u_T := fun k => match k with
  | 0 => ("AlarmGroups$Matching", "older", "[I", true)
  | 1 => ("AlarmGroups$Matching", "newer", "[I", true)
  | 2 => ("AlarmGroups$Matching", "most", "[I", true)
  | 3 => ("AlarmGroups$Matching", "olders", "I", false)
  | _ => ("AlarmGroups$Matching", "newers", "I", false)
def t_Matching : Nat → FieldType := fun k => match k with
  | 0 => .array .int
  | 1 => .array .int
  | 2 => .array .int
  | 3 => .int
  | _ => .int
theorem n_Matching : ∀ a, a < 5 → ∀ b, b < 5 → a ≠ b → (F_Matching a).2.1 ≠ (F_Matching b).2.1 := by decide +kernel
theorem t_Matching_ok : ∀ k, k < 5 → parseFieldDescriptor (F_Matching k).2.2.1 = some (t_Matching k) := by decide +kernel
theorem i_Matching : ∀ w ∈ u_ws R_Matching F_Matching 5, w ∈ lw_tbl := by decide +kernel
def R_Parts : String := "AlarmGroups$Parts"
def F_Parts : u_T := fun k => match k with
  | 0 => ("AlarmGroups$Parts", "bytes", "LAlarmGroups$Row;", true)
  | 1 => ("AlarmGroups$Parts", "starts", "[I", true)
  | _ => ("AlarmGroups$Parts", "parts", "I", false)
def t_Parts : Nat → FieldType := fun k => match k with
  | 0 => .object "AlarmGroups$Row"
  | 1 => .array .int
  | _ => .int
theorem n_Parts : ∀ a, a < 3 → ∀ b, b < 3 → a ≠ b → (F_Parts a).2.1 ≠ (F_Parts b).2.1 := by decide +kernel
theorem t_Parts_ok : ∀ k, k < 3 → parseFieldDescriptor (F_Parts k).2.2.1 = some (t_Parts k) := by decide +kernel
theorem i_Parts : ∀ w ∈ u_ws R_Parts F_Parts 3, w ∈ lw_tbl := by decide +kernel
def R_Ranks : String := "AlarmGroups$Ranks"
def F_Ranks : u_T := fun k => match k with
  | 0 => ("AlarmGroups$Ranks", "row", "[I", true)
  | 1 => ("AlarmGroups$Ranks", "chosenRow", "[I", true)
  | 2 => ("AlarmGroups$Ranks", "size", "I", false)
  | 3 => ("AlarmGroups$Ranks", "chosenSize", "I", false)
  | _ => ("AlarmGroups$Ranks", "perFile", "[I", true)
def t_Ranks : Nat → FieldType := fun k => match k with
  | 0 => .array .int
  | 1 => .array .int
  | 2 => .int
  | 3 => .int
  | _ => .array .int
theorem n_Ranks : ∀ a, a < 5 → ∀ b, b < 5 → a ≠ b → (F_Ranks a).2.1 ≠ (F_Ranks b).2.1 := by decide +kernel
theorem t_Ranks_ok : ∀ k, k < 5 → parseFieldDescriptor (F_Ranks k).2.2.1 = some (t_Ranks k) := by decide +kernel
theorem i_Ranks : ∀ w ∈ u_ws R_Ranks F_Ranks 5, w ∈ lw_tbl := by decide +kernel
def R_Row : String := "AlarmGroups$Row"
def F_Row : u_T := fun k => match k with
  | 0 => ("AlarmGroups$Row", "bytes", "[B", true)
  | _ => ("AlarmGroups$Row", "size", "I", false)
def t_Row : Nat → FieldType := fun k => match k with
  | 0 => .array .byte
  | _ => .int
theorem n_Row : ∀ a, a < 2 → ∀ b, b < 2 → a ≠ b → (F_Row a).2.1 ≠ (F_Row b).2.1 := by decide +kernel
theorem t_Row_ok : ∀ k, k < 2 → parseFieldDescriptor (F_Row k).2.2.1 = some (t_Row k) := by decide +kernel
theorem i_Row : ∀ w ∈ u_ws R_Row F_Row 2, w ∈ lw_tbl := by decide +kernel
def R_Silence : String := "AlarmGroups$Silence"
def F_Silence : u_T := fun k => match k with
  | 0 => ("AlarmGroups$Silence", "until", "I", false)
  | 1 => ("AlarmGroups$Silence", "kind", "I", false)
  | 2 => ("AlarmGroups$Silence", "form", "I", false)
  | 3 => ("AlarmGroups$Silence", "file", "I", false)
  | 4 => ("AlarmGroups$Silence", "lines", "J", false)
  | _ => ("AlarmGroups$Silence", "words", "LAlarmGroups$Row;", true)
def t_Silence : Nat → FieldType := fun k => match k with
  | 0 => .int
  | 1 => .int
  | 2 => .int
  | 3 => .int
  | 4 => .long
  | _ => .object "AlarmGroups$Row"
theorem n_Silence : ∀ a, a < 6 → ∀ b, b < 6 → a ≠ b → (F_Silence a).2.1 ≠ (F_Silence b).2.1 := by decide +kernel
theorem t_Silence_ok : ∀ k, k < 6 → parseFieldDescriptor (F_Silence k).2.2.1 = some (t_Silence k) := by decide +kernel
theorem i_Silence : ∀ w ∈ u_ws R_Silence F_Silence 6, w ∈ lw_tbl := by decide +kernel
def R_Silences : String := "AlarmGroups$Silences"
def F_Silences : u_T := fun k => match k with
  | 0 => ("AlarmGroups$Silences", "slots", "[LAlarmGroups$Silence;", true)
  | 1 => ("AlarmGroups$Silences", "size", "I", false)
  | _ => ("AlarmGroups$Silences", "tokens", "LAlarmGroups$Tokens;", true)
def t_Silences : Nat → FieldType := fun k => match k with
  | 0 => .array (.object "AlarmGroups$Silence")
  | 1 => .int
  | _ => .object "AlarmGroups$Tokens"
theorem n_Silences : ∀ a, a < 3 → ∀ b, b < 3 → a ≠ b → (F_Silences a).2.1 ≠ (F_Silences b).2.1 := by decide +kernel
theorem t_Silences_ok : ∀ k, k < 3 → parseFieldDescriptor (F_Silences k).2.2.1 = some (t_Silences k) := by decide +kernel
theorem i_Silences : ∀ w ∈ u_ws R_Silences F_Silences 3, w ∈ lw_tbl := by decide +kernel
def R_Tokens : String := "AlarmGroups$Tokens"
def F_Tokens : u_T := fun k => match k with
  | 0 => ("AlarmGroups$Tokens", "text", "LAlarmGroups$Row;", true)
  | 1 => ("AlarmGroups$Tokens", "sorts", "[I", true)
  | 2 => ("AlarmGroups$Tokens", "starts", "[I", true)
  | 3 => ("AlarmGroups$Tokens", "ends", "[I", true)
  | 4 => ("AlarmGroups$Tokens", "size", "I", false)
  | _ => ("AlarmGroups$Tokens", "next", "I", false)
def t_Tokens : Nat → FieldType := fun k => match k with
  | 0 => .object "AlarmGroups$Row"
  | 1 => .array .int
  | 2 => .array .int
  | 3 => .array .int
  | 4 => .int
  | _ => .int
theorem n_Tokens : ∀ a, a < 6 → ∀ b, b < 6 → a ≠ b → (F_Tokens a).2.1 ≠ (F_Tokens b).2.1 := by decide +kernel
theorem t_Tokens_ok : ∀ k, k < 6 → parseFieldDescriptor (F_Tokens k).2.2.1 = some (t_Tokens k) := by decide +kernel
theorem i_Tokens : ∀ w ∈ u_ws R_Tokens F_Tokens 6, w ∈ lw_tbl := by decide +kernel
def R_Top : String := "AlarmGroups"
def F_Top : u_T := fun k => match k with
  | 0 => ("AlarmGroups", "text", "LAlarmGroups$Row;", true)
  | 1 => ("AlarmGroups", "list", "LAlarmGroups$Row;", true)
  | 2 => ("AlarmGroups", "matching", "LAlarmGroups$Matching;", true)
  | 3 => ("AlarmGroups", "alarms", "LAlarmGroups$Alarms;", true)
  | 4 => ("AlarmGroups", "facts", "LAlarmGroups$Facts;", true)
  | 5 => ("AlarmGroups", "silences", "LAlarmGroups$Silences;", true)
  | 6 => ("AlarmGroups", "ranks", "LAlarmGroups$Ranks;", true)
  | 7 => ("AlarmGroups", "lists", "LAlarmGroups$Lists;", true)
  | 8 => ("AlarmGroups", "paths", "[LAlarmGroups$Parts;", true)
  | 9 => ("AlarmGroups", "patterns", "[LAlarmGroups$Parts;", true)
  | 10 => ("AlarmGroups", "patternOwners", "[I", true)
  | 11 => ("AlarmGroups", "past", "[J", true)
  | 12 => ("AlarmGroups", "draft", "LAlarmGroups$Lines;", false)
  | 13 => ("AlarmGroups", "now", "LAlarmGroups$Lines;", false)
  | 14 => ("AlarmGroups", "builds", "I", false)
  | _ => ("AlarmGroups", "patternCount", "I", false)
def t_Top : Nat → FieldType := fun k => match k with
  | 0 => .object "AlarmGroups$Row"
  | 1 => .object "AlarmGroups$Row"
  | 2 => .object "AlarmGroups$Matching"
  | 3 => .object "AlarmGroups$Alarms"
  | 4 => .object "AlarmGroups$Facts"
  | 5 => .object "AlarmGroups$Silences"
  | 6 => .object "AlarmGroups$Ranks"
  | 7 => .object "AlarmGroups$Lists"
  | 8 => .array (.object "AlarmGroups$Parts")
  | 9 => .array (.object "AlarmGroups$Parts")
  | 10 => .array .int
  | 11 => .array .long
  | 12 => .object "AlarmGroups$Lines"
  | 13 => .object "AlarmGroups$Lines"
  | 14 => .int
  | _ => .int
theorem n_Top : ∀ a, a < 16 → ∀ b, b < 16 → a ≠ b → (F_Top a).2.1 ≠ (F_Top b).2.1 := by decide +kernel
theorem t_Top_ok : ∀ k, k < 16 → parseFieldDescriptor (F_Top k).2.2.1 = some (t_Top k) := by decide +kernel
theorem i_Top : ∀ w ∈ u_ws R_Top F_Top 16, w ∈ lw_tbl := by decide +kernel
def R_Mod : String := "AlarmGroupsModel"
def F_Mod : u_T := fun k => match k with
  | 0 => ("AlarmGroupsModel", "text", "[I", true)
  | 1 => ("AlarmGroupsModel", "size", "I", false)
  | 2 => ("AlarmGroupsModel", "builds", "I", false)
  | 3 => ("AlarmGroupsModel", "lines", "I", false)
  | 4 => ("AlarmGroupsModel", "fileOf", "[I", true)
  | 5 => ("AlarmGroupsModel", "markOf", "[I", true)
  | 6 => ("AlarmGroupsModel", "partnerOf", "[I", true)
  | 7 => ("AlarmGroupsModel", "drafted", "I", false)
  | 8 => ("AlarmGroupsModel", "draftFile", "[I", true)
  | 9 => ("AlarmGroupsModel", "draftMark", "[I", true)
  | 10 => ("AlarmGroupsModel", "wentTo", "[I", true)
  | 11 => ("AlarmGroupsModel", "olds", "[I", true)
  | 12 => ("AlarmGroupsModel", "news", "[I", true)
  | 13 => ("AlarmGroupsModel", "most", "[I", true)
  | 14 => ("AlarmGroupsModel", "trends", "[I", true)
  | 15 => ("AlarmGroupsModel", "alarms", "I", false)
  | 16 => ("AlarmGroupsModel", "lineOf", "[I", true)
  | 17 => ("AlarmGroupsModel", "kindOf", "[I", true)
  | 18 => ("AlarmGroupsModel", "wants", "[I", true)
  | 19 => ("AlarmGroupsModel", "above", "[I", true)
  | 20 => ("AlarmGroupsModel", "below", "[I", true)
  | 21 => ("AlarmGroupsModel", "state", "[I", true)
  | 22 => ("AlarmGroupsModel", "ofBuilds", "[I", true)
  | 23 => ("AlarmGroupsModel", "rules", "I", false)
  | 24 => ("AlarmGroupsModel", "ruleSet", "[I", true)
  | 25 => ("AlarmGroupsModel", "ruleHead", "[I", true)
  | 26 => ("AlarmGroupsModel", "proved", "I", false)
  | 27 => ("AlarmGroupsModel", "groupOf", "[I", true)
  | 28 => ("AlarmGroupsModel", "factOf", "[I", true)
  | 29 => ("AlarmGroupsModel", "groupMany", "I", false)
  | 30 => ("AlarmGroupsModel", "silences", "I", false)
  | 31 => ("AlarmGroupsModel", "until", "[I", true)
  | 32 => ("AlarmGroupsModel", "silenceKind", "[I", true)
  | 33 => ("AlarmGroupsModel", "where", "[I", true)
  | 34 => ("AlarmGroupsModel", "silenceFile", "[I", true)
  | 35 => ("AlarmGroupsModel", "silenceLines", "[J", true)
  | 36 => ("AlarmGroupsModel", "reasonSize", "[I", true)
  | 37 => ("AlarmGroupsModel", "reasons", "[I", true)
  | 38 => ("AlarmGroupsModel", "token", "I", false)
  | 39 => ("AlarmGroupsModel", "place", "I", false)
  | 40 => ("AlarmGroupsModel", "behind", "I", false)
  | 41 => ("AlarmGroupsModel", "value", "J", false)
  | 42 => ("AlarmGroupsModel", "isWrong", "Z", false)
  | 43 => ("AlarmGroupsModel", "paths", "[I", true)
  | 44 => ("AlarmGroupsModel", "pathSize", "[I", true)
  | 45 => ("AlarmGroupsModel", "patterns", "I", false)
  | 46 => ("AlarmGroupsModel", "pattern", "[I", true)
  | 47 => ("AlarmGroupsModel", "patternSize", "[I", true)
  | 48 => ("AlarmGroupsModel", "ownerOfPattern", "[I", true)
  | 49 => ("AlarmGroupsModel", "fits", "[Z", true)
  | 50 => ("AlarmGroupsModel", "order", "[I", true)
  | 51 => ("AlarmGroupsModel", "ordered", "I", false)
  | 52 => ("AlarmGroupsModel", "chosen", "[I", true)
  | 53 => ("AlarmGroupsModel", "chosenMany", "I", false)
  | 54 => ("AlarmGroupsModel", "ofFile", "[I", true)
  | 55 => ("AlarmGroupsModel", "out", "[I", true)
  | 56 => ("AlarmGroupsModel", "outSize", "I", false)
  | _ => ("AlarmGroupsModel", "four", "[I", true)
def t_Mod : Nat → FieldType := fun k => match k with
  | 0 => .array .int
  | 1 => .int
  | 2 => .int
  | 3 => .int
  | 4 => .array .int
  | 5 => .array .int
  | 6 => .array .int
  | 7 => .int
  | 8 => .array .int
  | 9 => .array .int
  | 10 => .array .int
  | 11 => .array .int
  | 12 => .array .int
  | 13 => .array .int
  | 14 => .array .int
  | 15 => .int
  | 16 => .array .int
  | 17 => .array .int
  | 18 => .array .int
  | 19 => .array .int
  | 20 => .array .int
  | 21 => .array .int
  | 22 => .array .int
  | 23 => .int
  | 24 => .array .int
  | 25 => .array .int
  | 26 => .int
  | 27 => .array .int
  | 28 => .array .int
  | 29 => .int
  | 30 => .int
  | 31 => .array .int
  | 32 => .array .int
  | 33 => .array .int
  | 34 => .array .int
  | 35 => .array .long
  | 36 => .array .int
  | 37 => .array .int
  | 38 => .int
  | 39 => .int
  | 40 => .int
  | 41 => .long
  | 42 => .boolean
  | 43 => .array .int
  | 44 => .array .int
  | 45 => .int
  | 46 => .array .int
  | 47 => .array .int
  | 48 => .array .int
  | 49 => .array .boolean
  | 50 => .array .int
  | 51 => .int
  | 52 => .array .int
  | 53 => .int
  | 54 => .array .int
  | 55 => .array .int
  | 56 => .int
  | _ => .array .int
theorem n_Mod : ∀ a, a < 58 → ∀ b, b < 58 → a ≠ b → (F_Mod a).2.1 ≠ (F_Mod b).2.1 := by decide +kernel
theorem t_Mod_ok : ∀ k, k < 58 → parseFieldDescriptor (F_Mod k).2.2.1 = some (t_Mod k) := by decide +kernel
theorem i_Mod : ∀ w ∈ u_ws R_Mod F_Mod 58, w ∈ lw_tbl := by decide +kernel
/-- the classes whose objects the worlds hold -/
def ax_cl : List vw_C := [(R_Alarms, F_Alarms, 7), (R_Facts, F_Facts, 8), (R_Lines, F_Lines, 4), (R_Lists, F_Lists, 2), (R_Matching, F_Matching, 5), (R_Parts, F_Parts, 3), (R_Ranks, F_Ranks, 5), (R_Row, F_Row, 2), (R_Silence, F_Silence, 6), (R_Silences, F_Silences, 3), (R_Tokens, F_Tokens, 6), (R_Top, F_Top, 16), (R_Mod, F_Mod, 58)]
/-- the arrays, by tags: 0 int, 1 byte, 2 boolean, 3 long, 4 Parts, 5 Silence -/
def ax_ty : List FieldType := [.int, .byte, .boolean, .long, .object "AlarmGroups$Parts", .object "AlarmGroups$Silence"]
def ax_tbl : List Cond := lw_tbl.filter goodWord
theorem ax_in {w : Cond} (h : w ∈ lw_tbl) (hg : goodWord w = true) : w ∈ ax_tbl := List.mem_filter.mpr ⟨h, hg⟩
theorem ax_at {w : Cond} (i : Nat) (h : lw_tbl[i]? = some w) (hg : goodWord w = true) : w ∈ ax_tbl := ax_in (List.mem_of_getElem? h) hg
/-- what a class of the list is: its words stand in the tables, its fields have types and names of their own -/
def ax_ck (q : vw_C) : Prop := (∀ w ∈ u_ws q.1 q.2.1 q.2.2, w ∈ ax_tbl) ∧ (∃ ty : Nat → FieldType, ∀ k, k < q.2.2 → parseFieldDescriptor (q.2.1 k).2.2.1 = some (ty k)) ∧ (∀ a, a < q.2.2 → ∀ b, b < q.2.2 → a ≠ b → (q.2.1 a).2.1 ≠ (q.2.1 b).2.1)
theorem ax_uws {C : String} {T : u_T} {N : Nat} (h : ∀ w ∈ u_ws C T N, w ∈ lw_tbl) : ∀ w ∈ u_ws C T N, w ∈ ax_tbl := by
  intro w hw
  refine ax_in (h w hw) ?_
  obtain ⟨k, -, rfl⟩ := List.mem_map.mp hw
  unfold u_lay
  split <;> rfl
theorem ax_cks : ∀ (ci : Nat) (q : vw_C), ax_cl[ci]? = some q → ax_ck q := by
  intro ci q h
  match ci, h with
  | 0, h => cases h; exact ⟨ax_uws i_Alarms, ⟨t_Alarms, t_Alarms_ok⟩, n_Alarms⟩
  | 1, h => cases h; exact ⟨ax_uws i_Facts, ⟨t_Facts, t_Facts_ok⟩, n_Facts⟩
  | 2, h => cases h; exact ⟨ax_uws i_Lines, ⟨t_Lines, t_Lines_ok⟩, n_Lines⟩
  | 3, h => cases h; exact ⟨ax_uws i_Lists, ⟨t_Lists, t_Lists_ok⟩, n_Lists⟩
  | 4, h => cases h; exact ⟨ax_uws i_Matching, ⟨t_Matching, t_Matching_ok⟩, n_Matching⟩
  | 5, h => cases h; exact ⟨ax_uws i_Parts, ⟨t_Parts, t_Parts_ok⟩, n_Parts⟩
  | 6, h => cases h; exact ⟨ax_uws i_Ranks, ⟨t_Ranks, t_Ranks_ok⟩, n_Ranks⟩
  | 7, h => cases h; exact ⟨ax_uws i_Row, ⟨t_Row, t_Row_ok⟩, n_Row⟩
  | 8, h => cases h; exact ⟨ax_uws i_Silence, ⟨t_Silence, t_Silence_ok⟩, n_Silence⟩
  | 9, h => cases h; exact ⟨ax_uws i_Silences, ⟨t_Silences, t_Silences_ok⟩, n_Silences⟩
  | 10, h => cases h; exact ⟨ax_uws i_Tokens, ⟨t_Tokens, t_Tokens_ok⟩, n_Tokens⟩
  | 11, h => cases h; exact ⟨ax_uws i_Top, ⟨t_Top, t_Top_ok⟩, n_Top⟩
  | 12, h => cases h; exact ⟨ax_uws i_Mod, ⟨t_Mod, t_Mod_ok⟩, n_Mod⟩
  | n + 13, h => simp [ax_cl] at h
