/-! ===== what a change of one field leaves of another ===== -/
theorem MS.g_made_made (S : MS) (v : Nat → Int32) : (S.s_made v).made = v := rfl
theorem MS.g_madeLength_made (S : MS) (v : Nat → Int32) : (S.s_made v).madeLength = S.madeLength := rfl
theorem MS.g_host_made (S : MS) (v : Nat → Int32) : (S.s_made v).host = S.host := rfl
theorem MS.g_hostLength_made (S : MS) (v : Nat → Int32) : (S.s_made v).hostLength = S.hostLength := rfl
theorem MS.g_path_made (S : MS) (v : Nat → Int32) : (S.s_made v).path = S.path := rfl
theorem MS.g_pathLength_made (S : MS) (v : Nat → Int32) : (S.s_made v).pathLength = S.pathLength := rfl
theorem MS.g_query_made (S : MS) (v : Nat → Int32) : (S.s_made v).query = S.query := rfl
theorem MS.g_queryLength_made (S : MS) (v : Nat → Int32) : (S.s_made v).queryLength = S.queryLength := rfl
theorem MS.g_neat_made (S : MS) (v : Nat → Int32) : (S.s_made v).neat = S.neat := rfl
theorem MS.g_marks_made (S : MS) (v : Nat → Int32) : (S.s_made v).marks = S.marks := rfl
theorem MS.g_made_madeLength (S : MS) (v : Nat) : (S.s_madeLength v).made = S.made := rfl
theorem MS.g_madeLength_madeLength (S : MS) (v : Nat) : (S.s_madeLength v).madeLength = v := rfl
theorem MS.g_host_madeLength (S : MS) (v : Nat) : (S.s_madeLength v).host = S.host := rfl
theorem MS.g_hostLength_madeLength (S : MS) (v : Nat) : (S.s_madeLength v).hostLength = S.hostLength := rfl
theorem MS.g_path_madeLength (S : MS) (v : Nat) : (S.s_madeLength v).path = S.path := rfl
theorem MS.g_pathLength_madeLength (S : MS) (v : Nat) : (S.s_madeLength v).pathLength = S.pathLength := rfl
theorem MS.g_query_madeLength (S : MS) (v : Nat) : (S.s_madeLength v).query = S.query := rfl
theorem MS.g_queryLength_madeLength (S : MS) (v : Nat) : (S.s_madeLength v).queryLength = S.queryLength := rfl
theorem MS.g_neat_madeLength (S : MS) (v : Nat) : (S.s_madeLength v).neat = S.neat := rfl
theorem MS.g_marks_madeLength (S : MS) (v : Nat) : (S.s_madeLength v).marks = S.marks := rfl
theorem MS.g_made_host (S : MS) (v : Nat → Int32) : (S.s_host v).made = S.made := rfl
theorem MS.g_madeLength_host (S : MS) (v : Nat → Int32) : (S.s_host v).madeLength = S.madeLength := rfl
theorem MS.g_host_host (S : MS) (v : Nat → Int32) : (S.s_host v).host = v := rfl
theorem MS.g_hostLength_host (S : MS) (v : Nat → Int32) : (S.s_host v).hostLength = S.hostLength := rfl
theorem MS.g_path_host (S : MS) (v : Nat → Int32) : (S.s_host v).path = S.path := rfl
theorem MS.g_pathLength_host (S : MS) (v : Nat → Int32) : (S.s_host v).pathLength = S.pathLength := rfl
theorem MS.g_query_host (S : MS) (v : Nat → Int32) : (S.s_host v).query = S.query := rfl
theorem MS.g_queryLength_host (S : MS) (v : Nat → Int32) : (S.s_host v).queryLength = S.queryLength := rfl
theorem MS.g_neat_host (S : MS) (v : Nat → Int32) : (S.s_host v).neat = S.neat := rfl
theorem MS.g_marks_host (S : MS) (v : Nat → Int32) : (S.s_host v).marks = S.marks := rfl
theorem MS.g_made_hostLength (S : MS) (v : Nat) : (S.s_hostLength v).made = S.made := rfl
theorem MS.g_madeLength_hostLength (S : MS) (v : Nat) : (S.s_hostLength v).madeLength = S.madeLength := rfl
theorem MS.g_host_hostLength (S : MS) (v : Nat) : (S.s_hostLength v).host = S.host := rfl
theorem MS.g_hostLength_hostLength (S : MS) (v : Nat) : (S.s_hostLength v).hostLength = v := rfl
theorem MS.g_path_hostLength (S : MS) (v : Nat) : (S.s_hostLength v).path = S.path := rfl
theorem MS.g_pathLength_hostLength (S : MS) (v : Nat) : (S.s_hostLength v).pathLength = S.pathLength := rfl
theorem MS.g_query_hostLength (S : MS) (v : Nat) : (S.s_hostLength v).query = S.query := rfl
theorem MS.g_queryLength_hostLength (S : MS) (v : Nat) : (S.s_hostLength v).queryLength = S.queryLength := rfl
theorem MS.g_neat_hostLength (S : MS) (v : Nat) : (S.s_hostLength v).neat = S.neat := rfl
theorem MS.g_marks_hostLength (S : MS) (v : Nat) : (S.s_hostLength v).marks = S.marks := rfl
theorem MS.g_made_path (S : MS) (v : Nat → Int32) : (S.s_path v).made = S.made := rfl
theorem MS.g_madeLength_path (S : MS) (v : Nat → Int32) : (S.s_path v).madeLength = S.madeLength := rfl
theorem MS.g_host_path (S : MS) (v : Nat → Int32) : (S.s_path v).host = S.host := rfl
theorem MS.g_hostLength_path (S : MS) (v : Nat → Int32) : (S.s_path v).hostLength = S.hostLength := rfl
theorem MS.g_path_path (S : MS) (v : Nat → Int32) : (S.s_path v).path = v := rfl
theorem MS.g_pathLength_path (S : MS) (v : Nat → Int32) : (S.s_path v).pathLength = S.pathLength := rfl
theorem MS.g_query_path (S : MS) (v : Nat → Int32) : (S.s_path v).query = S.query := rfl
theorem MS.g_queryLength_path (S : MS) (v : Nat → Int32) : (S.s_path v).queryLength = S.queryLength := rfl
theorem MS.g_neat_path (S : MS) (v : Nat → Int32) : (S.s_path v).neat = S.neat := rfl
theorem MS.g_marks_path (S : MS) (v : Nat → Int32) : (S.s_path v).marks = S.marks := rfl
theorem MS.g_made_pathLength (S : MS) (v : Nat) : (S.s_pathLength v).made = S.made := rfl
theorem MS.g_madeLength_pathLength (S : MS) (v : Nat) : (S.s_pathLength v).madeLength = S.madeLength := rfl
theorem MS.g_host_pathLength (S : MS) (v : Nat) : (S.s_pathLength v).host = S.host := rfl
theorem MS.g_hostLength_pathLength (S : MS) (v : Nat) : (S.s_pathLength v).hostLength = S.hostLength := rfl
theorem MS.g_path_pathLength (S : MS) (v : Nat) : (S.s_pathLength v).path = S.path := rfl
theorem MS.g_pathLength_pathLength (S : MS) (v : Nat) : (S.s_pathLength v).pathLength = v := rfl
theorem MS.g_query_pathLength (S : MS) (v : Nat) : (S.s_pathLength v).query = S.query := rfl
theorem MS.g_queryLength_pathLength (S : MS) (v : Nat) : (S.s_pathLength v).queryLength = S.queryLength := rfl
theorem MS.g_neat_pathLength (S : MS) (v : Nat) : (S.s_pathLength v).neat = S.neat := rfl
theorem MS.g_marks_pathLength (S : MS) (v : Nat) : (S.s_pathLength v).marks = S.marks := rfl
theorem MS.g_made_query (S : MS) (v : Nat → Int32) : (S.s_query v).made = S.made := rfl
theorem MS.g_madeLength_query (S : MS) (v : Nat → Int32) : (S.s_query v).madeLength = S.madeLength := rfl
theorem MS.g_host_query (S : MS) (v : Nat → Int32) : (S.s_query v).host = S.host := rfl
theorem MS.g_hostLength_query (S : MS) (v : Nat → Int32) : (S.s_query v).hostLength = S.hostLength := rfl
theorem MS.g_path_query (S : MS) (v : Nat → Int32) : (S.s_query v).path = S.path := rfl
theorem MS.g_pathLength_query (S : MS) (v : Nat → Int32) : (S.s_query v).pathLength = S.pathLength := rfl
theorem MS.g_query_query (S : MS) (v : Nat → Int32) : (S.s_query v).query = v := rfl
theorem MS.g_queryLength_query (S : MS) (v : Nat → Int32) : (S.s_query v).queryLength = S.queryLength := rfl
theorem MS.g_neat_query (S : MS) (v : Nat → Int32) : (S.s_query v).neat = S.neat := rfl
theorem MS.g_marks_query (S : MS) (v : Nat → Int32) : (S.s_query v).marks = S.marks := rfl
theorem MS.g_made_queryLength (S : MS) (v : Option Nat) : (S.s_queryLength v).made = S.made := rfl
theorem MS.g_madeLength_queryLength (S : MS) (v : Option Nat) : (S.s_queryLength v).madeLength = S.madeLength := rfl
theorem MS.g_host_queryLength (S : MS) (v : Option Nat) : (S.s_queryLength v).host = S.host := rfl
theorem MS.g_hostLength_queryLength (S : MS) (v : Option Nat) : (S.s_queryLength v).hostLength = S.hostLength := rfl
theorem MS.g_path_queryLength (S : MS) (v : Option Nat) : (S.s_queryLength v).path = S.path := rfl
theorem MS.g_pathLength_queryLength (S : MS) (v : Option Nat) : (S.s_queryLength v).pathLength = S.pathLength := rfl
theorem MS.g_query_queryLength (S : MS) (v : Option Nat) : (S.s_queryLength v).query = S.query := rfl
theorem MS.g_queryLength_queryLength (S : MS) (v : Option Nat) : (S.s_queryLength v).queryLength = v := rfl
theorem MS.g_neat_queryLength (S : MS) (v : Option Nat) : (S.s_queryLength v).neat = S.neat := rfl
theorem MS.g_marks_queryLength (S : MS) (v : Option Nat) : (S.s_queryLength v).marks = S.marks := rfl
theorem MS.g_made_neat (S : MS) (v : Nat → Int32) : (S.s_neat v).made = S.made := rfl
theorem MS.g_madeLength_neat (S : MS) (v : Nat → Int32) : (S.s_neat v).madeLength = S.madeLength := rfl
theorem MS.g_host_neat (S : MS) (v : Nat → Int32) : (S.s_neat v).host = S.host := rfl
theorem MS.g_hostLength_neat (S : MS) (v : Nat → Int32) : (S.s_neat v).hostLength = S.hostLength := rfl
theorem MS.g_path_neat (S : MS) (v : Nat → Int32) : (S.s_neat v).path = S.path := rfl
theorem MS.g_pathLength_neat (S : MS) (v : Nat → Int32) : (S.s_neat v).pathLength = S.pathLength := rfl
theorem MS.g_query_neat (S : MS) (v : Nat → Int32) : (S.s_neat v).query = S.query := rfl
theorem MS.g_queryLength_neat (S : MS) (v : Nat → Int32) : (S.s_neat v).queryLength = S.queryLength := rfl
theorem MS.g_neat_neat (S : MS) (v : Nat → Int32) : (S.s_neat v).neat = v := rfl
theorem MS.g_marks_neat (S : MS) (v : Nat → Int32) : (S.s_neat v).marks = S.marks := rfl
theorem MS.g_made_marks (S : MS) (v : Nat → Int32) : (S.s_marks v).made = S.made := rfl
theorem MS.g_madeLength_marks (S : MS) (v : Nat → Int32) : (S.s_marks v).madeLength = S.madeLength := rfl
theorem MS.g_host_marks (S : MS) (v : Nat → Int32) : (S.s_marks v).host = S.host := rfl
theorem MS.g_hostLength_marks (S : MS) (v : Nat → Int32) : (S.s_marks v).hostLength = S.hostLength := rfl
theorem MS.g_path_marks (S : MS) (v : Nat → Int32) : (S.s_marks v).path = S.path := rfl
theorem MS.g_pathLength_marks (S : MS) (v : Nat → Int32) : (S.s_marks v).pathLength = S.pathLength := rfl
theorem MS.g_query_marks (S : MS) (v : Nat → Int32) : (S.s_marks v).query = S.query := rfl
theorem MS.g_queryLength_marks (S : MS) (v : Nat → Int32) : (S.s_marks v).queryLength = S.queryLength := rfl
theorem MS.g_neat_marks (S : MS) (v : Nat → Int32) : (S.s_marks v).neat = S.neat := rfl
theorem MS.g_marks_marks (S : MS) (v : Nat → Int32) : (S.s_marks v).marks = v := rfl
theorem tx_eq {g g1 : Nat → Int32} {s : Nat} {L : List Int32} (e : g = g1) (h : tx g1 s L) : tx g s L := by rw [e]; exact h
