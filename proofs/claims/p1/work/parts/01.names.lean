/-! names of the classes, fields and methods, printed by a program of mine out of the claim's tables -/
def tl_W : List (String × String × String × Bool) := [("WebFinder", "tape", "LWebFinder$Bytes;", true), ("WebFinder", "product", "LWebFinder$Bytes;", true), ("WebFinder", "base", "LWebFinder$Bytes;", true), ("WebFinder", "addresses", "LWebFinder$AddressReader;", true), ("WebFinder", "reader", "LWebFinder$PageReader;", true), ("WebFinder", "web", "LWebFinder$Web;", true), ("WebFinder", "settings", "[I", true), ("WebFinder", "seeds", "LWebFinder$Rows;", true), ("WebFinder", "crawl", "LWebFinder$Crawl;", true), ("WebFinder", "documents", "LWebFinder$Documents;", true), ("WebFinder", "answers", "LWebFinder$Answers;", true)]
def tt_W : u_T := fun k => tl_W.getD k ("", "", "", false)
def ty_W : Nat → FieldType := fun k => ([.object "WebFinder$Bytes", .object "WebFinder$Bytes", .object "WebFinder$Bytes", .object "WebFinder$AddressReader", .object "WebFinder$PageReader", .object "WebFinder$Web", .array .int, .object "WebFinder$Rows", .object "WebFinder$Crawl", .object "WebFinder$Documents", .object "WebFinder$Answers"] : List FieldType).getD k .int
def tl_B : List (String × String × String × Bool) := [("WebFinder$Bytes", "data", "[B", false), ("WebFinder$Bytes", "length", "I", false)]
def tt_B : u_T := fun k => tl_B.getD k ("", "", "", false)
def ty_B : Nat → FieldType := fun k => ([.array .byte, .int] : List FieldType).getD k .int
def tl_A : List (String × String × String × Bool) := [("WebFinder$AddressReader", "result", "LWebFinder$Bytes;", true), ("WebFinder$AddressReader", "path", "LWebFinder$Bytes;", true)]
def tt_A : u_T := fun k => tl_A.getD k ("", "", "", false)
def ty_A : Nat → FieldType := fun k => ([.object "WebFinder$Bytes", .object "WebFinder$Bytes"] : List FieldType).getD k .int
def tl_P : List (String × String × String × Bool) := [("WebFinder$PageReader", "links", "LWebFinder$Rows;", true), ("WebFinder$PageReader", "words", "LWebFinder$Rows;", true), ("WebFinder$PageReader", "addresses", "LWebFinder$AddressReader;", true), ("WebFinder$PageReader", "scanner", "LWebFinder$PageScanner;", true), ("WebFinder$PageReader", "base", "LWebFinder$Bytes;", true), ("WebFinder$PageReader", "plain", "LWebFinder$Bytes;", true)]
def tt_P : u_T := fun k => tl_P.getD k ("", "", "", false)
def ty_P : Nat → FieldType := fun k => ([.object "WebFinder$Rows", .object "WebFinder$Rows", .object "WebFinder$AddressReader", .object "WebFinder$PageScanner", .object "WebFinder$Bytes", .object "WebFinder$Bytes"] : List FieldType).getD k .int
def tl_R : List (String × String × String × Bool) := [("WebFinder$Rows", "bytes", "LWebFinder$Bytes;", true), ("WebFinder$Rows", "ends", "[I", false), ("WebFinder$Rows", "size", "I", false)]
def tt_R : u_T := fun k => tl_R.getD k ("", "", "", false)
def ty_R : Nat → FieldType := fun k => ([.object "WebFinder$Bytes", .array .int, .int] : List FieldType).getD k .int
def tl_S : List (String × String × String × Bool) := [("WebFinder$PageScanner", "from", "I", false), ("WebFinder$PageScanner", "hrefFrom", "I", false), ("WebFinder$PageScanner", "hrefTo", "I", false), ("WebFinder$PageScanner", "at", "I", false), ("WebFinder$PageScanner", "text", "[B", false), ("WebFinder$PageScanner", "to", "I", false), ("WebFinder$PageScanner", "nameFrom", "I", false), ("WebFinder$PageScanner", "nameTo", "I", false), ("WebFinder$PageScanner", "closing", "Z", false)]
def tt_S : u_T := fun k => tl_S.getD k ("", "", "", false)
def ty_S : Nat → FieldType := fun k => ([.int, .int, .int, .int, .array .byte, .int, .int, .int, .boolean] : List FieldType).getD k .int
def tl_V : List (String × String × String × Bool) := [("WebFinder$Web", "pageCount", "I", false), ("WebFinder$Web", "pages", "[LWebFinder$Page;", true), ("WebFinder$Web", "sites", "[LWebFinder$SiteRules;", true), ("WebFinder$Web", "siteCount", "I", false)]
def tt_V : u_T := fun k => tl_V.getD k ("", "", "", false)
def ty_V : Nat → FieldType := fun k => ([.int, .array (.object "WebFinder$Page"), .array (.object "WebFinder$SiteRules"), .int] : List FieldType).getD k .int
def tl_C : List (String × String × String × Bool) := [("WebFinder$Crawl", "started", "Z", false), ("WebFinder$Crawl", "clock", "I", false), ("WebFinder$Crawl", "askings", "I", false), ("WebFinder$Crawl", "addresses", "LWebFinder$Rows;", true), ("WebFinder$Crawl", "marks", "[[I", true), ("WebFinder$Crawl", "pages", "[LWebFinder$Page;", true), ("WebFinder$Crawl", "asked", "LWebFinder$Rows;", true), ("WebFinder$Crawl", "askedClocks", "[I", true), ("WebFinder$Crawl", "web", "LWebFinder$Web;", true), ("WebFinder$Crawl", "reader", "LWebFinder$AddressReader;", true), ("WebFinder$Crawl", "pageReader", "LWebFinder$PageReader;", true), ("WebFinder$Crawl", "limits", "[I", true), ("WebFinder$Crawl", "here", "LWebFinder$Bytes;", true), ("WebFinder$Crawl", "askedAt", "[I", true), ("WebFinder$Crawl", "savedMarks", "[[I", true), ("WebFinder$Crawl", "savedSize", "I", false), ("WebFinder$Crawl", "askingsSinceSaved", "I", false), ("WebFinder$Crawl", "crashClock", "I", false)]
def tt_C : u_T := fun k => tl_C.getD k ("", "", "", false)
def ty_C : Nat → FieldType := fun k => ([.boolean, .int, .int, .object "WebFinder$Rows", .array (.array .int), .array (.object "WebFinder$Page"), .object "WebFinder$Rows", .array .int, .object "WebFinder$Web", .object "WebFinder$AddressReader", .object "WebFinder$PageReader", .array .int, .object "WebFinder$Bytes", .array .int, .array (.array .int), .int, .int, .int] : List FieldType).getD k .int
def tl_D : List (String × String × String × Bool) := [("WebFinder$Documents", "size", "I", false), ("WebFinder$Documents", "pages", "[LWebFinder$Page;", true), ("WebFinder$Documents", "numbers", "[I", true), ("WebFinder$Documents", "ranks", "[I", true), ("WebFinder$Documents", "leadsTo", "[I", true), ("WebFinder$Documents", "ledToBy", "[I", true), ("WebFinder$Documents", "copies", "[I", true), ("WebFinder$Documents", "firstPlaces", "[I", true), ("WebFinder$Documents", "words", "LWebFinder$Rows;", true), ("WebFinder$Documents", "reader", "LWebFinder$PageReader;", true), ("WebFinder$Documents", "here", "LWebFinder$Bytes;", true), ("WebFinder$Documents", "leads", "[I", true), ("WebFinder$Documents", "nextRanks", "[I", true), ("WebFinder$Documents", "documentOf", "[I", true), ("WebFinder$Documents", "order", "[I", true)]
def tt_D : u_T := fun k => tl_D.getD k ("", "", "", false)
def ty_D : Nat → FieldType := fun k => ([.int, .array (.object "WebFinder$Page"), .array .int, .array .int, .array .int, .array .int, .array .int, .array .int, .object "WebFinder$Rows", .object "WebFinder$PageReader", .object "WebFinder$Bytes", .array .int, .array .int, .array .int, .array .int] : List FieldType).getD k .int
def tl_N : List (String × String × String × Bool) := [("WebFinder$Answers", "size", "I", false), ("WebFinder$Answers", "hits", "[I", true), ("WebFinder$Answers", "scores", "[J", true), ("WebFinder$Answers", "question", "LWebFinder$Rows;", true)]
def tt_N : u_T := fun k => tl_N.getD k ("", "", "", false)
def ty_N : Nat → FieldType := fun k => ([.int, .array .int, .array .long, .object "WebFinder$Rows"] : List FieldType).getD k .int
def tl_G : List (String × String × String × Bool) := [("WebFinder$Page", "address", "[B", true), ("WebFinder$Page", "status", "I", true), ("WebFinder$Page", "text", "[B", true)]
def tt_G : u_T := fun k => tl_G.getD k ("", "", "", false)
def ty_G : Nat → FieldType := fun k => ([.array .byte, .int, .array .byte] : List FieldType).getD k .int
def tl_T : List (String × String × String × Bool) := [("WebFinder$SiteRules", "site", "LWebFinder$Bytes;", true), ("WebFinder$SiteRules", "allows", "LWebFinder$Rows;", true), ("WebFinder$SiteRules", "disallows", "LWebFinder$Rows;", true)]
def tt_T : u_T := fun k => tl_T.getD k ("", "", "", false)
def ty_T : Nat → FieldType := fun k => ([.object "WebFinder$Bytes", .object "WebFinder$Rows", .object "WebFinder$Rows"] : List FieldType).getD k .int
def tl_M : List (String × String × String × Bool) := [("WebFinderModel", "coming", "[B", true), ("WebFinderModel", "size", "I", false), ("WebFinderModel", "fault", "I", false), ("WebFinderModel", "product", "[B", true), ("WebFinderModel", "productSize", "I", false), ("WebFinderModel", "addresses", "[B", true), ("WebFinderModel", "addressAt", "[I", true), ("WebFinderModel", "addressLength", "[I", true), ("WebFinderModel", "addressCount", "I", false), ("WebFinderModel", "made", "[B", true), ("WebFinderModel", "madeLength", "I", false), ("WebFinderModel", "host", "[B", true), ("WebFinderModel", "path", "[B", true), ("WebFinderModel", "query", "[B", true), ("WebFinderModel", "neat", "[B", true), ("WebFinderModel", "marks", "[I", true), ("WebFinderModel", "hostLength", "I", false), ("WebFinderModel", "pathLength", "I", false), ("WebFinderModel", "queryLength", "I", false), ("WebFinderModel", "texts", "[B", true), ("WebFinderModel", "textsEnd", "I", false), ("WebFinderModel", "textAt", "[I", true), ("WebFinderModel", "textEnd", "[I", true), ("WebFinderModel", "textCount", "I", false), ("WebFinderModel", "ruleSite", "[I", true), ("WebFinderModel", "ruleText", "[I", true), ("WebFinderModel", "ruleCount", "I", false), ("WebFinderModel", "key", "I", false), ("WebFinderModel", "valueFrom", "I", false), ("WebFinderModel", "valueEnd", "I", false), ("WebFinderModel", "pattern", "[B", true), ("WebFinderModel", "patternLength", "I", false), ("WebFinderModel", "reached", "[Z", true), ("WebFinderModel", "holding", "I", false), ("WebFinderModel", "isAllowed", "Z", false), ("WebFinderModel", "decoded", "[B", true), ("WebFinderModel", "decodedLength", "I", false), ("WebFinderModel", "words", "[B", true), ("WebFinderModel", "wordAt", "[I", true), ("WebFinderModel", "wordLength", "[I", true), ("WebFinderModel", "wordCount", "I", false), ("WebFinderModel", "values", "[B", true), ("WebFinderModel", "valueAt", "[I", true), ("WebFinderModel", "valueLength", "[I", true), ("WebFinderModel", "valueCount", "I", false), ("WebFinderModel", "pageBase", "I", false), ("WebFinderModel", "hasBase", "Z", false), ("WebFinderModel", "byteValue", "I", false), ("WebFinderModel", "hrefFrom", "I", false), ("WebFinderModel", "hrefEnd", "I", false), ("WebFinderModel", "hasHref", "Z", false), ("WebFinderModel", "pageAddress", "[I", true), ("WebFinderModel", "pageStatus", "[I", true), ("WebFinderModel", "pageText", "[I", true), ("WebFinderModel", "pageCount", "I", false), ("WebFinderModel", "links", "[I", true), ("WebFinderModel", "linkCount", "I", false), ("WebFinderModel", "told", "[I", true), ("WebFinderModel", "held", "[I", true), ("WebFinderModel", "seeds", "[I", true), ("WebFinderModel", "seedCount", "I", false), ("WebFinderModel", "isStarted", "Z", false), ("WebFinderModel", "clock", "I", false), ("WebFinderModel", "known", "[I", true), ("WebFinderModel", "knownCount", "I", false), ("WebFinderModel", "saved", "[I", true), ("WebFinderModel", "savedCount", "I", false), ("WebFinderModel", "askedSince", "I", false), ("WebFinderModel", "asked", "I", false), ("WebFinderModel", "askedClock", "[I", true), ("WebFinderModel", "askedAddress", "[I", true), ("WebFinderModel", "siteOf", "[I", true), ("WebFinderModel", "siteTime", "[I", true), ("WebFinderModel", "siteCount", "I", false), ("WebFinderModel", "otherTime", "I", false), ("WebFinderModel", "documents", "I", false), ("WebFinderModel", "documentAddress", "[I", true), ("WebFinderModel", "documentText", "[I", true), ("WebFinderModel", "documentNumber", "[I", true), ("WebFinderModel", "documentCopies", "[I", true), ("WebFinderModel", "documentWords", "[I", true), ("WebFinderModel", "ranks", "[J", true), ("WebFinderModel", "nextRanks", "[J", true), ("WebFinderModel", "leads", "[Z", true), ("WebFinderModel", "hits", "I", false), ("WebFinderModel", "hitDocument", "[I", true), ("WebFinderModel", "hitScore", "[J", true), ("WebFinderModel", "question", "[B", true), ("WebFinderModel", "questionLength", "[I", true), ("WebFinderModel", "questionCount", "I", false)]
def tt_M : u_T := fun k => tl_M.getD k ("", "", "", false)
def ty_M : Nat → FieldType := fun k => ([.array .byte, .int, .int, .array .byte, .int, .array .byte, .array .int, .array .int, .int, .array .byte, .int, .array .byte, .array .byte, .array .byte, .array .byte, .array .int, .int, .int, .int, .array .byte, .int, .array .int, .array .int, .int, .array .int, .array .int, .int, .int, .int, .int, .array .byte, .int, .array .boolean, .int, .boolean, .array .byte, .int, .array .byte, .array .int, .array .int, .int, .array .byte, .array .int, .array .int, .int, .int, .boolean, .int, .int, .int, .boolean, .array .int, .array .int, .array .int, .int, .array .int, .int, .array .int, .array .int, .array .int, .int, .boolean, .int, .array .int, .int, .array .int, .int, .int, .int, .array .int, .array .int, .array .int, .array .int, .int, .int, .int, .array .int, .array .int, .array .int, .array .int, .array .int, .array .long, .array .long, .array .boolean, .int, .array .int, .array .long, .array .byte, .array .int, .int] : List FieldType).getD k .int
def tt_X : u_T := fun _ => ("", "", "", false)
abbrev am_cl : List vw_C := [("WebFinder", tt_W, 11), ("WebFinder$Bytes", tt_B, 2), ("WebFinder$AddressReader", tt_A, 2), ("WebFinder$PageReader", tt_P, 6), ("WebFinder$Rows", tt_R, 3), ("WebFinder$PageScanner", tt_S, 9), ("WebFinder$Web", tt_V, 4), ("WebFinder$Crawl", tt_C, 18), ("WebFinder$Documents", tt_D, 15), ("WebFinder$Answers", tt_N, 4), ("WebFinder$Page", tt_G, 3), ("WebFinder$SiteRules", tt_T, 3), ("WebFinderModel", tt_M, 90), ("java/lang/IllegalStateException", tt_X, 0), ("java/lang/IllegalArgumentException", tt_X, 0)]
/-- the words that every call keeps -/
def am_gw : List Cond := lw_tbl.filter goodWord
theorem am_in {w : Cond} (h : w ∈ lw_tbl) (g : goodWord w = true) : w ∈ am_gw := List.mem_filter.mpr ⟨h, g⟩
theorem am_tb {w : Cond} (h : w ∈ tables_1) : w ∈ lw_tbl := List.mem_append_right _ h
theorem am_t1 {w : Cond} (i : Nat) (h : tables_1_1[i]? = some w) (g : goodWord w = true) : w ∈ am_gw := am_in (am_tb (by have h := List.mem_of_getElem? h; exact List.mem_append_left _ h)) g
theorem am_t2 {w : Cond} (i : Nat) (h : tables_1_2[i]? = some w) (g : goodWord w = true) : w ∈ am_gw := am_in (am_tb (by have h := List.mem_of_getElem? h; exact List.mem_append_right _ (List.mem_append_left _ h))) g
theorem am_t3 {w : Cond} (i : Nat) (h : tables_1_3[i]? = some w) (g : goodWord w = true) : w ∈ am_gw := am_in (am_tb (by have h := List.mem_of_getElem? h; exact List.mem_append_right _ (List.mem_append_right _ (List.mem_append_left _ h)))) g
theorem am_t4 {w : Cond} (i : Nat) (h : tables_1_4[i]? = some w) (g : goodWord w = true) : w ∈ am_gw := am_in (am_tb (by have h := List.mem_of_getElem? h; exact List.mem_append_right _ (List.mem_append_right _ (List.mem_append_right _ (List.mem_append_left _ h))))) g
theorem am_t5 {w : Cond} (i : Nat) (h : tables_1_5[i]? = some w) (g : goodWord w = true) : w ∈ am_gw := am_in (am_tb (by have h := List.mem_of_getElem? h; exact List.mem_append_right _ (List.mem_append_right _ (List.mem_append_right _ (List.mem_append_right _ (List.mem_append_left _ h)))))) g
theorem am_t6 {w : Cond} (i : Nat) (h : tables_1_6[i]? = some w) (g : goodWord w = true) : w ∈ am_gw := am_in (am_tb (by have h := List.mem_of_getElem? h; exact List.mem_append_right _ (List.mem_append_right _ (List.mem_append_right _ (List.mem_append_right _ (List.mem_append_right _ (List.mem_append_left _ h))))))) g
theorem am_t7 {w : Cond} (i : Nat) (h : tables_1_7[i]? = some w) (g : goodWord w = true) : w ∈ am_gw := am_in (am_tb (by have h := List.mem_of_getElem? h; exact List.mem_append_right _ (List.mem_append_right _ (List.mem_append_right _ (List.mem_append_right _ (List.mem_append_right _ (List.mem_append_right _ (List.mem_append_left _ h)))))))) g
theorem am_t8 {w : Cond} (i : Nat) (h : tables_1_8[i]? = some w) (g : goodWord w = true) : w ∈ am_gw := am_in (am_tb (by have h := List.mem_of_getElem? h; exact List.mem_append_right _ (List.mem_append_right _ (List.mem_append_right _ (List.mem_append_right _ (List.mem_append_right _ (List.mem_append_right _ (List.mem_append_right _ (List.mem_append_left _ h))))))))) g
theorem am_t9 {w : Cond} (i : Nat) (h : tables_1_9[i]? = some w) (g : goodWord w = true) : w ∈ am_gw := am_in (am_tb (by have h := List.mem_of_getElem? h; exact List.mem_append_right _ (List.mem_append_right _ (List.mem_append_right _ (List.mem_append_right _ (List.mem_append_right _ (List.mem_append_right _ (List.mem_append_right _ (List.mem_append_right _ (List.mem_append_left _ h)))))))))) g
theorem am_t10 {w : Cond} (i : Nat) (h : tables_1_10[i]? = some w) (g : goodWord w = true) : w ∈ am_gw := am_in (am_tb (by have h := List.mem_of_getElem? h; exact List.mem_append_right _ (List.mem_append_right _ (List.mem_append_right _ (List.mem_append_right _ (List.mem_append_right _ (List.mem_append_right _ (List.mem_append_right _ (List.mem_append_right _ (List.mem_append_right _ (h))))))))))) g
theorem ci_W : ∀ k, k < 11 → u_lay "WebFinder" tt_W k ∈ am_gw := fun k hk => match k, hk with
  | 0, _ => am_t2 158 rfl rfl
  | 1, _ => am_t2 160 rfl rfl
  | 2, _ => am_t2 162 rfl rfl
  | 3, _ => am_t2 164 rfl rfl
  | 4, _ => am_t2 166 rfl rfl
  | 5, _ => am_t2 168 rfl rfl
  | 6, _ => am_t2 170 rfl rfl
  | 7, _ => am_t2 172 rfl rfl
  | 8, _ => am_t2 174 rfl rfl
  | 9, _ => am_t2 176 rfl rfl
  | 10, _ => am_t2 178 rfl rfl
  | n + 11, h => absurd h (by omega)
set_option maxRecDepth 20000 in
theorem ct_W : ∀ k, k < 11 → parseFieldDescriptor (tt_W k).2.2.1 = some (ty_W k) := by decide +kernel
set_option maxRecDepth 20000 in
theorem cn_W : ∀ a, a < 11 → ∀ b, b < 11 → a ≠ b → (tt_W a).2.1 ≠ (tt_W b).2.1 := by decide +kernel
theorem ci_B : ∀ k, k < 2 → u_lay "WebFinder$Bytes" tt_B k ∈ am_gw := fun k hk => match k, hk with
  | 0, _ => am_t1 65 rfl rfl
  | 1, _ => am_t1 67 rfl rfl
  | n + 2, h => absurd h (by omega)
set_option maxRecDepth 20000 in
theorem ct_B : ∀ k, k < 2 → parseFieldDescriptor (tt_B k).2.2.1 = some (ty_B k) := by decide +kernel
set_option maxRecDepth 20000 in
theorem cn_B : ∀ a, a < 2 → ∀ b, b < 2 → a ≠ b → (tt_B a).2.1 ≠ (tt_B b).2.1 := by decide +kernel
theorem ci_A : ∀ k, k < 2 → u_lay "WebFinder$AddressReader" tt_A k ∈ am_gw := fun k hk => match k, hk with
  | 0, _ => am_t1 84 rfl rfl
  | 1, _ => am_t1 86 rfl rfl
  | n + 2, h => absurd h (by omega)
set_option maxRecDepth 20000 in
theorem ct_A : ∀ k, k < 2 → parseFieldDescriptor (tt_A k).2.2.1 = some (ty_A k) := by decide +kernel
set_option maxRecDepth 20000 in
theorem cn_A : ∀ a, a < 2 → ∀ b, b < 2 → a ≠ b → (tt_A a).2.1 ≠ (tt_A b).2.1 := by decide +kernel
theorem ci_P : ∀ k, k < 6 → u_lay "WebFinder$PageReader" tt_P k ∈ am_gw := fun k hk => match k, hk with
  | 0, _ => am_t1 176 rfl rfl
  | 1, _ => am_t1 178 rfl rfl
  | 2, _ => am_t1 180 rfl rfl
  | 3, _ => am_t1 182 rfl rfl
  | 4, _ => am_t1 184 rfl rfl
  | 5, _ => am_t1 186 rfl rfl
  | n + 6, h => absurd h (by omega)
set_option maxRecDepth 20000 in
theorem ct_P : ∀ k, k < 6 → parseFieldDescriptor (tt_P k).2.2.1 = some (ty_P k) := by decide +kernel
set_option maxRecDepth 20000 in
theorem cn_P : ∀ a, a < 6 → ∀ b, b < 6 → a ≠ b → (tt_P a).2.1 ≠ (tt_P b).2.1 := by decide +kernel
theorem ci_R : ∀ k, k < 3 → u_lay "WebFinder$Rows" tt_R k ∈ am_gw := fun k hk => match k, hk with
  | 0, _ => am_t1 118 rfl rfl
  | 1, _ => am_t1 120 rfl rfl
  | 2, _ => am_t1 122 rfl rfl
  | n + 3, h => absurd h (by omega)
set_option maxRecDepth 20000 in
theorem ct_R : ∀ k, k < 3 → parseFieldDescriptor (tt_R k).2.2.1 = some (ty_R k) := by decide +kernel
set_option maxRecDepth 20000 in
theorem cn_R : ∀ a, a < 3 → ∀ b, b < 3 → a ≠ b → (tt_R a).2.1 ≠ (tt_R b).2.1 := by decide +kernel
theorem ci_S : ∀ k, k < 9 → u_lay "WebFinder$PageScanner" tt_S k ∈ am_gw := fun k hk => match k, hk with
  | 0, _ => am_t1 145 rfl rfl
  | 1, _ => am_t1 147 rfl rfl
  | 2, _ => am_t1 149 rfl rfl
  | 3, _ => am_t1 151 rfl rfl
  | 4, _ => am_t1 153 rfl rfl
  | 5, _ => am_t1 155 rfl rfl
  | 6, _ => am_t1 157 rfl rfl
  | 7, _ => am_t1 159 rfl rfl
  | 8, _ => am_t1 161 rfl rfl
  | n + 9, h => absurd h (by omega)
set_option maxRecDepth 20000 in
theorem ct_S : ∀ k, k < 9 → parseFieldDescriptor (tt_S k).2.2.1 = some (ty_S k) := by decide +kernel
set_option maxRecDepth 20000 in
theorem cn_S : ∀ a, a < 9 → ∀ b, b < 9 → a ≠ b → (tt_S a).2.1 ≠ (tt_S b).2.1 := by decide +kernel
theorem ci_V : ∀ k, k < 4 → u_lay "WebFinder$Web" tt_V k ∈ am_gw := fun k hk => match k, hk with
  | 0, _ => am_t1 204 rfl rfl
  | 1, _ => am_t1 206 rfl rfl
  | 2, _ => am_t1 208 rfl rfl
  | 3, _ => am_t1 210 rfl rfl
  | n + 4, h => absurd h (by omega)
set_option maxRecDepth 20000 in
theorem ct_V : ∀ k, k < 4 → parseFieldDescriptor (tt_V k).2.2.1 = some (ty_V k) := by decide +kernel
set_option maxRecDepth 20000 in
theorem cn_V : ∀ a, a < 4 → ∀ b, b < 4 → a ≠ b → (tt_V a).2.1 ≠ (tt_V b).2.1 := by decide +kernel
theorem ci_C : ∀ k, k < 18 → u_lay "WebFinder$Crawl" tt_C k ∈ am_gw := fun k hk => match k, hk with
  | 0, _ => am_t2 16 rfl rfl
  | 1, _ => am_t2 18 rfl rfl
  | 2, _ => am_t2 20 rfl rfl
  | 3, _ => am_t2 22 rfl rfl
  | 4, _ => am_t2 24 rfl rfl
  | 5, _ => am_t2 26 rfl rfl
  | 6, _ => am_t2 28 rfl rfl
  | 7, _ => am_t2 30 rfl rfl
  | 8, _ => am_t2 32 rfl rfl
  | 9, _ => am_t2 34 rfl rfl
  | 10, _ => am_t2 36 rfl rfl
  | 11, _ => am_t2 38 rfl rfl
  | 12, _ => am_t2 40 rfl rfl
  | 13, _ => am_t2 42 rfl rfl
  | 14, _ => am_t2 44 rfl rfl
  | 15, _ => am_t2 46 rfl rfl
  | 16, _ => am_t2 48 rfl rfl
  | 17, _ => am_t2 50 rfl rfl
  | n + 18, h => absurd h (by omega)
set_option maxRecDepth 20000 in
theorem ct_C : ∀ k, k < 18 → parseFieldDescriptor (tt_C k).2.2.1 = some (ty_C k) := by decide +kernel
set_option maxRecDepth 20000 in
theorem cn_C : ∀ a, a < 18 → ∀ b, b < 18 → a ≠ b → (tt_C a).2.1 ≠ (tt_C b).2.1 := by decide +kernel
theorem ci_D : ∀ k, k < 15 → u_lay "WebFinder$Documents" tt_D k ∈ am_gw := fun k hk => match k, hk with
  | 0, _ => am_t2 91 rfl rfl
  | 1, _ => am_t2 93 rfl rfl
  | 2, _ => am_t2 95 rfl rfl
  | 3, _ => am_t2 97 rfl rfl
  | 4, _ => am_t2 99 rfl rfl
  | 5, _ => am_t2 101 rfl rfl
  | 6, _ => am_t2 103 rfl rfl
  | 7, _ => am_t2 105 rfl rfl
  | 8, _ => am_t2 107 rfl rfl
  | 9, _ => am_t2 109 rfl rfl
  | 10, _ => am_t2 111 rfl rfl
  | 11, _ => am_t2 113 rfl rfl
  | 12, _ => am_t2 115 rfl rfl
  | 13, _ => am_t2 117 rfl rfl
  | 14, _ => am_t2 119 rfl rfl
  | n + 15, h => absurd h (by omega)
set_option maxRecDepth 20000 in
theorem ct_D : ∀ k, k < 15 → parseFieldDescriptor (tt_D k).2.2.1 = some (ty_D k) := by decide +kernel
set_option maxRecDepth 20000 in
theorem cn_D : ∀ a, a < 15 → ∀ b, b < 15 → a ≠ b → (tt_D a).2.1 ≠ (tt_D b).2.1 := by decide +kernel
theorem ci_N : ∀ k, k < 4 → u_lay "WebFinder$Answers" tt_N k ∈ am_gw := fun k hk => match k, hk with
  | 0, _ => am_t2 137 rfl rfl
  | 1, _ => am_t2 139 rfl rfl
  | 2, _ => am_t2 141 rfl rfl
  | 3, _ => am_t2 143 rfl rfl
  | n + 4, h => absurd h (by omega)
set_option maxRecDepth 20000 in
theorem ct_N : ∀ k, k < 4 → parseFieldDescriptor (tt_N k).2.2.1 = some (ty_N k) := by decide +kernel
set_option maxRecDepth 20000 in
theorem cn_N : ∀ a, a < 4 → ∀ b, b < 4 → a ≠ b → (tt_N a).2.1 ≠ (tt_N b).2.1 := by decide +kernel
theorem ci_G : ∀ k, k < 3 → u_lay "WebFinder$Page" tt_G k ∈ am_gw := fun k hk => match k, hk with
  | 0, _ => am_t5 8 rfl rfl
  | 1, _ => am_t5 10 rfl rfl
  | 2, _ => am_t5 12 rfl rfl
  | n + 3, h => absurd h (by omega)
set_option maxRecDepth 20000 in
theorem ct_G : ∀ k, k < 3 → parseFieldDescriptor (tt_G k).2.2.1 = some (ty_G k) := by decide +kernel
set_option maxRecDepth 20000 in
theorem cn_G : ∀ a, a < 3 → ∀ b, b < 3 → a ≠ b → (tt_G a).2.1 ≠ (tt_G b).2.1 := by decide +kernel
theorem ci_T : ∀ k, k < 3 → u_lay "WebFinder$SiteRules" tt_T k ∈ am_gw := fun k hk => match k, hk with
  | 0, _ => am_t5 56 rfl rfl
  | 1, _ => am_t5 58 rfl rfl
  | 2, _ => am_t5 60 rfl rfl
  | n + 3, h => absurd h (by omega)
set_option maxRecDepth 20000 in
theorem ct_T : ∀ k, k < 3 → parseFieldDescriptor (tt_T k).2.2.1 = some (ty_T k) := by decide +kernel
set_option maxRecDepth 20000 in
theorem cn_T : ∀ a, a < 3 → ∀ b, b < 3 → a ≠ b → (tt_T a).2.1 ≠ (tt_T b).2.1 := by decide +kernel
theorem ci_M : ∀ k, k < 90 → u_lay "WebFinderModel" tt_M k ∈ am_gw := fun k hk => match k, hk with
  | 0, _ => am_t7 201 rfl rfl
  | 1, _ => am_t7 203 rfl rfl
  | 2, _ => am_t7 205 rfl rfl
  | 3, _ => am_t7 207 rfl rfl
  | 4, _ => am_t7 209 rfl rfl
  | 5, _ => am_t7 211 rfl rfl
  | 6, _ => am_t7 213 rfl rfl
  | 7, _ => am_t7 215 rfl rfl
  | 8, _ => am_t7 217 rfl rfl
  | 9, _ => am_t7 219 rfl rfl
  | 10, _ => am_t7 221 rfl rfl
  | 11, _ => am_t7 223 rfl rfl
  | 12, _ => am_t7 225 rfl rfl
  | 13, _ => am_t7 227 rfl rfl
  | 14, _ => am_t7 229 rfl rfl
  | 15, _ => am_t7 231 rfl rfl
  | 16, _ => am_t7 233 rfl rfl
  | 17, _ => am_t7 235 rfl rfl
  | 18, _ => am_t7 237 rfl rfl
  | 19, _ => am_t7 239 rfl rfl
  | 20, _ => am_t8 1 rfl rfl
  | 21, _ => am_t8 3 rfl rfl
  | 22, _ => am_t8 5 rfl rfl
  | 23, _ => am_t8 7 rfl rfl
  | 24, _ => am_t8 9 rfl rfl
  | 25, _ => am_t8 11 rfl rfl
  | 26, _ => am_t8 13 rfl rfl
  | 27, _ => am_t8 15 rfl rfl
  | 28, _ => am_t8 17 rfl rfl
  | 29, _ => am_t8 19 rfl rfl
  | 30, _ => am_t8 21 rfl rfl
  | 31, _ => am_t8 23 rfl rfl
  | 32, _ => am_t8 25 rfl rfl
  | 33, _ => am_t8 27 rfl rfl
  | 34, _ => am_t8 29 rfl rfl
  | 35, _ => am_t8 31 rfl rfl
  | 36, _ => am_t8 33 rfl rfl
  | 37, _ => am_t8 35 rfl rfl
  | 38, _ => am_t8 37 rfl rfl
  | 39, _ => am_t8 39 rfl rfl
  | 40, _ => am_t8 41 rfl rfl
  | 41, _ => am_t8 43 rfl rfl
  | 42, _ => am_t8 45 rfl rfl
  | 43, _ => am_t8 47 rfl rfl
  | 44, _ => am_t8 49 rfl rfl
  | 45, _ => am_t8 51 rfl rfl
  | 46, _ => am_t8 53 rfl rfl
  | 47, _ => am_t8 55 rfl rfl
  | 48, _ => am_t8 57 rfl rfl
  | 49, _ => am_t8 59 rfl rfl
  | 50, _ => am_t8 61 rfl rfl
  | 51, _ => am_t8 63 rfl rfl
  | 52, _ => am_t8 65 rfl rfl
  | 53, _ => am_t8 67 rfl rfl
  | 54, _ => am_t8 69 rfl rfl
  | 55, _ => am_t8 71 rfl rfl
  | 56, _ => am_t8 73 rfl rfl
  | 57, _ => am_t8 75 rfl rfl
  | 58, _ => am_t8 77 rfl rfl
  | 59, _ => am_t8 79 rfl rfl
  | 60, _ => am_t8 81 rfl rfl
  | 61, _ => am_t8 83 rfl rfl
  | 62, _ => am_t8 85 rfl rfl
  | 63, _ => am_t8 87 rfl rfl
  | 64, _ => am_t8 89 rfl rfl
  | 65, _ => am_t8 91 rfl rfl
  | 66, _ => am_t8 93 rfl rfl
  | 67, _ => am_t8 95 rfl rfl
  | 68, _ => am_t8 97 rfl rfl
  | 69, _ => am_t8 99 rfl rfl
  | 70, _ => am_t8 101 rfl rfl
  | 71, _ => am_t8 103 rfl rfl
  | 72, _ => am_t8 105 rfl rfl
  | 73, _ => am_t8 107 rfl rfl
  | 74, _ => am_t8 109 rfl rfl
  | 75, _ => am_t8 111 rfl rfl
  | 76, _ => am_t8 113 rfl rfl
  | 77, _ => am_t8 115 rfl rfl
  | 78, _ => am_t8 117 rfl rfl
  | 79, _ => am_t8 119 rfl rfl
  | 80, _ => am_t8 121 rfl rfl
  | 81, _ => am_t8 123 rfl rfl
  | 82, _ => am_t8 125 rfl rfl
  | 83, _ => am_t8 127 rfl rfl
  | 84, _ => am_t8 129 rfl rfl
  | 85, _ => am_t8 131 rfl rfl
  | 86, _ => am_t8 133 rfl rfl
  | 87, _ => am_t8 135 rfl rfl
  | 88, _ => am_t8 137 rfl rfl
  | 89, _ => am_t8 139 rfl rfl
  | n + 90, h => absurd h (by omega)
set_option maxRecDepth 20000 in
theorem ct_M : ∀ k, k < 90 → parseFieldDescriptor (tt_M k).2.2.1 = some (ty_M k) := by decide +kernel
set_option maxRecDepth 20000 in
theorem cn_M : ∀ a, a < 90 → ∀ b, b < 90 → a ≠ b → (tt_M a).2.1 ≠ (tt_M b).2.1 := by decide +kernel
theorem am_cl1 {C : String} {T : u_T} {N : Nat} {ty : Nat → FieldType} (h1 : ∀ k, k < N → u_lay C T k ∈ am_gw) (h3 : ∀ k, k < N → parseFieldDescriptor (T k).2.2.1 = some (ty k)) (h4 : ∀ a, a < N → ∀ b, b < N → a ≠ b → (T a).2.1 ≠ (T b).2.1) :
    (∀ w ∈ u_ws C T N, w ∈ am_gw) ∧ (∃ ty0 : Nat → FieldType, (∀ k, k < N → parseFieldDescriptor (T k).2.2.1 = some (ty0 k)) ∧ ∀ a, a < N → ∀ b, b < N → a ≠ b → (T a).2.1 ≠ (T b).2.1) :=
  ⟨fun w hw => by obtain ⟨k, hk, rfl⟩ := List.mem_map.mp hw; exact h1 k (List.mem_range.mp hk), ty, h3, h4⟩
theorem am_cls0 (ci : Nat) (q : vw_C) (h : am_cl[ci]? = some q) : (∀ w ∈ u_ws q.1 q.2.1 q.2.2, w ∈ am_gw) ∧ (∃ ty0 : Nat → FieldType, (∀ k, k < q.2.2 → parseFieldDescriptor (q.2.1 k).2.2.1 = some (ty0 k)) ∧ ∀ a, a < q.2.2 → ∀ b, b < q.2.2 → a ≠ b → (q.2.1 a).2.1 ≠ (q.2.1 b).2.1) := by
  have hl : ci < 15 := (List.getElem?_eq_some_iff.mp h).1
  rcases (by omega : ci = 0 ∨ ci = 1 ∨ ci = 2 ∨ ci = 3 ∨ ci = 4 ∨ ci = 5 ∨ ci = 6 ∨ ci = 7 ∨ ci = 8 ∨ ci = 9 ∨ ci = 10 ∨ ci = 11 ∨ ci = 12 ∨ ci = 13 ∨ ci = 14) with rfl | rfl | rfl | rfl | rfl | rfl | rfl | rfl | rfl | rfl | rfl | rfl | rfl | rfl | rfl
  · cases h
    exact am_cl1 ci_W ct_W cn_W
  · cases h
    exact am_cl1 ci_B ct_B cn_B
  · cases h
    exact am_cl1 ci_A ct_A cn_A
  · cases h
    exact am_cl1 ci_P ct_P cn_P
  · cases h
    exact am_cl1 ci_R ct_R cn_R
  · cases h
    exact am_cl1 ci_S ct_S cn_S
  · cases h
    exact am_cl1 ci_V ct_V cn_V
  · cases h
    exact am_cl1 ci_C ct_C cn_C
  · cases h
    exact am_cl1 ci_D ct_D cn_D
  · cases h
    exact am_cl1 ci_N ct_N cn_N
  · cases h
    exact am_cl1 ci_G ct_G cn_G
  · cases h
    exact am_cl1 ci_T ct_T cn_T
  · cases h
    exact am_cl1 ci_M ct_M cn_M
  · cases h
    exact am_cl1 (ty := fun _ => .int) (fun k hk => absurd hk (Nat.not_lt_zero k)) (fun k hk => absurd hk (Nat.not_lt_zero k)) (fun k hk => absurd hk (Nat.not_lt_zero k))
  · cases h
    exact am_cl1 (ty := fun _ => .int) (fun k hk => absurd hk (Nat.not_lt_zero k)) (fun k hk => absurd hk (Nat.not_lt_zero k)) (fun k hk => absurd hk (Nat.not_lt_zero k))
theorem am_cls (ci : Nat) (q : vw_C) (h : am_cl[ci]? = some q) : (∀ w ∈ u_ws q.1 q.2.1 q.2.2, w ∈ am_gw) ∧ (∃ ty0 : Nat → FieldType, (∀ k, k < q.2.2 → parseFieldDescriptor (q.2.1 k).2.2.1 = some (ty0 k)) ∧ ∀ a, a < q.2.2 → ∀ b, b < q.2.2 → a ≠ b → (q.2.1 a).2.1 ≠ (q.2.1 b).2.1) ∧ True := ⟨(am_cls0 ci q h).1, (am_cls0 ci q h).2, trivial⟩
abbrev am_Mt : Type := MethodName × ByteArray × Nat × Option FieldType
abbrev mt_W_init : am_Mt := (⟨"WebFinder", "<init>", "()V"⟩, prog_1_method_1_code, 1, none)
abbrev mt_JObject_init : am_Mt := (⟨"java/lang/Object", "<init>", "()V"⟩, object_method_1_code, 1, none)
abbrev mt_B_init : am_Mt := (⟨"WebFinder$Bytes", "<init>", "(I)V"⟩, prog_4_method_1_code, 2, none)
abbrev mt_A_init : am_Mt := (⟨"WebFinder$AddressReader", "<init>", "()V"⟩, prog_2_method_1_code, 1, none)
abbrev mt_P_init : am_Mt := (⟨"WebFinder$PageReader", "<init>", "(LWebFinder$AddressReader;)V"⟩, prog_8_method_1_code, 2, none)
abbrev mt_R_init : am_Mt := (⟨"WebFinder$Rows", "<init>", "(II)V"⟩, prog_10_method_1_code, 3, none)
abbrev mt_S_init : am_Mt := (⟨"WebFinder$PageScanner", "<init>", "()V"⟩, prog_9_method_1_code, 1, none)
abbrev mt_V_init : am_Mt := (⟨"WebFinder$Web", "<init>", "()V"⟩, prog_12_method_1_code, 1, none)
abbrev mt_C_init : am_Mt := (⟨"WebFinder$Crawl", "<init>", "(LWebFinder$Web;LWebFinder$AddressReader;LWebFinder$PageReader;)V"⟩, prog_5_method_1_code, 4, none)
abbrev mt_D_init : am_Mt := (⟨"WebFinder$Documents", "<init>", "(LWebFinder$PageReader;)V"⟩, prog_6_method_1_code, 2, none)
abbrev mt_N_init : am_Mt := (⟨"WebFinder$Answers", "<init>", "()V"⟩, prog_3_method_1_code, 1, none)
abbrev mt_W_read : am_Mt := (⟨"WebFinder", "read", "()I"⟩, prog_1_method_4_code, 1, (some .int))
abbrev mt_W_resolveLine : am_Mt := (⟨"WebFinder", "resolveLine", "()Z"⟩, prog_1_method_32_code, 1, (some .boolean))
abbrev mt_W_lineTo : am_Mt := (⟨"WebFinder", "lineTo", "()I"⟩, prog_1_method_30_code, 1, (some .int))
abbrev mt_W_indexOf : am_Mt := (⟨"WebFinder", "indexOf", "([BIII)I"⟩, prog_1_method_42_code, 5, (some .int))
abbrev mt_A_resolve : am_Mt := (⟨"WebFinder$AddressReader", "resolve", "([BIILWebFinder$Bytes;)Z"⟩, prog_2_method_2_code, 9, (some .boolean))
abbrev mt_B_clear : am_Mt := (⟨"WebFinder$Bytes", "clear", "()V"⟩, prog_4_method_2_code, 1, none)
abbrev mt_W_trimmedFrom : am_Mt := (⟨"WebFinder", "trimmedFrom", "([BII)I"⟩, prog_1_method_43_code, 4, (some .int))
abbrev mt_W_isBlank : am_Mt := (⟨"WebFinder", "isBlank", "(I)Z"⟩, prog_1_method_36_code, 1, (some .boolean))
abbrev mt_W_trimmedTo : am_Mt := (⟨"WebFinder", "trimmedTo", "([BII)I"⟩, prog_1_method_44_code, 4, (some .int))
abbrev mt_A_isClean : am_Mt := (⟨"WebFinder$AddressReader", "isClean", "([BII)Z"⟩, prog_2_method_3_code, 5, (some .boolean))
abbrev mt_JString_indexOf_0 : am_Mt := (⟨"java/lang/String", "indexOf", "(I)I"⟩, prog_24_method_79_code, 2, (some .int))
abbrev mt_JString_indexOf_1 : am_Mt := (⟨"java/lang/String", "indexOf", "(II)I"⟩, prog_24_method_80_code, 3, (some .int))
abbrev mt_JString_isLatin1 : am_Mt := (⟨"java/lang/String", "isLatin1", "()Z"⟩, prog_24_method_154_code, 1, (some .boolean))
abbrev mt_JString_length : am_Mt := (⟨"java/lang/String", "length", "()I"⟩, prog_24_method_54_code, 1, (some .int))
abbrev mt_JString_coder : am_Mt := (⟨"java/lang/String", "coder", "()B"⟩, prog_24_method_152_code, 1, (some .byte))
abbrev mt_JStringLatin1_indexOf : am_Mt := (⟨"java/lang/StringLatin1", "indexOf", "([BIII)I"⟩, prog_26_method_22_code, 4, (some .int))
abbrev mt_JStringLatin1_canEncode : am_Mt := (⟨"java/lang/StringLatin1", "canEncode", "(I)Z"⟩, prog_26_method_4_code, 1, (some .boolean))
abbrev mt_JMath_max : am_Mt := (⟨"java/lang/Math", "max", "(II)I"⟩, prog_22_method_65_code, 2, (some .int))
abbrev mt_JMath_min : am_Mt := (⟨"java/lang/Math", "min", "(II)I"⟩, prog_22_method_69_code, 2, (some .int))
abbrev mt_JStringLatin1_indexOfChar : am_Mt := (⟨"java/lang/StringLatin1", "indexOfChar", "([BIII)I"⟩, prog_26_method_23_code, 6, (some .int))
abbrev mt_JStringUTF16_indexOf : am_Mt := (⟨"java/lang/StringUTF16", "indexOf", "([BIII)I"⟩, prog_27_method_40_code, 4, (some .int))
abbrev mt_JStringUTF16_indexOfChar : am_Mt := (⟨"java/lang/StringUTF16", "indexOfChar", "([BIII)I"⟩, prog_27_method_47_code, 4, (some .int))
abbrev mt_JStringUTF16_checkBoundsBeginEnd : am_Mt := (⟨"java/lang/StringUTF16", "checkBoundsBeginEnd", "(II[B)V"⟩, prog_27_method_93_code, 3, none)
abbrev mt_JStringUTF16_length : am_Mt := (⟨"java/lang/StringUTF16", "length", "([B)I"⟩, prog_27_method_6_code, 1, (some .int))
abbrev mt_JString_checkBoundsBeginEnd : am_Mt := (⟨"java/lang/String", "checkBoundsBeginEnd", "(III)V"⟩, prog_24_method_158_code, 3, none)
abbrev mt_JPreconditions_checkFromToIndex : am_Mt := (⟨"jdk/internal/util/Preconditions", "checkFromToIndex", "(IIILjava/util/function/BiFunction;)I"⟩, prog_32_method_12_code, 4, (some .int))
abbrev mt_JStringUTF16_indexOfCharUnsafe : am_Mt := (⟨"java/lang/StringUTF16", "indexOfCharUnsafe", "([BIII)I"⟩, prog_27_method_48_code, 5, (some .int))
abbrev mt_JStringUTF16_getChar : am_Mt := (⟨"java/lang/StringUTF16", "getChar", "([BI)C"⟩, prog_27_method_5_code, 2, (some .char))
abbrev mt_JStringUTF16_indexOfSupplementary : am_Mt := (⟨"java/lang/StringUTF16", "indexOfSupplementary", "([BIII)I"⟩, prog_27_method_49_code, 7, (some .int))
abbrev mt_JCharacter_isValidCodePoint : am_Mt := (⟨"java/lang/Character", "isValidCodePoint", "(I)Z"⟩, prog_16_method_11_code, 2, (some .boolean))
abbrev mt_JCharacter_highSurrogate : am_Mt := (⟨"java/lang/Character", "highSurrogate", "(I)C"⟩, prog_16_method_28_code, 1, (some .char))
abbrev mt_JCharacter_lowSurrogate : am_Mt := (⟨"java/lang/Character", "lowSurrogate", "(I)C"⟩, prog_16_method_29_code, 1, (some .char))
abbrev mt_W_escapedByte : am_Mt := (⟨"WebFinder", "escapedByte", "([BII)I"⟩, prog_1_method_41_code, 5, (some .int))
abbrev mt_W_hexValue : am_Mt := (⟨"WebFinder", "hexValue", "(I)I"⟩, prog_1_method_40_code, 1, (some .int))
abbrev mt_W_isLower : am_Mt := (⟨"WebFinder", "isLower", "([BIILjava/lang/String;)Z"⟩, prog_1_method_46_code, 5, (some .boolean))
abbrev mt_W_lower : am_Mt := (⟨"WebFinder", "lower", "(I)I"⟩, prog_1_method_39_code, 1, (some .int))
abbrev mt_JString_charAt : am_Mt := (⟨"java/lang/String", "charAt", "(I)C"⟩, prog_24_method_56_code, 2, (some .char))
abbrev mt_JStringLatin1_charAt : am_Mt := (⟨"java/lang/StringLatin1", "charAt", "([BI)C"⟩, prog_26_method_2_code, 2, (some .char))
abbrev mt_JString_checkIndex : am_Mt := (⟨"java/lang/String", "checkIndex", "(II)V"⟩, prog_24_method_155_code, 2, none)
abbrev mt_JPreconditions_checkIndex : am_Mt := (⟨"jdk/internal/util/Preconditions", "checkIndex", "(IILjava/util/function/BiFunction;)I"⟩, prog_32_method_11_code, 3, (some .int))
abbrev mt_JStringUTF16_charAt : am_Mt := (⟨"java/lang/StringUTF16", "charAt", "([BI)C"⟩, prog_27_method_83_code, 2, (some .char))
abbrev mt_JStringUTF16_checkIndex : am_Mt := (⟨"java/lang/StringUTF16", "checkIndex", "(I[B)V"⟩, prog_27_method_91_code, 2, none)
abbrev mt_W_beginsWith : am_Mt := (⟨"WebFinder", "beginsWith", "([BIILjava/lang/String;)Z"⟩, prog_1_method_47_code, 5, (some .boolean))
abbrev mt_A_joinHost : am_Mt := (⟨"WebFinder$AddressReader", "joinHost", "([BII)I"⟩, prog_2_method_4_code, 8, (some .int))
abbrev mt_A_portOf : am_Mt := (⟨"WebFinder$AddressReader", "portOf", "([BII)I"⟩, prog_2_method_6_code, 5, (some .int))
abbrev mt_W_isDigit : am_Mt := (⟨"WebFinder", "isDigit", "(I)Z"⟩, prog_1_method_38_code, 1, (some .boolean))
abbrev mt_A_isHost : am_Mt := (⟨"WebFinder$AddressReader", "isHost", "([BII)Z"⟩, prog_2_method_5_code, 5, (some .boolean))
abbrev mt_W_isLetter : am_Mt := (⟨"WebFinder", "isLetter", "(I)Z"⟩, prog_1_method_37_code, 1, (some .boolean))
abbrev mt_B_putText : am_Mt := (⟨"WebFinder$Bytes", "putText", "(Ljava/lang/String;)V"⟩, prog_4_method_8_code, 3, none)
abbrev mt_B_put : am_Mt := (⟨"WebFinder$Bytes", "put", "(I)V"⟩, prog_4_method_4_code, 2, none)
abbrev mt_JArrays_copyOf_0 : am_Mt := (⟨"java/util/Arrays", "copyOf", "([BI)[B"⟩, prog_30_method_121_code, 3, (some (.array .byte)))
abbrev mt_B_putLower : am_Mt := (⟨"WebFinder$Bytes", "putLower", "([BII)V"⟩, prog_4_method_7_code, 5, none)
abbrev mt_B_putAll : am_Mt := (⟨"WebFinder$Bytes", "putAll", "([BII)V"⟩, prog_4_method_6_code, 5, none)
abbrev mt_A_joinBase : am_Mt := (⟨"WebFinder$AddressReader", "joinBase", "([BIILWebFinder$Bytes;)I"⟩, prog_2_method_7_code, 8, (some .int))
abbrev mt_W_siteTo : am_Mt := (⟨"WebFinder", "siteTo", "([BI)I"⟩, prog_1_method_48_code, 2, (some .int))
abbrev mt_A_behindLastSlash : am_Mt := (⟨"WebFinder$AddressReader", "behindLastSlash", "([BII)I"⟩, prog_2_method_8_code, 4, (some .int))
abbrev mt_B_putUnescaped : am_Mt := (⟨"WebFinder$Bytes", "putUnescaped", "([BII)V"⟩, prog_4_method_9_code, 6, none)
abbrev mt_A_foldPath : am_Mt := (⟨"WebFinder$AddressReader", "foldPath", "()V"⟩, prog_2_method_9_code, 8, none)
abbrev mt_A_dropSegment : am_Mt := (⟨"WebFinder$AddressReader", "dropSegment", "(I)V"⟩, prog_2_method_10_code, 3, none)
abbrev mt_B_become : am_Mt := (⟨"WebFinder$Bytes", "become", "(LWebFinder$Bytes;)V"⟩, prog_4_method_3_code, 2, none)
abbrev mt_W_restFrom : am_Mt := (⟨"WebFinder", "restFrom", "()I"⟩, prog_1_method_31_code, 1, (some .int))
abbrev mt_W_page : am_Mt := (⟨"WebFinder", "page", "(I)I"⟩, prog_1_method_5_code, 4, (some .int))
abbrev mt_V_tellPage : am_Mt := (⟨"WebFinder$Web", "tellPage", "(LWebFinder$Bytes;ILWebFinder$Bytes;I)I"⟩, prog_12_method_4_code, 6, (some .int))
abbrev mt_V_pageNumber : am_Mt := (⟨"WebFinder$Web", "pageNumber", "(LWebFinder$Bytes;)I"⟩, prog_12_method_2_code, 3, (some .int))
abbrev mt_G_isAt : am_Mt := (⟨"WebFinder$Page", "isAt", "(LWebFinder$Bytes;)Z"⟩, prog_7_method_2_code, 2, (some .boolean))
abbrev mt_W_sameBytes : am_Mt := (⟨"WebFinder", "sameBytes", "([BI[BII)Z"⟩, prog_1_method_45_code, 6, (some .boolean))
abbrev mt_G_init : am_Mt := (⟨"WebFinder$Page", "<init>", "(LWebFinder$Bytes;ILWebFinder$Bytes;I)V"⟩, prog_7_method_1_code, 5, none)
abbrev mt_JArrays_copyOfRange : am_Mt := (⟨"java/util/Arrays", "copyOfRange", "([BII)[B"⟩, prog_30_method_132_code, 3, (some (.array .byte)))
abbrev mt_JArrays_copyOfRangeByte : am_Mt := (⟨"java/util/Arrays", "copyOfRangeByte", "([BII)[B"⟩, prog_30_method_133_code, 5, (some (.array .byte)))
abbrev mt_JArrays_checkLength : am_Mt := (⟨"java/util/Arrays", "checkLength", "(II)V"⟩, prog_30_method_131_code, 2, none)
abbrev mt_JThrowable_init_0 : am_Mt := (⟨"java/lang/Throwable", "<init>", "()V"⟩, prog_29_method_1_code, 1, none)
abbrev mt_JStringBuilder_init : am_Mt := (⟨"java/lang/StringBuilder", "<init>", "()V"⟩, prog_25_method_1_code, 1, none)
abbrev mt_JAbstractStringBuilder_init : am_Mt := (⟨"java/lang/AbstractStringBuilder", "<init>", "(I)V"⟩, prog_15_method_2_code, 2, none)
abbrev mt_JStringUTF16_newBytesFor : am_Mt := (⟨"java/lang/StringUTF16", "newBytesFor", "(I)[B"⟩, prog_27_method_2_code, 1, (some (.array .byte)))
abbrev mt_JStringUTF16_newBytesLength : am_Mt := (⟨"java/lang/StringUTF16", "newBytesLength", "(I)I"⟩, prog_27_method_3_code, 1, (some .int))
abbrev mt_JStringBuilder_append_0 : am_Mt := (⟨"java/lang/StringBuilder", "append", "(I)Ljava/lang/StringBuilder;"⟩, prog_25_method_15_code, 2, (some (.object "java/lang/StringBuilder")))
abbrev mt_JAbstractStringBuilder_append_0 : am_Mt := (⟨"java/lang/AbstractStringBuilder", "append", "(I)Ljava/lang/AbstractStringBuilder;"⟩, prog_15_method_32_code, 4, (some (.object "java/lang/AbstractStringBuilder")))
abbrev mt_JInteger_stringSize : am_Mt := (⟨"java/lang/Integer", "stringSize", "(I)I"⟩, prog_21_method_13_code, 4, (some .int))
abbrev mt_JAbstractStringBuilder_ensureCapacityInternal : am_Mt := (⟨"java/lang/AbstractStringBuilder", "ensureCapacityInternal", "(I)V"⟩, prog_15_method_9_code, 3, none)
abbrev mt_JAbstractStringBuilder_newCapacity : am_Mt := (⟨"java/lang/AbstractStringBuilder", "newCapacity", "(I)I"⟩, prog_15_method_10_code, 6, (some .int))
abbrev mt_JArraysSupport_newLength : am_Mt := (⟨"jdk/internal/util/ArraysSupport", "newLength", "(III)I"⟩, prog_31_method_27_code, 4, (some .int))
abbrev mt_JArraysSupport_hugeLength : am_Mt := (⟨"jdk/internal/util/ArraysSupport", "hugeLength", "(II)I"⟩, prog_31_method_28_code, 3, (some .int))
abbrev mt_JAbstractStringBuilder_isLatin1 : am_Mt := (⟨"java/lang/AbstractStringBuilder", "isLatin1", "()Z"⟩, prog_15_method_68_code, 1, (some .boolean))
abbrev mt_JInteger_getChars : am_Mt := (⟨"java/lang/Integer", "getChars", "(II[B)I"⟩, prog_21_method_12_code, 7, (some .int))
abbrev mt_JStringUTF16_getChars_0 : am_Mt := (⟨"java/lang/StringUTF16", "getChars", "(III[B)I"⟩, prog_27_method_77_code, 5, (some .int))
abbrev mt_JStringUTF16_getChars_1 : am_Mt := (⟨"java/lang/StringUTF16", "getChars", "(II[B)I"⟩, prog_27_method_89_code, 7, (some .int))
abbrev mt_JStringUTF16_putChar : am_Mt := (⟨"java/lang/StringUTF16", "putChar", "([BII)V"⟩, prog_27_method_4_code, 3, none)
abbrev mt_JStringBuilder_append_1 : am_Mt := (⟨"java/lang/StringBuilder", "append", "(Ljava/lang/String;)Ljava/lang/StringBuilder;"⟩, prog_25_method_7_code, 2, (some (.object "java/lang/StringBuilder")))
abbrev mt_JAbstractStringBuilder_append_1 : am_Mt := (⟨"java/lang/AbstractStringBuilder", "append", "(Ljava/lang/String;)Ljava/lang/AbstractStringBuilder;"⟩, prog_15_method_22_code, 3, (some (.object "java/lang/AbstractStringBuilder")))
abbrev mt_JAbstractStringBuilder_appendNull : am_Mt := (⟨"java/lang/AbstractStringBuilder", "appendNull", "()Ljava/lang/AbstractStringBuilder;"⟩, prog_15_method_26_code, 3, (some (.object "java/lang/AbstractStringBuilder")))
abbrev mt_JStringUTF16_putCharsAt : am_Mt := (⟨"java/lang/StringUTF16", "putCharsAt", "([BICCCC)I"⟩, prog_27_method_81_code, 7, (some .int))
abbrev mt_JAbstractStringBuilder_putStringAt : am_Mt := (⟨"java/lang/AbstractStringBuilder", "putStringAt", "(ILjava/lang/String;)V"⟩, prog_15_method_73_code, 3, none)
abbrev mt_JAbstractStringBuilder_inflateIfNeededFor : am_Mt := (⟨"java/lang/AbstractStringBuilder", "inflateIfNeededFor", "(Ljava/lang/String;)V"⟩, prog_15_method_71_code, 2, none)
abbrev mt_JAbstractStringBuilder_inflate : am_Mt := (⟨"java/lang/AbstractStringBuilder", "inflate", "()V"⟩, prog_15_method_11_code, 2, none)
abbrev mt_JStringLatin1_inflate : am_Mt := (⟨"java/lang/StringLatin1", "inflate", "([BI[BII)V"⟩, prog_26_method_50_code, 5, none)
abbrev mt_JStringUTF16_inflate : am_Mt := (⟨"java/lang/StringUTF16", "inflate", "([BI[BII)V"⟩, prog_27_method_86_code, 6, none)
abbrev mt_JStringUTF16_checkBoundsOffCount : am_Mt := (⟨"java/lang/StringUTF16", "checkBoundsOffCount", "(II[B)V"⟩, prog_27_method_94_code, 3, none)
abbrev mt_JString_checkBoundsOffCount : am_Mt := (⟨"java/lang/String", "checkBoundsOffCount", "(III)I"⟩, prog_24_method_157_code, 3, (some .int))
abbrev mt_JPreconditions_checkFromIndexSize : am_Mt := (⟨"jdk/internal/util/Preconditions", "checkFromIndexSize", "(IIILjava/util/function/BiFunction;)I"⟩, prog_32_method_13_code, 4, (some .int))
abbrev mt_JString_getBytes : am_Mt := (⟨"java/lang/String", "getBytes", "([BIB)V"⟩, prog_24_method_147_code, 4, none)
abbrev mt_JStringBuilder_toString : am_Mt := (⟨"java/lang/StringBuilder", "toString", "()Ljava/lang/String;"⟩, prog_25_method_42_code, 1, (some (.object "java/lang/String")))
abbrev mt_JString_init_1 : am_Mt := (⟨"java/lang/String", "<init>", "(Ljava/lang/StringBuilder;)V"⟩, prog_24_method_53_code, 2, none)
abbrev mt_JString_init_0 : am_Mt := (⟨"java/lang/String", "<init>", "(Ljava/lang/AbstractStringBuilder;Ljava/lang/Void;)V"⟩, prog_24_method_150_code, 5, none)
abbrev mt_JAbstractStringBuilder_getValue : am_Mt := (⟨"java/lang/AbstractStringBuilder", "getValue", "()[B"⟩, prog_15_method_64_code, 1, (some (.array .byte)))
abbrev mt_JStringBuilder_length : am_Mt := (⟨"java/lang/StringBuilder", "length", "()I"⟩, prog_25_method_93_code, 1, (some .int))
abbrev mt_JAbstractStringBuilder_length : am_Mt := (⟨"java/lang/AbstractStringBuilder", "length", "()I"⟩, prog_15_method_6_code, 1, (some .int))
abbrev mt_JStringUTF16_compress_0 : am_Mt := (⟨"java/lang/StringUTF16", "compress", "([BII)[B"⟩, prog_27_method_17_code, 6, (some (.array .byte)))
abbrev mt_JStringUTF16_compress_1 : am_Mt := (⟨"java/lang/StringUTF16", "compress", "([BI[BII)I"⟩, prog_27_method_22_code, 7, (some .int))
abbrev mt_JStringUTF16_coderFromArrayLen : am_Mt := (⟨"java/lang/StringUTF16", "coderFromArrayLen", "([BI)B"⟩, prog_27_method_15_code, 2, (some .byte))
abbrev mt_JIllegalArgumentException_init_1 : am_Mt := (⟨"java/lang/IllegalArgumentException", "<init>", "(Ljava/lang/String;)V"⟩, prog_19_method_2_code, 2, none)
abbrev mt_JRuntimeException_init_1 : am_Mt := (⟨"java/lang/RuntimeException", "<init>", "(Ljava/lang/String;)V"⟩, prog_23_method_2_code, 2, none)
abbrev mt_JException_init_1 : am_Mt := (⟨"java/lang/Exception", "<init>", "(Ljava/lang/String;)V"⟩, prog_18_method_2_code, 2, none)
abbrev mt_JThrowable_init_1 : am_Mt := (⟨"java/lang/Throwable", "<init>", "(Ljava/lang/String;)V"⟩, prog_29_method_2_code, 2, none)
abbrev mt_W_drop : am_Mt := (⟨"WebFinder", "drop", "()Z"⟩, prog_1_method_6_code, 1, (some .boolean))
abbrev mt_W_resolveTape : am_Mt := (⟨"WebFinder", "resolveTape", "()Z"⟩, prog_1_method_33_code, 2, (some .boolean))
abbrev mt_V_dropPage : am_Mt := (⟨"WebFinder$Web", "dropPage", "(LWebFinder$Bytes;)Z"⟩, prog_12_method_5_code, 3, (some .boolean))
abbrev mt_W_rules : am_Mt := (⟨"WebFinder", "rules", "()I"⟩, prog_1_method_7_code, 2, (some .int))
abbrev mt_V_tellRules : am_Mt := (⟨"WebFinder$Web", "tellRules", "(LWebFinder$Bytes;LWebFinder$Bytes;I)I"⟩, prog_12_method_7_code, 5, (some .int))
abbrev mt_V_siteNumber : am_Mt := (⟨"WebFinder$Web", "siteNumber", "(LWebFinder$Bytes;)I"⟩, prog_12_method_6_code, 6, (some .int))
abbrev mt_T_init : am_Mt := (⟨"WebFinder$SiteRules", "<init>", "()V"⟩, prog_11_method_1_code, 1, none)
abbrev mt_T_tell : am_Mt := (⟨"WebFinder$SiteRules", "tell", "([BII)I"⟩, prog_11_method_2_code, 4, (some .int))
abbrev mt_T_collect : am_Mt := (⟨"WebFinder$SiteRules", "collect", "([BIILjava/lang/String;)Z"⟩, prog_11_method_3_code, 17, (some .boolean))
abbrev mt_R_clear : am_Mt := (⟨"WebFinder$Rows", "clear", "()V"⟩, prog_10_method_2_code, 1, none)
abbrev mt_R_cut : am_Mt := (⟨"WebFinder$Rows", "cut", "(I)V"⟩, prog_10_method_3_code, 2, none)
abbrev mt_R_from : am_Mt := (⟨"WebFinder$Rows", "from", "(I)I"⟩, prog_10_method_4_code, 2, (some .int))
abbrev mt_T_addPattern : am_Mt := (⟨"WebFinder$SiteRules", "addPattern", "(LWebFinder$Rows;[BII)V"⟩, prog_11_method_4_code, 4, none)
abbrev mt_R_close : am_Mt := (⟨"WebFinder$Rows", "close", "()V"⟩, prog_10_method_7_code, 1, none)
abbrev mt_JArrays_copyOf_1 : am_Mt := (⟨"java/util/Arrays", "copyOf", "([II)[I"⟩, prog_30_method_123_code, 3, (some (.array .int)))
abbrev mt_W_allowed : am_Mt := (⟨"WebFinder", "allowed", "()I"⟩, prog_1_method_8_code, 1, (some .int))
abbrev mt_V_allows : am_Mt := (⟨"WebFinder$Web", "allows", "(LWebFinder$Bytes;)Z"⟩, prog_12_method_8_code, 3, (some .boolean))
abbrev mt_T_allows : am_Mt := (⟨"WebFinder$SiteRules", "allows", "(LWebFinder$Bytes;)Z"⟩, prog_11_method_5_code, 2, (some .boolean))
abbrev mt_T_longestMatch : am_Mt := (⟨"WebFinder$SiteRules", "longestMatch", "(LWebFinder$Rows;LWebFinder$Bytes;)I"⟩, prog_11_method_6_code, 5, (some .int))
abbrev mt_R_to : am_Mt := (⟨"WebFinder$Rows", "to", "(I)I"⟩, prog_10_method_5_code, 2, (some .int))
abbrev mt_T_matches : am_Mt := (⟨"WebFinder$SiteRules", "matches", "(LWebFinder$Rows;ILWebFinder$Bytes;)Z"⟩, prog_11_method_7_code, 12, (some .boolean))
abbrev mt_T_standsAt : am_Mt := (⟨"WebFinder$SiteRules", "standsAt", "([BIILWebFinder$Bytes;I)Z"⟩, prog_11_method_8_code, 5, (some .boolean))
abbrev mt_T_firstPlace : am_Mt := (⟨"WebFinder$SiteRules", "firstPlace", "([BIILWebFinder$Bytes;I)I"⟩, prog_11_method_9_code, 6, (some .int))
abbrev mt_W_look : am_Mt := (⟨"WebFinder", "look", "(I)I"⟩, prog_1_method_9_code, 4, (some .int))
abbrev mt_P_readLinks : am_Mt := (⟨"WebFinder$PageReader", "readLinks", "([BIILWebFinder$Bytes;)V"⟩, prog_8_method_2_code, 6, none)
abbrev mt_S_open : am_Mt := (⟨"WebFinder$PageScanner", "open", "([BII)V"⟩, prog_9_method_2_code, 4, none)
abbrev mt_S_next : am_Mt := (⟨"WebFinder$PageScanner", "next", "()I"⟩, prog_9_method_3_code, 2, (some .int))
abbrev mt_S_kindAt : am_Mt := (⟨"WebFinder$PageScanner", "kindAt", "(I)I"⟩, prog_9_method_5_code, 3, (some .int))
abbrev mt_S_passTag : am_Mt := (⟨"WebFinder$PageScanner", "passTag", "()I"⟩, prog_9_method_7_code, 3, (some .int))
abbrev mt_S_tagNameEnd : am_Mt := (⟨"WebFinder$PageScanner", "tagNameEnd", "(I)I"⟩, prog_9_method_8_code, 3, (some .int))
abbrev mt_S_rawTo : am_Mt := (⟨"WebFinder$PageScanner", "rawTo", "(I)I"⟩, prog_9_method_12_code, 6, (some .int))
abbrev mt_S_passAttribute : am_Mt := (⟨"WebFinder$PageScanner", "passAttribute", "()V"⟩, prog_9_method_10_code, 7, none)
abbrev mt_S_attributeNameEnd : am_Mt := (⟨"WebFinder$PageScanner", "attributeNameEnd", "(I)I"⟩, prog_9_method_9_code, 3, (some .int))
abbrev mt_S_bareValueTo : am_Mt := (⟨"WebFinder$PageScanner", "bareValueTo", "(I)I"⟩, prog_9_method_11_code, 3, (some .int))
abbrev mt_S_remarkTo : am_Mt := (⟨"WebFinder$PageScanner", "remarkTo", "()I"⟩, prog_9_method_6_code, 2, (some .int))
abbrev mt_S_hasHref : am_Mt := (⟨"WebFinder$PageScanner", "hasHref", "(Ljava/lang/String;)Z"⟩, prog_9_method_4_code, 2, (some .boolean))
abbrev mt_P_decode : am_Mt := (⟨"WebFinder$PageReader", "decode", "([BII)V"⟩, prog_8_method_6_code, 9, none)
abbrev mt_P_referenced : am_Mt := (⟨"WebFinder$PageReader", "referenced", "([BII)I"⟩, prog_8_method_7_code, 4, (some .int))
abbrev mt_P_numbered : am_Mt := (⟨"WebFinder$PageReader", "numbered", "([BIII)I"⟩, prog_8_method_9_code, 7, (some .int))
abbrev mt_P_isExactly : am_Mt := (⟨"WebFinder$PageReader", "isExactly", "([BIILjava/lang/String;)Z"⟩, prog_8_method_8_code, 5, (some .boolean))
abbrev mt_P_addLink : am_Mt := (⟨"WebFinder$PageReader", "addLink", "(LWebFinder$Bytes;)V"⟩, prog_8_method_3_code, 2, none)
abbrev mt_R_numberOf : am_Mt := (⟨"WebFinder$Rows", "numberOf", "([BII)I"⟩, prog_10_method_9_code, 5, (some .int))
abbrev mt_R_same : am_Mt := (⟨"WebFinder$Rows", "same", "(I[BII)Z"⟩, prog_10_method_8_code, 6, (some .boolean))
abbrev mt_R_add : am_Mt := (⟨"WebFinder$Rows", "add", "([BII)V"⟩, prog_10_method_6_code, 4, none)
abbrev mt_W_produceLines : am_Mt := (⟨"WebFinder", "produceLines", "(LWebFinder$Rows;)I"⟩, prog_1_method_35_code, 3, (some .int))
abbrev mt_P_readWords : am_Mt := (⟨"WebFinder$PageReader", "readWords", "([BIILWebFinder$Rows;)V"⟩, prog_8_method_4_code, 7, none)
abbrev mt_P_splitWords : am_Mt := (⟨"WebFinder$PageReader", "splitWords", "(LWebFinder$Bytes;LWebFinder$Rows;)V"⟩, prog_8_method_5_code, 5, none)
abbrev mt_W_set : am_Mt := (⟨"WebFinder", "set", "(II)Z"⟩, prog_1_method_10_code, 3, (some .boolean))
abbrev mt_W_seed : am_Mt := (⟨"WebFinder", "seed", "()I"⟩, prog_1_method_11_code, 1, (some .int))
abbrev mt_W_noSeeds : am_Mt := (⟨"WebFinder", "noSeeds", "()V"⟩, prog_1_method_12_code, 1, none)
abbrev mt_W_start : am_Mt := (⟨"WebFinder", "start", "()I"⟩, prog_1_method_13_code, 1, (some .int))
abbrev mt_C_begin : am_Mt := (⟨"WebFinder$Crawl", "begin", "(LWebFinder$Rows;[I)V"⟩, prog_5_method_2_code, 4, none)
abbrev mt_C_meet : am_Mt := (⟨"WebFinder$Crawl", "meet", "([BIIII)I"⟩, prog_5_method_13_code, 7, (some .int))
abbrev mt_C_isLess : am_Mt := (⟨"WebFinder$Crawl", "isLess", "(III)Z"⟩, prog_5_method_9_code, 4, (some .boolean))
abbrev mt_C_save : am_Mt := (⟨"WebFinder$Crawl", "save", "()V"⟩, prog_5_method_14_code, 1, none)
abbrev mt_C_copyMarks : am_Mt := (⟨"WebFinder$Crawl", "copyMarks", "([[I[[I)V"⟩, prog_5_method_16_code, 4, none)
abbrev mt_W_step : am_Mt := (⟨"WebFinder", "step", "()I"⟩, prog_1_method_14_code, 1, (some .int))
abbrev mt_C_takeStep : am_Mt := (⟨"WebFinder$Crawl", "takeStep", "()I"⟩, prog_5_method_4_code, 3, (some .int))
abbrev mt_C_nextWaiting : am_Mt := (⟨"WebFinder$Crawl", "nextWaiting", "()I"⟩, prog_5_method_8_code, 3, (some .int))
abbrev mt_C_letRest : am_Mt := (⟨"WebFinder$Crawl", "letRest", "()V"⟩, prog_5_method_10_code, 4, none)
abbrev mt_C_beginsAsHere : am_Mt := (⟨"WebFinder$Crawl", "beginsAsHere", "(II)Z"⟩, prog_5_method_11_code, 4, (some .boolean))
abbrev mt_C_noteAsking : am_Mt := (⟨"WebFinder$Crawl", "noteAsking", "(I)V"⟩, prog_5_method_12_code, 2, none)
abbrev mt_V_pageAt : am_Mt := (⟨"WebFinder$Web", "pageAt", "(LWebFinder$Bytes;)LWebFinder$Page;"⟩, prog_12_method_3_code, 3, (some (.object "WebFinder$Page")))
abbrev mt_C_keepPage : am_Mt := (⟨"WebFinder$Crawl", "keepPage", "(ILWebFinder$Page;)V"⟩, prog_5_method_5_code, 5, none)
abbrev mt_C_mayLeadOn : am_Mt := (⟨"WebFinder$Crawl", "mayLeadOn", "(ILWebFinder$Page;)Z"⟩, prog_5_method_6_code, 3, (some .boolean))
abbrev mt_C_leadOn : am_Mt := (⟨"WebFinder$Crawl", "leadOn", "(ILWebFinder$Bytes;)V"⟩, prog_5_method_7_code, 3, none)
abbrev mt_W_run : am_Mt := (⟨"WebFinder", "run", "(I)I"⟩, prog_1_method_15_code, 4, (some .int))
abbrev mt_W_crash : am_Mt := (⟨"WebFinder", "crash", "()Z"⟩, prog_1_method_16_code, 1, (some .boolean))
abbrev mt_C_loseMemory : am_Mt := (⟨"WebFinder$Crawl", "loseMemory", "()V"⟩, prog_5_method_15_code, 1, none)
abbrev mt_W_clock : am_Mt := (⟨"WebFinder", "clock", "()I"⟩, prog_1_method_17_code, 1, (some .int))
abbrev mt_W_count : am_Mt := (⟨"WebFinder", "count", "(I)I"⟩, prog_1_method_18_code, 2, (some .int))
abbrev mt_C_waiting : am_Mt := (⟨"WebFinder$Crawl", "waiting", "()I"⟩, prog_5_method_3_code, 3, (some .int))
abbrev mt_W_known : am_Mt := (⟨"WebFinder", "known", "(II)I"⟩, prog_1_method_19_code, 3, (some .int))
abbrev mt_W_asking : am_Mt := (⟨"WebFinder", "asking", "(II)I"⟩, prog_1_method_20_code, 3, (some .int))
abbrev mt_W_produceRow : am_Mt := (⟨"WebFinder", "produceRow", "(LWebFinder$Rows;I)I"⟩, prog_1_method_34_code, 3, (some .int))
abbrev mt_W_address : am_Mt := (⟨"WebFinder", "address", "(I)I"⟩, prog_1_method_21_code, 2, (some .int))
abbrev mt_W_find : am_Mt := (⟨"WebFinder", "find", "(I)I"⟩, prog_1_method_22_code, 3, (some .int))
abbrev mt_D_foldCopies : am_Mt := (⟨"WebFinder$Documents", "foldCopies", "(LWebFinder$Crawl;)V"⟩, prog_6_method_3_code, 6, none)
abbrev mt_D_orderGot : am_Mt := (⟨"WebFinder$Documents", "orderGot", "(LWebFinder$Crawl;)I"⟩, prog_6_method_2_code, 5, (some .int))
abbrev mt_R_isBefore : am_Mt := (⟨"WebFinder$Rows", "isBefore", "(II)Z"⟩, prog_10_method_10_code, 7, (some .boolean))
abbrev mt_D_documentWithText : am_Mt := (⟨"WebFinder$Documents", "documentWithText", "(LWebFinder$Page;)I"⟩, prog_6_method_4_code, 3, (some .int))
abbrev mt_G_hasTextOf : am_Mt := (⟨"WebFinder$Page", "hasTextOf", "(LWebFinder$Page;)Z"⟩, prog_7_method_3_code, 2, (some .boolean))
abbrev mt_D_followLinks : am_Mt := (⟨"WebFinder$Documents", "followLinks", "(LWebFinder$Crawl;I)V"⟩, prog_6_method_5_code, 8, none)
abbrev mt_D_comesTo : am_Mt := (⟨"WebFinder$Documents", "comesTo", "(LWebFinder$Crawl;I)I"⟩, prog_6_method_7_code, 5, (some .int))
abbrev mt_D_alreadyLeads : am_Mt := (⟨"WebFinder$Documents", "alreadyLeads", "(II)Z"⟩, prog_6_method_6_code, 4, (some .boolean))
abbrev mt_D_rank : am_Mt := (⟨"WebFinder$Documents", "rank", "(I)V"⟩, prog_6_method_8_code, 4, none)
abbrev mt_D_handOnRank : am_Mt := (⟨"WebFinder$Documents", "handOnRank", "(I)V"⟩, prog_6_method_9_code, 3, none)
abbrev mt_D_indexWords : am_Mt := (⟨"WebFinder$Documents", "indexWords", "()V"⟩, prog_6_method_10_code, 2, none)
abbrev mt_N_clear : am_Mt := (⟨"WebFinder$Answers", "clear", "()V"⟩, prog_3_method_2_code, 1, none)
abbrev mt_W_document : am_Mt := (⟨"WebFinder", "document", "(II)I"⟩, prog_1_method_23_code, 3, (some .int))
abbrev mt_W_where : am_Mt := (⟨"WebFinder", "where", "(I)I"⟩, prog_1_method_24_code, 3, (some .int))
abbrev mt_W_ask : am_Mt := (⟨"WebFinder", "ask", "(I)I"⟩, prog_1_method_25_code, 3, (some .int))
abbrev mt_N_answer : am_Mt := (⟨"WebFinder$Answers", "answer", "(LWebFinder$Bytes;ILWebFinder$Documents;)V"⟩, prog_3_method_3_code, 6, none)
abbrev mt_N_placesOfRow : am_Mt := (⟨"WebFinder$Answers", "placesOfRow", "(LWebFinder$Documents;I)I"⟩, prog_3_method_5_code, 7, (some .int))
abbrev mt_N_isWordAt : am_Mt := (⟨"WebFinder$Answers", "isWordAt", "(LWebFinder$Documents;II)Z"⟩, prog_3_method_7_code, 4, (some .boolean))
abbrev mt_N_placesOfWords : am_Mt := (⟨"WebFinder$Answers", "placesOfWords", "(LWebFinder$Documents;IZ)I"⟩, prog_3_method_6_code, 9, (some .int))
abbrev mt_N_insert : am_Mt := (⟨"WebFinder$Answers", "insert", "(IJ)V"⟩, prog_3_method_4_code, 5, none)
abbrev mt_W_hit : am_Mt := (⟨"WebFinder", "hit", "(I)I"⟩, prog_1_method_26_code, 2, (some .int))
abbrev mt_W_score : am_Mt := (⟨"WebFinder", "score", "(I)J"⟩, prog_1_method_27_code, 2, (some .long))
abbrev mt_W_made : am_Mt := (⟨"WebFinder", "made", "()I"⟩, prog_1_method_28_code, 1, (some .int))
abbrev mt_W_out : am_Mt := (⟨"WebFinder", "out", "(I)I"⟩, prog_1_method_29_code, 2, (some .int))
abbrev mt_L_feed : am_Mt := (⟨"WebFinderLaw", "feed", "(LWebFinder;IIIII)I"⟩, method_3_code, 7, (some .int))
abbrev mt_W_feed : am_Mt := (⟨"WebFinder", "feed", "(IIIII)V"⟩, prog_1_method_2_code, 6, none)
abbrev mt_JIllegalStateException_init : am_Mt := (⟨"java/lang/IllegalStateException", "<init>", "()V"⟩, prog_20_method_1_code, 1, none)
abbrev mt_JRuntimeException_init_0 : am_Mt := (⟨"java/lang/RuntimeException", "<init>", "()V"⟩, prog_23_method_1_code, 1, none)
abbrev mt_JException_init_0 : am_Mt := (⟨"java/lang/Exception", "<init>", "()V"⟩, prog_18_method_1_code, 1, none)
abbrev mt_B_putInt : am_Mt := (⟨"WebFinder$Bytes", "putInt", "(I)V"⟩, prog_4_method_5_code, 2, none)
abbrev mt_L_end : am_Mt := (⟨"WebFinderLaw", "end", "(LWebFinder;I[J)I"⟩, method_4_code, 4, (some .int))
abbrev mt_W_end : am_Mt := (⟨"WebFinder", "end", "(I)I"⟩, prog_1_method_3_code, 3, (some .int))
abbrev mt_JIllegalArgumentException_init_0 : am_Mt := (⟨"java/lang/IllegalArgumentException", "<init>", "()V"⟩, prog_19_method_1_code, 1, none)
abbrev mt_M_thrown : am_Mt := (⟨"WebFinderModel", "thrown", "()I"⟩, prog_14_method_1_code, 1, (some .int))
abbrev mt_M_init : am_Mt := (⟨"WebFinderModel", "<init>", "()V"⟩, prog_14_method_45_code, 1, none)
abbrev mt_M_feed : am_Mt := (⟨"WebFinderModel", "feed", "(IIIII)V"⟩, prog_14_method_65_code, 6, none)
abbrev mt_M_take4 : am_Mt := (⟨"WebFinderModel", "take4", "(I)V"⟩, prog_14_method_64_code, 3, none)
abbrev mt_M_end : am_Mt := (⟨"WebFinderModel", "end", "(I)I"⟩, prog_14_method_66_code, 3, (some .int))
abbrev mt_M_read : am_Mt := (⟨"WebFinderModel", "read", "()I"⟩, prog_14_method_72_code, 3, (some .int))
abbrev mt_M_use : am_Mt := (⟨"WebFinderModel", "use", "()I"⟩, prog_14_method_67_code, 2, (some .int))
abbrev mt_M_readFirst : am_Mt := (⟨"WebFinderModel", "readFirst", "(I)Z"⟩, prog_14_method_68_code, 2, (some .boolean))
abbrev mt_M_lineEnd : am_Mt := (⟨"WebFinderModel", "lineEnd", "([BII)I"⟩, prog_14_method_53_code, 4, (some .int))
abbrev mt_M_seek : am_Mt := (⟨"WebFinderModel", "seek", "([BIII)I"⟩, prog_14_method_7_code, 5, (some .int))
abbrev mt_M_readReference : am_Mt := (⟨"WebFinderModel", "readReference", "([BIII)Z"⟩, prog_14_method_19_code, 11, (some .boolean))
abbrev mt_M_isBlank : am_Mt := (⟨"WebFinderModel", "isBlank", "(I)Z"⟩, prog_14_method_2_code, 1, (some .boolean))
abbrev mt_M_isOfReference : am_Mt := (⟨"WebFinderModel", "isOfReference", "([BII)Z"⟩, prog_14_method_14_code, 4, (some .boolean))
abbrev mt_M_hex : am_Mt := (⟨"WebFinderModel", "hex", "(I)I"⟩, prog_14_method_6_code, 2, (some .int))
abbrev mt_M_lower : am_Mt := (⟨"WebFinderModel", "lower", "(I)I"⟩, prog_14_method_5_code, 1, (some .int))
abbrev mt_M_isDigit : am_Mt := (⟨"WebFinderModel", "isDigit", "(I)Z"⟩, prog_14_method_4_code, 1, (some .boolean))
abbrev mt_M_isWord : am_Mt := (⟨"WebFinderModel", "isWord", "([BIILjava/lang/String;)Z"⟩, prog_14_method_8_code, 7, (some .boolean))
abbrev mt_M_readHost : am_Mt := (⟨"WebFinderModel", "readHost", "([BII)I"⟩, prog_14_method_17_code, 9, (some .int))
abbrev mt_M_isLetter : am_Mt := (⟨"WebFinderModel", "isLetter", "(I)Z"⟩, prog_14_method_3_code, 1, (some .boolean))
abbrev mt_M_readPort : am_Mt := (⟨"WebFinderModel", "readPort", "([BII)Z"⟩, prog_14_method_18_code, 6, (some .boolean))
abbrev mt_M_unfold : am_Mt := (⟨"WebFinderModel", "unfold", "([BII[BI)I"⟩, prog_14_method_16_code, 9, (some .int))
abbrev mt_M_isPlainByte : am_Mt := (⟨"WebFinderModel", "isPlainByte", "(I)Z"⟩, prog_14_method_15_code, 1, (some .boolean))
abbrev mt_M_readBeside : am_Mt := (⟨"WebFinderModel", "readBeside", "([BIII)V"⟩, prog_14_method_20_code, 11, none)
abbrev mt_M_hostEnd : am_Mt := (⟨"WebFinderModel", "hostEnd", "(I)I"⟩, prog_14_method_12_code, 2, (some .int))
abbrev mt_M_neaten : am_Mt := (⟨"WebFinderModel", "neaten", "()Z"⟩, prog_14_method_22_code, 8, (some .boolean))
abbrev mt_M_isDots : am_Mt := (⟨"WebFinderModel", "isDots", "([BIII)Z"⟩, prog_14_method_21_code, 6, (some .boolean))
abbrev mt_M_append : am_Mt := (⟨"WebFinderModel", "append", "([BI)V"⟩, prog_14_method_23_code, 4, none)
abbrev mt_M_keep : am_Mt := (⟨"WebFinderModel", "keep", "()I"⟩, prog_14_method_9_code, 3, (some .int))
abbrev mt_M_isMade : am_Mt := (⟨"WebFinderModel", "isMade", "(I)Z"⟩, prog_14_method_10_code, 4, (some .boolean))
abbrev mt_M_behindFirst : am_Mt := (⟨"WebFinderModel", "behindFirst", "(I)I"⟩, prog_14_method_69_code, 3, (some .int))
abbrev mt_M_show : am_Mt := (⟨"WebFinderModel", "show", "([BII)I"⟩, prog_14_method_70_code, 5, (some .int))
abbrev mt_M_made : am_Mt := (⟨"WebFinderModel", "made", "()I"⟩, prog_14_method_73_code, 1, (some .int))
abbrev mt_M_out : am_Mt := (⟨"WebFinderModel", "out", "(I)I"⟩, prog_14_method_74_code, 2, (some .int))
abbrev mt_M_page : am_Mt := (⟨"WebFinderModel", "page", "(I)I"⟩, prog_14_method_75_code, 5, (some .int))
abbrev mt_M_pageOf : am_Mt := (⟨"WebFinderModel", "pageOf", "(I)I"⟩, prog_14_method_43_code, 4, (some .int))
abbrev mt_M_tell : am_Mt := (⟨"WebFinderModel", "tell", "(II)I"⟩, prog_14_method_24_code, 4, (some .int))
abbrev mt_M_drop : am_Mt := (⟨"WebFinderModel", "drop", "()Z"⟩, prog_14_method_76_code, 3, (some .boolean))
abbrev mt_M_rules : am_Mt := (⟨"WebFinderModel", "rules", "()I"⟩, prog_14_method_77_code, 4, (some .int))
abbrev mt_M_rulesOf : am_Mt := (⟨"WebFinderModel", "rulesOf", "(I)I"⟩, prog_14_method_26_code, 4, (some .int))
abbrev mt_M_isSameSite : am_Mt := (⟨"WebFinderModel", "isSameSite", "(II)Z"⟩, prog_14_method_13_code, 6, (some .boolean))
abbrev mt_M_judge : am_Mt := (⟨"WebFinderModel", "judge", "(I)V"⟩, prog_14_method_31_code, 10, none)
abbrev mt_M_hasFinder : am_Mt := (⟨"WebFinderModel", "hasFinder", "(I)Z"⟩, prog_14_method_29_code, 4, (some .boolean))
abbrev mt_M_readLine : am_Mt := (⟨"WebFinderModel", "readLine", "(II)I"⟩, prog_14_method_27_code, 8, (some .int))
abbrev mt_M_isAgent : am_Mt := (⟨"WebFinderModel", "isAgent", "(Z)Z"⟩, prog_14_method_28_code, 2, (some .boolean))
abbrev mt_M_matches : am_Mt := (⟨"WebFinderModel", "matches", "(I)Z"⟩, prog_14_method_30_code, 7, (some .boolean))
abbrev mt_M_allowed : am_Mt := (⟨"WebFinderModel", "allowed", "()I"⟩, prog_14_method_78_code, 2, (some .int))
abbrev mt_M_look : am_Mt := (⟨"WebFinderModel", "look", "(I)I"⟩, prog_14_method_79_code, 8, (some .int))
abbrev mt_M_findLinks : am_Mt := (⟨"WebFinderModel", "findLinks", "(II)V"⟩, prog_14_method_44_code, 7, none)
abbrev mt_M_readPage : am_Mt := (⟨"WebFinderModel", "readPage", "(III)V"⟩, prog_14_method_37_code, 7, none)
abbrev mt_M_markupEnd : am_Mt := (⟨"WebFinderModel", "markupEnd", "(IIII)I"⟩, prog_14_method_38_code, 10, (some .int))
abbrev mt_M_flush : am_Mt := (⟨"WebFinderModel", "flush", "(II)V"⟩, prog_14_method_35_code, 3, none)
abbrev mt_M_decode : am_Mt := (⟨"WebFinderModel", "decode", "([BII[BI)I"⟩, prog_14_method_33_code, 9, (some .int))
abbrev mt_M_readByte : am_Mt := (⟨"WebFinderModel", "readByte", "([BII)I"⟩, prog_14_method_32_code, 11, (some .int))
abbrev mt_M_split : am_Mt := (⟨"WebFinderModel", "split", "([BII)V"⟩, prog_14_method_34_code, 9, none)
abbrev mt_M_tagEnd : am_Mt := (⟨"WebFinderModel", "tagEnd", "(IIZI)I"⟩, prog_14_method_39_code, 9, (some .int))
abbrev mt_M_attributeEnd : am_Mt := (⟨"WebFinderModel", "attributeEnd", "(II)I"⟩, prog_14_method_41_code, 9, (some .int))
abbrev mt_M_rawEnd : am_Mt := (⟨"WebFinderModel", "rawEnd", "(IIII)I"⟩, prog_14_method_40_code, 10, (some .int))
abbrev mt_M_remarkEnd : am_Mt := (⟨"WebFinderModel", "remarkEnd", "([BII)I"⟩, prog_14_method_36_code, 4, (some .int))
abbrev mt_M_readLink : am_Mt := (⟨"WebFinderModel", "readLink", "(I)Z"⟩, prog_14_method_42_code, 2, (some .boolean))
abbrev mt_M_set : am_Mt := (⟨"WebFinderModel", "set", "(II)Z"⟩, prog_14_method_80_code, 4, (some .boolean))
abbrev mt_M_seed : am_Mt := (⟨"WebFinderModel", "seed", "()I"⟩, prog_14_method_81_code, 2, (some .int))
abbrev mt_M_noSeeds : am_Mt := (⟨"WebFinderModel", "noSeeds", "()V"⟩, prog_14_method_82_code, 1, none)
abbrev mt_M_start : am_Mt := (⟨"WebFinderModel", "start", "()I"⟩, prog_14_method_83_code, 2, (some .int))
abbrev mt_M_meet : am_Mt := (⟨"WebFinderModel", "meet", "(III)V"⟩, prog_14_method_48_code, 6, none)
abbrev mt_M_numberOf : am_Mt := (⟨"WebFinderModel", "numberOf", "(I)I"⟩, prog_14_method_47_code, 4, (some .int))
abbrev mt_M_of : am_Mt := (⟨"WebFinderModel", "of", "(II)I"⟩, prog_14_method_46_code, 3, (some .int))
abbrev mt_M_save : am_Mt := (⟨"WebFinderModel", "save", "()V"⟩, prog_14_method_49_code, 2, none)
abbrev mt_M_step : am_Mt := (⟨"WebFinderModel", "step", "()I"⟩, prog_14_method_84_code, 3, (some .int))
abbrev mt_M_next : am_Mt := (⟨"WebFinderModel", "next", "()I"⟩, prog_14_method_50_code, 4, (some .int))
abbrev mt_M_take : am_Mt := (⟨"WebFinderModel", "take", "(I)I"⟩, prog_14_method_52_code, 7, (some .int))
abbrev mt_M_askFor : am_Mt := (⟨"WebFinderModel", "askFor", "(I)V"⟩, prog_14_method_51_code, 4, none)
abbrev mt_M_run : am_Mt := (⟨"WebFinderModel", "run", "(I)I"⟩, prog_14_method_85_code, 3, (some .int))
abbrev mt_M_crash : am_Mt := (⟨"WebFinderModel", "crash", "()Z"⟩, prog_14_method_86_code, 2, (some .boolean))
abbrev mt_M_clock : am_Mt := (⟨"WebFinderModel", "clock", "()I"⟩, prog_14_method_87_code, 1, (some .int))
abbrev mt_M_count : am_Mt := (⟨"WebFinderModel", "count", "(I)I"⟩, prog_14_method_88_code, 4, (some .int))
abbrev mt_M_known : am_Mt := (⟨"WebFinderModel", "known", "(II)I"⟩, prog_14_method_89_code, 3, (some .int))
abbrev mt_M_asking : am_Mt := (⟨"WebFinderModel", "asking", "(II)I"⟩, prog_14_method_90_code, 3, (some .int))
abbrev mt_M_showAddress : am_Mt := (⟨"WebFinderModel", "showAddress", "(I)I"⟩, prog_14_method_71_code, 2, (some .int))
abbrev mt_M_address : am_Mt := (⟨"WebFinderModel", "address", "(I)I"⟩, prog_14_method_91_code, 2, (some .int))
abbrev mt_M_find : am_Mt := (⟨"WebFinderModel", "find", "(I)I"⟩, prog_14_method_92_code, 2, (some .int))
abbrev mt_M_isDone : am_Mt := (⟨"WebFinderModel", "isDone", "()Z"⟩, prog_14_method_54_code, 1, (some .boolean))
abbrev mt_M_gather : am_Mt := (⟨"WebFinderModel", "gather", "()V"⟩, prog_14_method_57_code, 4, none)
abbrev mt_M_isFirst : am_Mt := (⟨"WebFinderModel", "isFirst", "(I)Z"⟩, prog_14_method_55_code, 4, (some .boolean))
abbrev mt_M_isSameText : am_Mt := (⟨"WebFinderModel", "isSameText", "(II)Z"⟩, prog_14_method_25_code, 6, (some .boolean))
abbrev mt_M_isBefore : am_Mt := (⟨"WebFinderModel", "isBefore", "(II)Z"⟩, prog_14_method_11_code, 5, (some .boolean))
abbrev mt_M_connect : am_Mt := (⟨"WebFinderModel", "connect", "()V"⟩, prog_14_method_58_code, 4, none)
abbrev mt_M_comesTo : am_Mt := (⟨"WebFinderModel", "comesTo", "(I)I"⟩, prog_14_method_56_code, 5, (some .int))
abbrev mt_M_rank : am_Mt := (⟨"WebFinderModel", "rank", "(I)V"⟩, prog_14_method_61_code, 6, none)
abbrev mt_M_ways : am_Mt := (⟨"WebFinderModel", "ways", "(I)I"⟩, prog_14_method_59_code, 4, (some .int))
abbrev mt_M_document : am_Mt := (⟨"WebFinderModel", "document", "(II)I"⟩, prog_14_method_94_code, 3, (some .int))
abbrev mt_M_isDocument : am_Mt := (⟨"WebFinderModel", "isDocument", "(I)Z"⟩, prog_14_method_93_code, 2, (some .boolean))
abbrev mt_M_waysTo : am_Mt := (⟨"WebFinderModel", "waysTo", "(I)I"⟩, prog_14_method_60_code, 4, (some .int))
abbrev mt_M_where : am_Mt := (⟨"WebFinderModel", "where", "(I)I"⟩, prog_14_method_95_code, 2, (some .int))
abbrev mt_M_ask : am_Mt := (⟨"WebFinderModel", "ask", "(I)I"⟩, prog_14_method_96_code, 5, (some .int))
abbrev mt_M_countOf : am_Mt := (⟨"WebFinderModel", "countOf", "(I)I"⟩, prog_14_method_63_code, 7, (some .int))
abbrev mt_M_isAsked : am_Mt := (⟨"WebFinderModel", "isAsked", "(II)Z"⟩, prog_14_method_62_code, 5, (some .boolean))
abbrev mt_M_place : am_Mt := (⟨"WebFinderModel", "place", "(IJ)V"⟩, prog_14_method_97_code, 5, none)
abbrev mt_M_hit : am_Mt := (⟨"WebFinderModel", "hit", "(I)I"⟩, prog_14_method_98_code, 2, (some .int))
abbrev mt_M_score : am_Mt := (⟨"WebFinderModel", "score", "(I)J"⟩, prog_14_method_99_code, 2, (some .long))
