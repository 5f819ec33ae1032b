/-! ===== what reading a page may change of the model ===== -/
def lkK (S : MS) := ((S.coming, S.size, S.fault, S.product, S.productSize), S.texts, S.2.2.1, (S.pattern, S.patternLength, S.reached, S.holding, S.isAllowed), (S.pageAddress, S.pageStatus, S.pageText, S.pageCount), (S.told, S.held, S.seeds), S.2.2.2.2.2.2)
def lkA (S S1 : MS) : Prop := lkK S1 = lkK S
theorem lkA.rf (S : MS) : lkA S S := rfl
theorem lkA.tr {S S1 S2 : MS} (h1 : lkA S S1) (h2 : lkA S1 S2) : lkA S S2 := Eq.trans h2 h1
def pgK (S : MS) := (lkK S, S.links, S.linkCount)
def pgA (S S1 : MS) : Prop := pgK S1 = pgK S
theorem pgA.lk {S S1 : MS} (h : pgA S S1) : lkA S S1 := congrArg (fun z => z.1) h
theorem pgA.rf (S : MS) : pgA S S := rfl
theorem pgA.tr {S S1 S2 : MS} (h1 : pgA S S1) (h2 : pgA S1 S2) : pgA S S2 := Eq.trans h2 h1
theorem pgA.sc {S S1 : MS} (h : scA S S1) : pgA S S1 := by
  obtain ⟨m, ml, h, hl, p, pl, q, ql, nt, mk, rfl⟩ := h
  rfl
theorem pgA.kp {S S1 : MS} {T T1 : List (List Int32)} {D : List Int32} {k : Nat} (h : kept S T D S1 T1 k) : pgA S S1 := by
  rcases h.2.2.2.2 with q | ⟨-, -, f1, f2, f3, q⟩
  · rw [q.2]; rfl
  · rw [q]; rfl
theorem lkA.coming {S S1 : MS} (h : lkA S S1) : S1.coming = S.coming := congrArg (fun z => z.1.1) h
theorem pgA.coming {S S1 : MS} (h : pgA S S1) : S1.coming = S.coming := h.lk.coming
theorem lkA.size {S S1 : MS} (h : lkA S S1) : S1.size = S.size := congrArg (fun z => z.1.2.1) h
theorem pgA.size {S S1 : MS} (h : pgA S S1) : S1.size = S.size := h.lk.size
theorem lkA.fault {S S1 : MS} (h : lkA S S1) : S1.fault = S.fault := congrArg (fun z => z.1.2.2.1) h
theorem pgA.fault {S S1 : MS} (h : pgA S S1) : S1.fault = S.fault := h.lk.fault
theorem lkA.product {S S1 : MS} (h : lkA S S1) : S1.product = S.product := congrArg (fun z => z.1.2.2.2.1) h
theorem pgA.product {S S1 : MS} (h : pgA S S1) : S1.product = S.product := h.lk.product
theorem lkA.productSize {S S1 : MS} (h : lkA S S1) : S1.productSize = S.productSize := congrArg (fun z => z.1.2.2.2.2) h
theorem pgA.productSize {S S1 : MS} (h : pgA S S1) : S1.productSize = S.productSize := h.lk.productSize
theorem lkA.texts {S S1 : MS} (h : lkA S S1) : S1.texts = S.texts := congrArg (fun z => z.2.1) h
theorem pgA.texts {S S1 : MS} (h : pgA S S1) : S1.texts = S.texts := h.lk.texts
theorem lkA.textsEnd {S S1 : MS} (h : lkA S S1) : S1.textsEnd = S.textsEnd := congrArg (fun z => z.2.2.1.1) h
theorem pgA.textsEnd {S S1 : MS} (h : pgA S S1) : S1.textsEnd = S.textsEnd := h.lk.textsEnd
theorem lkA.textAt {S S1 : MS} (h : lkA S S1) : S1.textAt = S.textAt := congrArg (fun z => z.2.2.1.2.1) h
theorem pgA.textAt {S S1 : MS} (h : pgA S S1) : S1.textAt = S.textAt := h.lk.textAt
theorem lkA.textEnd {S S1 : MS} (h : lkA S S1) : S1.textEnd = S.textEnd := congrArg (fun z => z.2.2.1.2.2.1) h
theorem pgA.textEnd {S S1 : MS} (h : pgA S S1) : S1.textEnd = S.textEnd := h.lk.textEnd
theorem lkA.textCount {S S1 : MS} (h : lkA S S1) : S1.textCount = S.textCount := congrArg (fun z => z.2.2.1.2.2.2.1) h
theorem pgA.textCount {S S1 : MS} (h : pgA S S1) : S1.textCount = S.textCount := h.lk.textCount
theorem lkA.ruleSite {S S1 : MS} (h : lkA S S1) : S1.ruleSite = S.ruleSite := congrArg (fun z => z.2.2.1.2.2.2.2.1) h
theorem pgA.ruleSite {S S1 : MS} (h : pgA S S1) : S1.ruleSite = S.ruleSite := h.lk.ruleSite
theorem lkA.ruleText {S S1 : MS} (h : lkA S S1) : S1.ruleText = S.ruleText := congrArg (fun z => z.2.2.1.2.2.2.2.2.1) h
theorem pgA.ruleText {S S1 : MS} (h : pgA S S1) : S1.ruleText = S.ruleText := h.lk.ruleText
theorem lkA.ruleCount {S S1 : MS} (h : lkA S S1) : S1.ruleCount = S.ruleCount := congrArg (fun z => z.2.2.1.2.2.2.2.2.2.1) h
theorem pgA.ruleCount {S S1 : MS} (h : pgA S S1) : S1.ruleCount = S.ruleCount := h.lk.ruleCount
theorem lkA.key {S S1 : MS} (h : lkA S S1) : S1.key = S.key := congrArg (fun z => z.2.2.1.2.2.2.2.2.2.2.1) h
theorem pgA.key {S S1 : MS} (h : pgA S S1) : S1.key = S.key := h.lk.key
theorem lkA.valueFrom {S S1 : MS} (h : lkA S S1) : S1.valueFrom = S.valueFrom := congrArg (fun z => z.2.2.1.2.2.2.2.2.2.2.2.1) h
theorem pgA.valueFrom {S S1 : MS} (h : pgA S S1) : S1.valueFrom = S.valueFrom := h.lk.valueFrom
theorem lkA.valueEnd {S S1 : MS} (h : lkA S S1) : S1.valueEnd = S.valueEnd := congrArg (fun z => z.2.2.1.2.2.2.2.2.2.2.2.2) h
theorem pgA.valueEnd {S S1 : MS} (h : pgA S S1) : S1.valueEnd = S.valueEnd := h.lk.valueEnd
theorem lkA.pattern {S S1 : MS} (h : lkA S S1) : S1.pattern = S.pattern := congrArg (fun z => z.2.2.2.1.1) h
theorem pgA.pattern {S S1 : MS} (h : pgA S S1) : S1.pattern = S.pattern := h.lk.pattern
theorem lkA.patternLength {S S1 : MS} (h : lkA S S1) : S1.patternLength = S.patternLength := congrArg (fun z => z.2.2.2.1.2.1) h
theorem pgA.patternLength {S S1 : MS} (h : pgA S S1) : S1.patternLength = S.patternLength := h.lk.patternLength
theorem lkA.reached {S S1 : MS} (h : lkA S S1) : S1.reached = S.reached := congrArg (fun z => z.2.2.2.1.2.2.1) h
theorem pgA.reached {S S1 : MS} (h : pgA S S1) : S1.reached = S.reached := h.lk.reached
theorem lkA.holding {S S1 : MS} (h : lkA S S1) : S1.holding = S.holding := congrArg (fun z => z.2.2.2.1.2.2.2.1) h
theorem pgA.holding {S S1 : MS} (h : pgA S S1) : S1.holding = S.holding := h.lk.holding
theorem lkA.isAllowed {S S1 : MS} (h : lkA S S1) : S1.isAllowed = S.isAllowed := congrArg (fun z => z.2.2.2.1.2.2.2.2) h
theorem pgA.isAllowed {S S1 : MS} (h : pgA S S1) : S1.isAllowed = S.isAllowed := h.lk.isAllowed
theorem lkA.pageAddress {S S1 : MS} (h : lkA S S1) : S1.pageAddress = S.pageAddress := congrArg (fun z => z.2.2.2.2.1.1) h
theorem pgA.pageAddress {S S1 : MS} (h : pgA S S1) : S1.pageAddress = S.pageAddress := h.lk.pageAddress
theorem lkA.pageStatus {S S1 : MS} (h : lkA S S1) : S1.pageStatus = S.pageStatus := congrArg (fun z => z.2.2.2.2.1.2.1) h
theorem pgA.pageStatus {S S1 : MS} (h : pgA S S1) : S1.pageStatus = S.pageStatus := h.lk.pageStatus
theorem lkA.pageText {S S1 : MS} (h : lkA S S1) : S1.pageText = S.pageText := congrArg (fun z => z.2.2.2.2.1.2.2.1) h
theorem pgA.pageText {S S1 : MS} (h : pgA S S1) : S1.pageText = S.pageText := h.lk.pageText
theorem lkA.pageCount {S S1 : MS} (h : lkA S S1) : S1.pageCount = S.pageCount := congrArg (fun z => z.2.2.2.2.1.2.2.2) h
theorem pgA.pageCount {S S1 : MS} (h : pgA S S1) : S1.pageCount = S.pageCount := h.lk.pageCount
theorem pgA.links {S S1 : MS} (h : pgA S S1) : S1.links = S.links := congrArg (fun z => z.2.1) h
theorem pgA.linkCount {S S1 : MS} (h : pgA S S1) : S1.linkCount = S.linkCount := congrArg (fun z => z.2.2) h
theorem lkA.told {S S1 : MS} (h : lkA S S1) : S1.told = S.told := congrArg (fun z => z.2.2.2.2.2.1.1) h
theorem pgA.told {S S1 : MS} (h : pgA S S1) : S1.told = S.told := h.lk.told
theorem lkA.held {S S1 : MS} (h : lkA S S1) : S1.held = S.held := congrArg (fun z => z.2.2.2.2.2.1.2.1) h
theorem pgA.held {S S1 : MS} (h : pgA S S1) : S1.held = S.held := h.lk.held
theorem lkA.seeds {S S1 : MS} (h : lkA S S1) : S1.seeds = S.seeds := congrArg (fun z => z.2.2.2.2.2.1.2.2) h
theorem pgA.seeds {S S1 : MS} (h : pgA S S1) : S1.seeds = S.seeds := h.lk.seeds
theorem lkA.seedCount {S S1 : MS} (h : lkA S S1) : S1.seedCount = S.seedCount := congrArg (fun z => z.2.2.2.2.2.2.1.1) h
theorem pgA.seedCount {S S1 : MS} (h : pgA S S1) : S1.seedCount = S.seedCount := h.lk.seedCount
theorem lkA.isStarted {S S1 : MS} (h : lkA S S1) : S1.isStarted = S.isStarted := congrArg (fun z => z.2.2.2.2.2.2.1.2.1) h
theorem pgA.isStarted {S S1 : MS} (h : pgA S S1) : S1.isStarted = S.isStarted := h.lk.isStarted
theorem lkA.clock {S S1 : MS} (h : lkA S S1) : S1.clock = S.clock := congrArg (fun z => z.2.2.2.2.2.2.1.2.2.1) h
theorem pgA.clock {S S1 : MS} (h : pgA S S1) : S1.clock = S.clock := h.lk.clock
theorem lkA.known {S S1 : MS} (h : lkA S S1) : S1.known = S.known := congrArg (fun z => z.2.2.2.2.2.2.1.2.2.2.1) h
theorem pgA.known {S S1 : MS} (h : pgA S S1) : S1.known = S.known := h.lk.known
theorem lkA.knownCount {S S1 : MS} (h : lkA S S1) : S1.knownCount = S.knownCount := congrArg (fun z => z.2.2.2.2.2.2.1.2.2.2.2.1) h
theorem pgA.knownCount {S S1 : MS} (h : pgA S S1) : S1.knownCount = S.knownCount := h.lk.knownCount
theorem lkA.saved {S S1 : MS} (h : lkA S S1) : S1.saved = S.saved := congrArg (fun z => z.2.2.2.2.2.2.1.2.2.2.2.2.1) h
theorem pgA.saved {S S1 : MS} (h : pgA S S1) : S1.saved = S.saved := h.lk.saved
theorem lkA.savedCount {S S1 : MS} (h : lkA S S1) : S1.savedCount = S.savedCount := congrArg (fun z => z.2.2.2.2.2.2.1.2.2.2.2.2.2.1) h
theorem pgA.savedCount {S S1 : MS} (h : pgA S S1) : S1.savedCount = S.savedCount := h.lk.savedCount
theorem lkA.askedSince {S S1 : MS} (h : lkA S S1) : S1.askedSince = S.askedSince := congrArg (fun z => z.2.2.2.2.2.2.1.2.2.2.2.2.2.2.1) h
theorem pgA.askedSince {S S1 : MS} (h : pgA S S1) : S1.askedSince = S.askedSince := h.lk.askedSince
theorem lkA.asked {S S1 : MS} (h : lkA S S1) : S1.asked = S.asked := congrArg (fun z => z.2.2.2.2.2.2.1.2.2.2.2.2.2.2.2.1) h
theorem pgA.asked {S S1 : MS} (h : pgA S S1) : S1.asked = S.asked := h.lk.asked
theorem lkA.askedClock {S S1 : MS} (h : lkA S S1) : S1.askedClock = S.askedClock := congrArg (fun z => z.2.2.2.2.2.2.1.2.2.2.2.2.2.2.2.2) h
theorem pgA.askedClock {S S1 : MS} (h : pgA S S1) : S1.askedClock = S.askedClock := h.lk.askedClock
theorem lkA.askedAddress {S S1 : MS} (h : lkA S S1) : S1.askedAddress = S.askedAddress := congrArg (fun z => z.2.2.2.2.2.2.2.1.1) h
theorem pgA.askedAddress {S S1 : MS} (h : pgA S S1) : S1.askedAddress = S.askedAddress := h.lk.askedAddress
theorem lkA.siteOf {S S1 : MS} (h : lkA S S1) : S1.siteOf = S.siteOf := congrArg (fun z => z.2.2.2.2.2.2.2.1.2.1) h
theorem pgA.siteOf {S S1 : MS} (h : pgA S S1) : S1.siteOf = S.siteOf := h.lk.siteOf
theorem lkA.siteTime {S S1 : MS} (h : lkA S S1) : S1.siteTime = S.siteTime := congrArg (fun z => z.2.2.2.2.2.2.2.1.2.2.1) h
theorem pgA.siteTime {S S1 : MS} (h : pgA S S1) : S1.siteTime = S.siteTime := h.lk.siteTime
theorem lkA.siteCount {S S1 : MS} (h : lkA S S1) : S1.siteCount = S.siteCount := congrArg (fun z => z.2.2.2.2.2.2.2.1.2.2.2.1) h
theorem pgA.siteCount {S S1 : MS} (h : pgA S S1) : S1.siteCount = S.siteCount := h.lk.siteCount
theorem lkA.otherTime {S S1 : MS} (h : lkA S S1) : S1.otherTime = S.otherTime := congrArg (fun z => z.2.2.2.2.2.2.2.1.2.2.2.2.1) h
theorem pgA.otherTime {S S1 : MS} (h : pgA S S1) : S1.otherTime = S.otherTime := h.lk.otherTime
theorem lkA.documents {S S1 : MS} (h : lkA S S1) : S1.documents = S.documents := congrArg (fun z => z.2.2.2.2.2.2.2.1.2.2.2.2.2.1) h
theorem pgA.documents {S S1 : MS} (h : pgA S S1) : S1.documents = S.documents := h.lk.documents
theorem lkA.documentAddress {S S1 : MS} (h : lkA S S1) : S1.documentAddress = S.documentAddress := congrArg (fun z => z.2.2.2.2.2.2.2.1.2.2.2.2.2.2.1) h
theorem pgA.documentAddress {S S1 : MS} (h : pgA S S1) : S1.documentAddress = S.documentAddress := h.lk.documentAddress
theorem lkA.documentText {S S1 : MS} (h : lkA S S1) : S1.documentText = S.documentText := congrArg (fun z => z.2.2.2.2.2.2.2.1.2.2.2.2.2.2.2.1) h
theorem pgA.documentText {S S1 : MS} (h : pgA S S1) : S1.documentText = S.documentText := h.lk.documentText
theorem lkA.documentNumber {S S1 : MS} (h : lkA S S1) : S1.documentNumber = S.documentNumber := congrArg (fun z => z.2.2.2.2.2.2.2.1.2.2.2.2.2.2.2.2.1) h
theorem pgA.documentNumber {S S1 : MS} (h : pgA S S1) : S1.documentNumber = S.documentNumber := h.lk.documentNumber
theorem lkA.documentCopies {S S1 : MS} (h : lkA S S1) : S1.documentCopies = S.documentCopies := congrArg (fun z => z.2.2.2.2.2.2.2.1.2.2.2.2.2.2.2.2.2) h
theorem pgA.documentCopies {S S1 : MS} (h : pgA S S1) : S1.documentCopies = S.documentCopies := h.lk.documentCopies
theorem lkA.documentWords {S S1 : MS} (h : lkA S S1) : S1.documentWords = S.documentWords := congrArg (fun z => z.2.2.2.2.2.2.2.2.1) h
theorem pgA.documentWords {S S1 : MS} (h : pgA S S1) : S1.documentWords = S.documentWords := h.lk.documentWords
theorem lkA.ranks {S S1 : MS} (h : lkA S S1) : S1.ranks = S.ranks := congrArg (fun z => z.2.2.2.2.2.2.2.2.2.1) h
theorem pgA.ranks {S S1 : MS} (h : pgA S S1) : S1.ranks = S.ranks := h.lk.ranks
theorem lkA.nextRanks {S S1 : MS} (h : lkA S S1) : S1.nextRanks = S.nextRanks := congrArg (fun z => z.2.2.2.2.2.2.2.2.2.2.1) h
theorem pgA.nextRanks {S S1 : MS} (h : pgA S S1) : S1.nextRanks = S.nextRanks := h.lk.nextRanks
theorem lkA.leads {S S1 : MS} (h : lkA S S1) : S1.leads = S.leads := congrArg (fun z => z.2.2.2.2.2.2.2.2.2.2.2.1) h
theorem pgA.leads {S S1 : MS} (h : pgA S S1) : S1.leads = S.leads := h.lk.leads
theorem lkA.hits {S S1 : MS} (h : lkA S S1) : S1.hits = S.hits := congrArg (fun z => z.2.2.2.2.2.2.2.2.2.2.2.2.1) h
theorem pgA.hits {S S1 : MS} (h : pgA S S1) : S1.hits = S.hits := h.lk.hits
theorem lkA.hitDocument {S S1 : MS} (h : lkA S S1) : S1.hitDocument = S.hitDocument := congrArg (fun z => z.2.2.2.2.2.2.2.2.2.2.2.2.2.1) h
theorem pgA.hitDocument {S S1 : MS} (h : pgA S S1) : S1.hitDocument = S.hitDocument := h.lk.hitDocument
theorem lkA.hitScore {S S1 : MS} (h : lkA S S1) : S1.hitScore = S.hitScore := congrArg (fun z => z.2.2.2.2.2.2.2.2.2.2.2.2.2.2.1) h
theorem pgA.hitScore {S S1 : MS} (h : pgA S S1) : S1.hitScore = S.hitScore := h.lk.hitScore
theorem lkA.question {S S1 : MS} (h : lkA S S1) : S1.question = S.question := congrArg (fun z => z.2.2.2.2.2.2.2.2.2.2.2.2.2.2.2.1) h
theorem pgA.question {S S1 : MS} (h : pgA S S1) : S1.question = S.question := h.lk.question
theorem lkA.questionLength {S S1 : MS} (h : lkA S S1) : S1.questionLength = S.questionLength := congrArg (fun z => z.2.2.2.2.2.2.2.2.2.2.2.2.2.2.2.2.1) h
theorem pgA.questionLength {S S1 : MS} (h : pgA S S1) : S1.questionLength = S.questionLength := h.lk.questionLength
theorem lkA.questionCount {S S1 : MS} (h : lkA S S1) : S1.questionCount = S.questionCount := congrArg (fun z => z.2.2.2.2.2.2.2.2.2.2.2.2.2.2.2.2.2) h
theorem pgA.questionCount {S S1 : MS} (h : pgA S S1) : S1.questionCount = S.questionCount := h.lk.questionCount
/-- the state while a page is read: addresses, values, words, the base -/
def vlS (S : MS) (V : List (List Int32)) : Prop := S.valueCount = V.length ∧ rws S.values S.valueAt S.valueLength V
def rdS (S : MS) (T V Wd : List (List Int32)) (D : List Int32) (bo : Option (List Int32)) : Prop := adT S T ∧ (∀ x, x ∈ T → okD x) ∧ vlS S V ∧ wdS S Wd ∧ (S.hasBase = bo.isSome ∧ S.pageBase < T.length ∧ gT T S.pageBase = bo.getD D)
section RDS
variable {S S1 : MS} {T T1 V Wd : List (List Int32)} {D E M : List Int32} {bo : Option (List Int32)}
theorem gT_mem {k : Nat} (h : k < T.length) : gT T k ∈ T := by rw [gT_eq h]; exact List.getElem_mem h
theorem okT_of (h : ∀ x, x ∈ T → okD x) : okT T := fun k hk => by
  obtain ⟨-, h2, h3, h4, -, h6, -⟩ := h _ (gT_mem hk)
  exact ⟨h6, h2, h3, h4⟩
theorem rdS.sc (h : rdS S T V Wd D bo) (hs : scA S S1) : rdS S1 T V Wd D bo := by
  obtain ⟨m, ml, hh, hl, p, pl, q, ql, nt, mk, rfl⟩ := hs
  exact h
theorem rdS.val (h : rdS S T V Wd D bo) {v : Int32} {q : Nat} (hq : q = M.length) : rdS (((((S.s_valueAt (upd S.valueAt V.length (nI (ofs V V.length)))).s_byteValue v).s_values (wrt S.values (ofs V V.length) M)).s_valueLength (upd S.valueLength V.length (nI q))).s_valueCount (V.length + 1)) T (V ++ [M]) Wd D bo := by
  subst hq
  obtain ⟨h1, h2, h3, h4, h5⟩ := h
  exact ⟨h1, h2, ⟨by show V.length + 1 = _; rw [List.length_append]; rfl, rws_new h3.2⟩, h4, h5⟩
theorem kept.mem {S' : MS} {T' : List (List Int32)} {k : Nat} (h : kept S T D S' T' k) : ∀ x, x ∈ T' → x ∈ T ∨ x = D := by
  intro x hx
  rcases h.2.2.2.2 with q | q
  · rw [q.1] at hx; exact Or.inl hx
  · rw [q.1] at hx
    rcases List.mem_append.mp hx with z | z
    · exact Or.inl z
    · exact Or.inr (List.mem_singleton.mp z)
theorem kept.pre {S' : MS} {T' : List (List Int32)} {k : Nat} (h : kept S T D S' T' k) : T <+: T' := by
  rcases h.2.2.2.2 with q | q
  · rw [q.1]; exact List.prefix_rfl
  · rw [q.1]; exact List.prefix_append _ _
theorem gT_pre {k : Nat} (h : T <+: T1) (hk : k < T.length) : gT T1 k = gT T k := by
  obtain ⟨Y, rfl⟩ := h
  rw [gT_eq hk, gT_eq (by rw [List.length_append]; omega), List.getElem_append_left hk]
theorem pre_len (h : T <+: T1) : T.length ≤ T1.length := h.length_le
/-- the base was kept -/
theorem rdS.bas {S3 : MS} {T3 : List (List Int32)} {k : Nat} (h : rdS S T V Wd D none) (hk : kept (S.s_hasBase true) T E S3 T3 k) (hE : okD E) : rdS (S3.s_pageBase k) T3 V Wd D (some E) ∧ pgA S (S3.s_pageBase k) := by
  have hm := hk.mem
  have hp := pgA.kp hk
  obtain ⟨h1, h2, h3, h4, h5⟩ := h
  refine ⟨⟨hk.1, fun x hx => ?_, ?_, ?_, ?_, hk.2.2.1, hk.2.2.2.1⟩, hp⟩
  · rcases hm x hx with q | q
    · exact h2 x q
    · rw [q]; exact hE
  · rcases hk.2.2.2.2 with q | ⟨-, -, f1, f2, f3, q⟩
    · rw [q.2]; exact h3
    · rw [q]; exact h3
  · rcases hk.2.2.2.2 with q | ⟨-, -, f1, f2, f3, q⟩
    · rw [q.2]; exact h4
    · rw [q]; exact h4
  · rcases hk.2.2.2.2 with q | ⟨-, -, f1, f2, f3, q⟩
    · rw [q.2]; rfl
    · rw [q]; rfl
end RDS
theorem isw_cg {i j : Nat} {L : List Int32} {f t : Nat} (h : cb i = cb j) : isw i L f t = isw j L f t := by
  unfold isw
  have e1 : cln i = cln j := congrArg List.length h
  have e2 : ∀ k, ch i k = ch j k := fun k => congrFun (congrArg (fun l : List Int32 => fun k => l.getD k 0) h) k
  rw [e1]
  congr 1
  simp only [e2]
theorem isw_38 {L : List Int32} {f t : Nat} : isw 38 L f t = isw 28 L f t := isw_cg rfl
theorem isw_39 {L : List Int32} {f t : Nat} : isw 39 L f t = isw 22 L f t := isw_cg rfl
theorem isw_40 {L : List Int32} {f t : Nat} : isw 40 L f t = isw 16 L f t := isw_cg rfl
theorem isw_41 {L : List Int32} {f t : Nat} : isw 41 L f t = isw 17 L f t := isw_cg rfl
