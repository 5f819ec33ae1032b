/-! ===== the model as a whole: its fields and arrays (cells 84 to 134) ===== -/
abbrev MG0 : Type := (Nat → Int32) × Nat × Nat × (Nat → Int32) × Nat × (Nat → Int32) × (Nat → Int32) × (Nat → Int32) × Nat × (Nat → Int32)
abbrev MG1 : Type := Nat × (Nat → Int32) × (Nat → Int32) × (Nat → Int32) × (Nat → Int32) × (Nat → Int32) × Nat × Nat × Option Nat × (Nat → Int32)
abbrev MG2 : Type := Nat × (Nat → Int32) × (Nat → Int32) × Nat × (Nat → Int32) × (Nat → Int32) × Nat × Option Nat × Nat × Nat
abbrev MG3 : Type := (Nat → Int32) × Nat × (Nat → Int32) × Nat × Bool × (Nat → Int32) × Nat × (Nat → Int32) × (Nat → Int32) × (Nat → Int32)
abbrev MG4 : Type := Nat × (Nat → Int32) × (Nat → Int32) × (Nat → Int32) × Nat × Nat × Bool × Int32 × Nat × Nat
abbrev MG5 : Type := Bool × (Nat → Int32) × (Nat → Int32) × (Nat → Int32) × Nat × (Nat → Int32) × Nat × (Nat → Int32) × (Nat → Int32) × (Nat → Int32)
abbrev MG6 : Type := Nat × Bool × Nat × (Nat → Int32) × Nat × (Nat → Int32) × Nat × Nat × Nat × (Nat → Int32)
abbrev MG7 : Type := (Nat → Int32) × (Nat → Int32) × (Nat → Int32) × Nat × Option Nat × Nat × (Nat → Int32) × (Nat → Int32) × (Nat → Int32) × (Nat → Int32)
abbrev MG8 : Type := (Nat → Int32) × (Nat → Int64) × (Nat → Int64) × (Nat → Int32) × Nat × (Nat → Int32) × (Nat → Int64) × (Nat → Int32) × (Nat → Int32) × Nat
abbrev MS : Type := MG0 × MG1 × MG2 × MG3 × MG4 × MG5 × MG6 × MG7 × MG8
def MS.coming (S : MS) : Nat → Int32 := S.1.1
def MS.size (S : MS) : Nat := S.1.2.1
def MS.fault (S : MS) : Nat := S.1.2.2.1
def MS.product (S : MS) : Nat → Int32 := S.1.2.2.2.1
def MS.productSize (S : MS) : Nat := S.1.2.2.2.2.1
def MS.addresses (S : MS) : Nat → Int32 := S.1.2.2.2.2.2.1
def MS.addressAt (S : MS) : Nat → Int32 := S.1.2.2.2.2.2.2.1
def MS.addressLength (S : MS) : Nat → Int32 := S.1.2.2.2.2.2.2.2.1
def MS.addressCount (S : MS) : Nat := S.1.2.2.2.2.2.2.2.2.1
def MS.made (S : MS) : Nat → Int32 := S.1.2.2.2.2.2.2.2.2.2
def MS.madeLength (S : MS) : Nat := S.2.1.1
def MS.host (S : MS) : Nat → Int32 := S.2.1.2.1
def MS.path (S : MS) : Nat → Int32 := S.2.1.2.2.1
def MS.query (S : MS) : Nat → Int32 := S.2.1.2.2.2.1
def MS.neat (S : MS) : Nat → Int32 := S.2.1.2.2.2.2.1
def MS.marks (S : MS) : Nat → Int32 := S.2.1.2.2.2.2.2.1
def MS.hostLength (S : MS) : Nat := S.2.1.2.2.2.2.2.2.1
def MS.pathLength (S : MS) : Nat := S.2.1.2.2.2.2.2.2.2.1
def MS.queryLength (S : MS) : Option Nat := S.2.1.2.2.2.2.2.2.2.2.1
def MS.texts (S : MS) : Nat → Int32 := S.2.1.2.2.2.2.2.2.2.2.2
def MS.textsEnd (S : MS) : Nat := S.2.2.1.1
def MS.textAt (S : MS) : Nat → Int32 := S.2.2.1.2.1
def MS.textEnd (S : MS) : Nat → Int32 := S.2.2.1.2.2.1
def MS.textCount (S : MS) : Nat := S.2.2.1.2.2.2.1
def MS.ruleSite (S : MS) : Nat → Int32 := S.2.2.1.2.2.2.2.1
def MS.ruleText (S : MS) : Nat → Int32 := S.2.2.1.2.2.2.2.2.1
def MS.ruleCount (S : MS) : Nat := S.2.2.1.2.2.2.2.2.2.1
def MS.key (S : MS) : Option Nat := S.2.2.1.2.2.2.2.2.2.2.1
def MS.valueFrom (S : MS) : Nat := S.2.2.1.2.2.2.2.2.2.2.2.1
def MS.valueEnd (S : MS) : Nat := S.2.2.1.2.2.2.2.2.2.2.2.2
def MS.pattern (S : MS) : Nat → Int32 := S.2.2.2.1.1
def MS.patternLength (S : MS) : Nat := S.2.2.2.1.2.1
def MS.reached (S : MS) : Nat → Int32 := S.2.2.2.1.2.2.1
def MS.holding (S : MS) : Nat := S.2.2.2.1.2.2.2.1
def MS.isAllowed (S : MS) : Bool := S.2.2.2.1.2.2.2.2.1
def MS.decoded (S : MS) : Nat → Int32 := S.2.2.2.1.2.2.2.2.2.1
def MS.decodedLength (S : MS) : Nat := S.2.2.2.1.2.2.2.2.2.2.1
def MS.words (S : MS) : Nat → Int32 := S.2.2.2.1.2.2.2.2.2.2.2.1
def MS.wordAt (S : MS) : Nat → Int32 := S.2.2.2.1.2.2.2.2.2.2.2.2.1
def MS.wordLength (S : MS) : Nat → Int32 := S.2.2.2.1.2.2.2.2.2.2.2.2.2
def MS.wordCount (S : MS) : Nat := S.2.2.2.2.1.1
def MS.values (S : MS) : Nat → Int32 := S.2.2.2.2.1.2.1
def MS.valueAt (S : MS) : Nat → Int32 := S.2.2.2.2.1.2.2.1
def MS.valueLength (S : MS) : Nat → Int32 := S.2.2.2.2.1.2.2.2.1
def MS.valueCount (S : MS) : Nat := S.2.2.2.2.1.2.2.2.2.1
def MS.pageBase (S : MS) : Nat := S.2.2.2.2.1.2.2.2.2.2.1
def MS.hasBase (S : MS) : Bool := S.2.2.2.2.1.2.2.2.2.2.2.1
def MS.byteValue (S : MS) : Int32 := S.2.2.2.2.1.2.2.2.2.2.2.2.1
def MS.hrefFrom (S : MS) : Nat := S.2.2.2.2.1.2.2.2.2.2.2.2.2.1
def MS.hrefEnd (S : MS) : Nat := S.2.2.2.2.1.2.2.2.2.2.2.2.2.2
def MS.hasHref (S : MS) : Bool := S.2.2.2.2.2.1.1
def MS.pageAddress (S : MS) : Nat → Int32 := S.2.2.2.2.2.1.2.1
def MS.pageStatus (S : MS) : Nat → Int32 := S.2.2.2.2.2.1.2.2.1
def MS.pageText (S : MS) : Nat → Int32 := S.2.2.2.2.2.1.2.2.2.1
def MS.pageCount (S : MS) : Nat := S.2.2.2.2.2.1.2.2.2.2.1
def MS.links (S : MS) : Nat → Int32 := S.2.2.2.2.2.1.2.2.2.2.2.1
def MS.linkCount (S : MS) : Nat := S.2.2.2.2.2.1.2.2.2.2.2.2.1
def MS.told (S : MS) : Nat → Int32 := S.2.2.2.2.2.1.2.2.2.2.2.2.2.1
def MS.held (S : MS) : Nat → Int32 := S.2.2.2.2.2.1.2.2.2.2.2.2.2.2.1
def MS.seeds (S : MS) : Nat → Int32 := S.2.2.2.2.2.1.2.2.2.2.2.2.2.2.2
def MS.seedCount (S : MS) : Nat := S.2.2.2.2.2.2.1.1
def MS.isStarted (S : MS) : Bool := S.2.2.2.2.2.2.1.2.1
def MS.clock (S : MS) : Nat := S.2.2.2.2.2.2.1.2.2.1
def MS.known (S : MS) : Nat → Int32 := S.2.2.2.2.2.2.1.2.2.2.1
def MS.knownCount (S : MS) : Nat := S.2.2.2.2.2.2.1.2.2.2.2.1
def MS.saved (S : MS) : Nat → Int32 := S.2.2.2.2.2.2.1.2.2.2.2.2.1
def MS.savedCount (S : MS) : Nat := S.2.2.2.2.2.2.1.2.2.2.2.2.2.1
def MS.askedSince (S : MS) : Nat := S.2.2.2.2.2.2.1.2.2.2.2.2.2.2.1
def MS.asked (S : MS) : Nat := S.2.2.2.2.2.2.1.2.2.2.2.2.2.2.2.1
def MS.askedClock (S : MS) : Nat → Int32 := S.2.2.2.2.2.2.1.2.2.2.2.2.2.2.2.2
def MS.askedAddress (S : MS) : Nat → Int32 := S.2.2.2.2.2.2.2.1.1
def MS.siteOf (S : MS) : Nat → Int32 := S.2.2.2.2.2.2.2.1.2.1
def MS.siteTime (S : MS) : Nat → Int32 := S.2.2.2.2.2.2.2.1.2.2.1
def MS.siteCount (S : MS) : Nat := S.2.2.2.2.2.2.2.1.2.2.2.1
def MS.otherTime (S : MS) : Option Nat := S.2.2.2.2.2.2.2.1.2.2.2.2.1
def MS.documents (S : MS) : Nat := S.2.2.2.2.2.2.2.1.2.2.2.2.2.1
def MS.documentAddress (S : MS) : Nat → Int32 := S.2.2.2.2.2.2.2.1.2.2.2.2.2.2.1
def MS.documentText (S : MS) : Nat → Int32 := S.2.2.2.2.2.2.2.1.2.2.2.2.2.2.2.1
def MS.documentNumber (S : MS) : Nat → Int32 := S.2.2.2.2.2.2.2.1.2.2.2.2.2.2.2.2.1
def MS.documentCopies (S : MS) : Nat → Int32 := S.2.2.2.2.2.2.2.1.2.2.2.2.2.2.2.2.2
def MS.documentWords (S : MS) : Nat → Int32 := S.2.2.2.2.2.2.2.2.1
def MS.ranks (S : MS) : Nat → Int64 := S.2.2.2.2.2.2.2.2.2.1
def MS.nextRanks (S : MS) : Nat → Int64 := S.2.2.2.2.2.2.2.2.2.2.1
def MS.leads (S : MS) : Nat → Int32 := S.2.2.2.2.2.2.2.2.2.2.2.1
def MS.hits (S : MS) : Nat := S.2.2.2.2.2.2.2.2.2.2.2.2.1
def MS.hitDocument (S : MS) : Nat → Int32 := S.2.2.2.2.2.2.2.2.2.2.2.2.2.1
def MS.hitScore (S : MS) : Nat → Int64 := S.2.2.2.2.2.2.2.2.2.2.2.2.2.2.1
def MS.question (S : MS) : Nat → Int32 := S.2.2.2.2.2.2.2.2.2.2.2.2.2.2.2.1
def MS.questionLength (S : MS) : Nat → Int32 := S.2.2.2.2.2.2.2.2.2.2.2.2.2.2.2.2.1
def MS.questionCount (S : MS) : Nat := S.2.2.2.2.2.2.2.2.2.2.2.2.2.2.2.2.2
def mfl (S : MS) : List Value := [.ref 85, .int (nI S.size), .int (nI S.fault), .ref 86, .int (nI S.productSize), .ref 87, .ref 88, .ref 89, .int (nI S.addressCount), .ref 90, .int (nI S.madeLength), .ref 91, .ref 92, .ref 93, .ref 94, .ref 95, .int (nI S.hostLength), .int (nI S.pathLength), .int (er S.queryLength), .ref 96, .int (nI S.textsEnd), .ref 97, .ref 98, .int (nI S.textCount), .ref 99, .ref 100, .int (nI S.ruleCount), .int (er S.key), .int (nI S.valueFrom), .int (nI S.valueEnd), .ref 101, .int (nI S.patternLength), .ref 102, .int (nI S.holding), .int (b1 S.isAllowed), .ref 103, .int (nI S.decodedLength), .ref 104, .ref 105, .ref 106, .int (nI S.wordCount), .ref 107, .ref 108, .ref 109, .int (nI S.valueCount), .int (nI S.pageBase), .int (b1 S.hasBase), .int S.byteValue, .int (nI S.hrefFrom), .int (nI S.hrefEnd), .int (b1 S.hasHref), .ref 110, .ref 111, .ref 112, .int (nI S.pageCount), .ref 113, .int (nI S.linkCount), .ref 114, .ref 115, .ref 116, .int (nI S.seedCount), .int (b1 S.isStarted), .int (nI S.clock), .ref 117, .int (nI S.knownCount), .ref 118, .int (nI S.savedCount), .int (nI S.askedSince), .int (nI S.asked), .ref 119, .ref 120, .ref 121, .ref 122, .int (nI S.siteCount), .int (er S.otherTime), .int (nI S.documents), .ref 123, .ref 124, .ref 125, .ref 126, .ref 127, .ref 128, .ref 129, .ref 130, .int (nI S.hits), .ref 131, .ref 132, .ref 133, .ref 134, .int (nI S.questionCount)]
def mcells (S : MS) : List va_E := [.inr (12, mfl S), .inl (0, 8020, .inl S.coming), .inl (0, 20000, .inl S.product), .inl (0, 700000, .inl S.addresses), .inl (1, 3500, .inl S.addressAt), .inl (1, 3500, .inl S.addressLength), .inl (0, 200, .inl S.made), .inl (0, 80, .inl S.host), .inl (0, 8400, .inl S.path), .inl (0, 8400, .inl S.query), .inl (0, 8400, .inl S.neat), .inl (1, 8400, .inl S.marks), .inl (0, 24000, .inl S.texts), .inl (1, 1100, .inl S.textAt), .inl (1, 1100, .inl S.textEnd), .inl (1, 12, .inl S.ruleSite), .inl (1, 12, .inl S.ruleText), .inl (0, 8000, .inl S.pattern), .inl (3, 201, .inl S.reached), .inl (0, 8000, .inl S.decoded), .inl (0, 8000, .inl S.words), .inl (1, 4001, .inl S.wordAt), .inl (1, 4001, .inl S.wordLength), .inl (0, 8000, .inl S.values), .inl (1, 1000, .inl S.valueAt), .inl (1, 1000, .inl S.valueLength), .inl (1, 60, .inl S.pageAddress), .inl (1, 60, .inl S.pageStatus), .inl (1, 60, .inl S.pageText), .inl (1, 60, .inl S.links), .inl (1, 4, .inl S.told), .inl (1, 4, .inl S.held), .inl (1, 20, .inl S.seeds), .inl (1, 1500, .inl S.known), .inl (1, 1500, .inl S.saved), .inl (1, 1000, .inl S.askedClock), .inl (1, 1000, .inl S.askedAddress), .inl (1, 250, .inl S.siteOf), .inl (1, 250, .inl S.siteTime), .inl (1, 250, .inl S.documentAddress), .inl (1, 250, .inl S.documentText), .inl (1, 250, .inl S.documentNumber), .inl (1, 250, .inl S.documentCopies), .inl (1, 250, .inl S.documentWords), .inl (2, 250, .inr (.inl S.ranks)), .inl (2, 250, .inr (.inl S.nextRanks)), .inl (3, 62500, .inl S.leads), .inl (1, 250, .inl S.hitDocument), .inl (2, 250, .inr (.inl S.hitScore)), .inl (0, 160, .inl S.question), .inl (1, 8, .inl S.questionLength)]
def mput (A : List va_E) (S : MS) (B : List va_E) : List va_E := A ++ (mcells S ++ B)
def MS.s_coming (S : MS) (v : Nat → Int32) : MS := ((v, S.1.2), S.2)
def MS.s_size (S : MS) (v : Nat) : MS := ((S.1.1, v, S.1.2.2), S.2)
def MS.s_fault (S : MS) (v : Nat) : MS := ((S.1.1, S.1.2.1, v, S.1.2.2.2), S.2)
def MS.s_product (S : MS) (v : Nat → Int32) : MS := ((S.1.1, S.1.2.1, S.1.2.2.1, v, S.1.2.2.2.2), S.2)
def MS.s_productSize (S : MS) (v : Nat) : MS := ((S.1.1, S.1.2.1, S.1.2.2.1, S.1.2.2.2.1, v, S.1.2.2.2.2.2), S.2)
def MS.s_addresses (S : MS) (v : Nat → Int32) : MS := ((S.1.1, S.1.2.1, S.1.2.2.1, S.1.2.2.2.1, S.1.2.2.2.2.1, v, S.1.2.2.2.2.2.2), S.2)
def MS.s_addressAt (S : MS) (v : Nat → Int32) : MS := ((S.1.1, S.1.2.1, S.1.2.2.1, S.1.2.2.2.1, S.1.2.2.2.2.1, S.1.2.2.2.2.2.1, v, S.1.2.2.2.2.2.2.2), S.2)
def MS.s_addressLength (S : MS) (v : Nat → Int32) : MS := ((S.1.1, S.1.2.1, S.1.2.2.1, S.1.2.2.2.1, S.1.2.2.2.2.1, S.1.2.2.2.2.2.1, S.1.2.2.2.2.2.2.1, v, S.1.2.2.2.2.2.2.2.2), S.2)
def MS.s_addressCount (S : MS) (v : Nat) : MS := ((S.1.1, S.1.2.1, S.1.2.2.1, S.1.2.2.2.1, S.1.2.2.2.2.1, S.1.2.2.2.2.2.1, S.1.2.2.2.2.2.2.1, S.1.2.2.2.2.2.2.2.1, v, S.1.2.2.2.2.2.2.2.2.2), S.2)
def MS.s_made (S : MS) (v : Nat → Int32) : MS := ((S.1.1, S.1.2.1, S.1.2.2.1, S.1.2.2.2.1, S.1.2.2.2.2.1, S.1.2.2.2.2.2.1, S.1.2.2.2.2.2.2.1, S.1.2.2.2.2.2.2.2.1, S.1.2.2.2.2.2.2.2.2.1, v), S.2)
def MS.s_madeLength (S : MS) (v : Nat) : MS := (S.1, (v, S.2.1.2), S.2.2)
def MS.s_host (S : MS) (v : Nat → Int32) : MS := (S.1, (S.2.1.1, v, S.2.1.2.2), S.2.2)
def MS.s_path (S : MS) (v : Nat → Int32) : MS := (S.1, (S.2.1.1, S.2.1.2.1, v, S.2.1.2.2.2), S.2.2)
def MS.s_query (S : MS) (v : Nat → Int32) : MS := (S.1, (S.2.1.1, S.2.1.2.1, S.2.1.2.2.1, v, S.2.1.2.2.2.2), S.2.2)
def MS.s_neat (S : MS) (v : Nat → Int32) : MS := (S.1, (S.2.1.1, S.2.1.2.1, S.2.1.2.2.1, S.2.1.2.2.2.1, v, S.2.1.2.2.2.2.2), S.2.2)
def MS.s_marks (S : MS) (v : Nat → Int32) : MS := (S.1, (S.2.1.1, S.2.1.2.1, S.2.1.2.2.1, S.2.1.2.2.2.1, S.2.1.2.2.2.2.1, v, S.2.1.2.2.2.2.2.2), S.2.2)
def MS.s_hostLength (S : MS) (v : Nat) : MS := (S.1, (S.2.1.1, S.2.1.2.1, S.2.1.2.2.1, S.2.1.2.2.2.1, S.2.1.2.2.2.2.1, S.2.1.2.2.2.2.2.1, v, S.2.1.2.2.2.2.2.2.2), S.2.2)
def MS.s_pathLength (S : MS) (v : Nat) : MS := (S.1, (S.2.1.1, S.2.1.2.1, S.2.1.2.2.1, S.2.1.2.2.2.1, S.2.1.2.2.2.2.1, S.2.1.2.2.2.2.2.1, S.2.1.2.2.2.2.2.2.1, v, S.2.1.2.2.2.2.2.2.2.2), S.2.2)
def MS.s_queryLength (S : MS) (v : Option Nat) : MS := (S.1, (S.2.1.1, S.2.1.2.1, S.2.1.2.2.1, S.2.1.2.2.2.1, S.2.1.2.2.2.2.1, S.2.1.2.2.2.2.2.1, S.2.1.2.2.2.2.2.2.1, S.2.1.2.2.2.2.2.2.2.1, v, S.2.1.2.2.2.2.2.2.2.2.2), S.2.2)
def MS.s_texts (S : MS) (v : Nat → Int32) : MS := (S.1, (S.2.1.1, S.2.1.2.1, S.2.1.2.2.1, S.2.1.2.2.2.1, S.2.1.2.2.2.2.1, S.2.1.2.2.2.2.2.1, S.2.1.2.2.2.2.2.2.1, S.2.1.2.2.2.2.2.2.2.1, S.2.1.2.2.2.2.2.2.2.2.1, v), S.2.2)
def MS.s_textsEnd (S : MS) (v : Nat) : MS := (S.1, S.2.1, (v, S.2.2.1.2), S.2.2.2)
def MS.s_textAt (S : MS) (v : Nat → Int32) : MS := (S.1, S.2.1, (S.2.2.1.1, v, S.2.2.1.2.2), S.2.2.2)
def MS.s_textEnd (S : MS) (v : Nat → Int32) : MS := (S.1, S.2.1, (S.2.2.1.1, S.2.2.1.2.1, v, S.2.2.1.2.2.2), S.2.2.2)
def MS.s_textCount (S : MS) (v : Nat) : MS := (S.1, S.2.1, (S.2.2.1.1, S.2.2.1.2.1, S.2.2.1.2.2.1, v, S.2.2.1.2.2.2.2), S.2.2.2)
def MS.s_ruleSite (S : MS) (v : Nat → Int32) : MS := (S.1, S.2.1, (S.2.2.1.1, S.2.2.1.2.1, S.2.2.1.2.2.1, S.2.2.1.2.2.2.1, v, S.2.2.1.2.2.2.2.2), S.2.2.2)
def MS.s_ruleText (S : MS) (v : Nat → Int32) : MS := (S.1, S.2.1, (S.2.2.1.1, S.2.2.1.2.1, S.2.2.1.2.2.1, S.2.2.1.2.2.2.1, S.2.2.1.2.2.2.2.1, v, S.2.2.1.2.2.2.2.2.2), S.2.2.2)
def MS.s_ruleCount (S : MS) (v : Nat) : MS := (S.1, S.2.1, (S.2.2.1.1, S.2.2.1.2.1, S.2.2.1.2.2.1, S.2.2.1.2.2.2.1, S.2.2.1.2.2.2.2.1, S.2.2.1.2.2.2.2.2.1, v, S.2.2.1.2.2.2.2.2.2.2), S.2.2.2)
def MS.s_key (S : MS) (v : Option Nat) : MS := (S.1, S.2.1, (S.2.2.1.1, S.2.2.1.2.1, S.2.2.1.2.2.1, S.2.2.1.2.2.2.1, S.2.2.1.2.2.2.2.1, S.2.2.1.2.2.2.2.2.1, S.2.2.1.2.2.2.2.2.2.1, v, S.2.2.1.2.2.2.2.2.2.2.2), S.2.2.2)
def MS.s_valueFrom (S : MS) (v : Nat) : MS := (S.1, S.2.1, (S.2.2.1.1, S.2.2.1.2.1, S.2.2.1.2.2.1, S.2.2.1.2.2.2.1, S.2.2.1.2.2.2.2.1, S.2.2.1.2.2.2.2.2.1, S.2.2.1.2.2.2.2.2.2.1, S.2.2.1.2.2.2.2.2.2.2.1, v, S.2.2.1.2.2.2.2.2.2.2.2.2), S.2.2.2)
def MS.s_valueEnd (S : MS) (v : Nat) : MS := (S.1, S.2.1, (S.2.2.1.1, S.2.2.1.2.1, S.2.2.1.2.2.1, S.2.2.1.2.2.2.1, S.2.2.1.2.2.2.2.1, S.2.2.1.2.2.2.2.2.1, S.2.2.1.2.2.2.2.2.2.1, S.2.2.1.2.2.2.2.2.2.2.1, S.2.2.1.2.2.2.2.2.2.2.2.1, v), S.2.2.2)
def MS.s_pattern (S : MS) (v : Nat → Int32) : MS := (S.1, S.2.1, S.2.2.1, (v, S.2.2.2.1.2), S.2.2.2.2)
def MS.s_patternLength (S : MS) (v : Nat) : MS := (S.1, S.2.1, S.2.2.1, (S.2.2.2.1.1, v, S.2.2.2.1.2.2), S.2.2.2.2)
def MS.s_reached (S : MS) (v : Nat → Int32) : MS := (S.1, S.2.1, S.2.2.1, (S.2.2.2.1.1, S.2.2.2.1.2.1, v, S.2.2.2.1.2.2.2), S.2.2.2.2)
def MS.s_holding (S : MS) (v : Nat) : MS := (S.1, S.2.1, S.2.2.1, (S.2.2.2.1.1, S.2.2.2.1.2.1, S.2.2.2.1.2.2.1, v, S.2.2.2.1.2.2.2.2), S.2.2.2.2)
def MS.s_isAllowed (S : MS) (v : Bool) : MS := (S.1, S.2.1, S.2.2.1, (S.2.2.2.1.1, S.2.2.2.1.2.1, S.2.2.2.1.2.2.1, S.2.2.2.1.2.2.2.1, v, S.2.2.2.1.2.2.2.2.2), S.2.2.2.2)
def MS.s_decoded (S : MS) (v : Nat → Int32) : MS := (S.1, S.2.1, S.2.2.1, (S.2.2.2.1.1, S.2.2.2.1.2.1, S.2.2.2.1.2.2.1, S.2.2.2.1.2.2.2.1, S.2.2.2.1.2.2.2.2.1, v, S.2.2.2.1.2.2.2.2.2.2), S.2.2.2.2)
def MS.s_decodedLength (S : MS) (v : Nat) : MS := (S.1, S.2.1, S.2.2.1, (S.2.2.2.1.1, S.2.2.2.1.2.1, S.2.2.2.1.2.2.1, S.2.2.2.1.2.2.2.1, S.2.2.2.1.2.2.2.2.1, S.2.2.2.1.2.2.2.2.2.1, v, S.2.2.2.1.2.2.2.2.2.2.2), S.2.2.2.2)
def MS.s_words (S : MS) (v : Nat → Int32) : MS := (S.1, S.2.1, S.2.2.1, (S.2.2.2.1.1, S.2.2.2.1.2.1, S.2.2.2.1.2.2.1, S.2.2.2.1.2.2.2.1, S.2.2.2.1.2.2.2.2.1, S.2.2.2.1.2.2.2.2.2.1, S.2.2.2.1.2.2.2.2.2.2.1, v, S.2.2.2.1.2.2.2.2.2.2.2.2), S.2.2.2.2)
def MS.s_wordAt (S : MS) (v : Nat → Int32) : MS := (S.1, S.2.1, S.2.2.1, (S.2.2.2.1.1, S.2.2.2.1.2.1, S.2.2.2.1.2.2.1, S.2.2.2.1.2.2.2.1, S.2.2.2.1.2.2.2.2.1, S.2.2.2.1.2.2.2.2.2.1, S.2.2.2.1.2.2.2.2.2.2.1, S.2.2.2.1.2.2.2.2.2.2.2.1, v, S.2.2.2.1.2.2.2.2.2.2.2.2.2), S.2.2.2.2)
def MS.s_wordLength (S : MS) (v : Nat → Int32) : MS := (S.1, S.2.1, S.2.2.1, (S.2.2.2.1.1, S.2.2.2.1.2.1, S.2.2.2.1.2.2.1, S.2.2.2.1.2.2.2.1, S.2.2.2.1.2.2.2.2.1, S.2.2.2.1.2.2.2.2.2.1, S.2.2.2.1.2.2.2.2.2.2.1, S.2.2.2.1.2.2.2.2.2.2.2.1, S.2.2.2.1.2.2.2.2.2.2.2.2.1, v), S.2.2.2.2)
def MS.s_wordCount (S : MS) (v : Nat) : MS := (S.1, S.2.1, S.2.2.1, S.2.2.2.1, (v, S.2.2.2.2.1.2), S.2.2.2.2.2)
def MS.s_values (S : MS) (v : Nat → Int32) : MS := (S.1, S.2.1, S.2.2.1, S.2.2.2.1, (S.2.2.2.2.1.1, v, S.2.2.2.2.1.2.2), S.2.2.2.2.2)
def MS.s_valueAt (S : MS) (v : Nat → Int32) : MS := (S.1, S.2.1, S.2.2.1, S.2.2.2.1, (S.2.2.2.2.1.1, S.2.2.2.2.1.2.1, v, S.2.2.2.2.1.2.2.2), S.2.2.2.2.2)
def MS.s_valueLength (S : MS) (v : Nat → Int32) : MS := (S.1, S.2.1, S.2.2.1, S.2.2.2.1, (S.2.2.2.2.1.1, S.2.2.2.2.1.2.1, S.2.2.2.2.1.2.2.1, v, S.2.2.2.2.1.2.2.2.2), S.2.2.2.2.2)
def MS.s_valueCount (S : MS) (v : Nat) : MS := (S.1, S.2.1, S.2.2.1, S.2.2.2.1, (S.2.2.2.2.1.1, S.2.2.2.2.1.2.1, S.2.2.2.2.1.2.2.1, S.2.2.2.2.1.2.2.2.1, v, S.2.2.2.2.1.2.2.2.2.2), S.2.2.2.2.2)
def MS.s_pageBase (S : MS) (v : Nat) : MS := (S.1, S.2.1, S.2.2.1, S.2.2.2.1, (S.2.2.2.2.1.1, S.2.2.2.2.1.2.1, S.2.2.2.2.1.2.2.1, S.2.2.2.2.1.2.2.2.1, S.2.2.2.2.1.2.2.2.2.1, v, S.2.2.2.2.1.2.2.2.2.2.2), S.2.2.2.2.2)
def MS.s_hasBase (S : MS) (v : Bool) : MS := (S.1, S.2.1, S.2.2.1, S.2.2.2.1, (S.2.2.2.2.1.1, S.2.2.2.2.1.2.1, S.2.2.2.2.1.2.2.1, S.2.2.2.2.1.2.2.2.1, S.2.2.2.2.1.2.2.2.2.1, S.2.2.2.2.1.2.2.2.2.2.1, v, S.2.2.2.2.1.2.2.2.2.2.2.2), S.2.2.2.2.2)
def MS.s_byteValue (S : MS) (v : Int32) : MS := (S.1, S.2.1, S.2.2.1, S.2.2.2.1, (S.2.2.2.2.1.1, S.2.2.2.2.1.2.1, S.2.2.2.2.1.2.2.1, S.2.2.2.2.1.2.2.2.1, S.2.2.2.2.1.2.2.2.2.1, S.2.2.2.2.1.2.2.2.2.2.1, S.2.2.2.2.1.2.2.2.2.2.2.1, v, S.2.2.2.2.1.2.2.2.2.2.2.2.2), S.2.2.2.2.2)
def MS.s_hrefFrom (S : MS) (v : Nat) : MS := (S.1, S.2.1, S.2.2.1, S.2.2.2.1, (S.2.2.2.2.1.1, S.2.2.2.2.1.2.1, S.2.2.2.2.1.2.2.1, S.2.2.2.2.1.2.2.2.1, S.2.2.2.2.1.2.2.2.2.1, S.2.2.2.2.1.2.2.2.2.2.1, S.2.2.2.2.1.2.2.2.2.2.2.1, S.2.2.2.2.1.2.2.2.2.2.2.2.1, v, S.2.2.2.2.1.2.2.2.2.2.2.2.2.2), S.2.2.2.2.2)
def MS.s_hrefEnd (S : MS) (v : Nat) : MS := (S.1, S.2.1, S.2.2.1, S.2.2.2.1, (S.2.2.2.2.1.1, S.2.2.2.2.1.2.1, S.2.2.2.2.1.2.2.1, S.2.2.2.2.1.2.2.2.1, S.2.2.2.2.1.2.2.2.2.1, S.2.2.2.2.1.2.2.2.2.2.1, S.2.2.2.2.1.2.2.2.2.2.2.1, S.2.2.2.2.1.2.2.2.2.2.2.2.1, S.2.2.2.2.1.2.2.2.2.2.2.2.2.1, v), S.2.2.2.2.2)
def MS.s_hasHref (S : MS) (v : Bool) : MS := (S.1, S.2.1, S.2.2.1, S.2.2.2.1, S.2.2.2.2.1, (v, S.2.2.2.2.2.1.2), S.2.2.2.2.2.2)
def MS.s_pageAddress (S : MS) (v : Nat → Int32) : MS := (S.1, S.2.1, S.2.2.1, S.2.2.2.1, S.2.2.2.2.1, (S.2.2.2.2.2.1.1, v, S.2.2.2.2.2.1.2.2), S.2.2.2.2.2.2)
def MS.s_pageStatus (S : MS) (v : Nat → Int32) : MS := (S.1, S.2.1, S.2.2.1, S.2.2.2.1, S.2.2.2.2.1, (S.2.2.2.2.2.1.1, S.2.2.2.2.2.1.2.1, v, S.2.2.2.2.2.1.2.2.2), S.2.2.2.2.2.2)
def MS.s_pageText (S : MS) (v : Nat → Int32) : MS := (S.1, S.2.1, S.2.2.1, S.2.2.2.1, S.2.2.2.2.1, (S.2.2.2.2.2.1.1, S.2.2.2.2.2.1.2.1, S.2.2.2.2.2.1.2.2.1, v, S.2.2.2.2.2.1.2.2.2.2), S.2.2.2.2.2.2)
def MS.s_pageCount (S : MS) (v : Nat) : MS := (S.1, S.2.1, S.2.2.1, S.2.2.2.1, S.2.2.2.2.1, (S.2.2.2.2.2.1.1, S.2.2.2.2.2.1.2.1, S.2.2.2.2.2.1.2.2.1, S.2.2.2.2.2.1.2.2.2.1, v, S.2.2.2.2.2.1.2.2.2.2.2), S.2.2.2.2.2.2)
def MS.s_links (S : MS) (v : Nat → Int32) : MS := (S.1, S.2.1, S.2.2.1, S.2.2.2.1, S.2.2.2.2.1, (S.2.2.2.2.2.1.1, S.2.2.2.2.2.1.2.1, S.2.2.2.2.2.1.2.2.1, S.2.2.2.2.2.1.2.2.2.1, S.2.2.2.2.2.1.2.2.2.2.1, v, S.2.2.2.2.2.1.2.2.2.2.2.2), S.2.2.2.2.2.2)
def MS.s_linkCount (S : MS) (v : Nat) : MS := (S.1, S.2.1, S.2.2.1, S.2.2.2.1, S.2.2.2.2.1, (S.2.2.2.2.2.1.1, S.2.2.2.2.2.1.2.1, S.2.2.2.2.2.1.2.2.1, S.2.2.2.2.2.1.2.2.2.1, S.2.2.2.2.2.1.2.2.2.2.1, S.2.2.2.2.2.1.2.2.2.2.2.1, v, S.2.2.2.2.2.1.2.2.2.2.2.2.2), S.2.2.2.2.2.2)
def MS.s_told (S : MS) (v : Nat → Int32) : MS := (S.1, S.2.1, S.2.2.1, S.2.2.2.1, S.2.2.2.2.1, (S.2.2.2.2.2.1.1, S.2.2.2.2.2.1.2.1, S.2.2.2.2.2.1.2.2.1, S.2.2.2.2.2.1.2.2.2.1, S.2.2.2.2.2.1.2.2.2.2.1, S.2.2.2.2.2.1.2.2.2.2.2.1, S.2.2.2.2.2.1.2.2.2.2.2.2.1, v, S.2.2.2.2.2.1.2.2.2.2.2.2.2.2), S.2.2.2.2.2.2)
def MS.s_held (S : MS) (v : Nat → Int32) : MS := (S.1, S.2.1, S.2.2.1, S.2.2.2.1, S.2.2.2.2.1, (S.2.2.2.2.2.1.1, S.2.2.2.2.2.1.2.1, S.2.2.2.2.2.1.2.2.1, S.2.2.2.2.2.1.2.2.2.1, S.2.2.2.2.2.1.2.2.2.2.1, S.2.2.2.2.2.1.2.2.2.2.2.1, S.2.2.2.2.2.1.2.2.2.2.2.2.1, S.2.2.2.2.2.1.2.2.2.2.2.2.2.1, v, S.2.2.2.2.2.1.2.2.2.2.2.2.2.2.2), S.2.2.2.2.2.2)
def MS.s_seeds (S : MS) (v : Nat → Int32) : MS := (S.1, S.2.1, S.2.2.1, S.2.2.2.1, S.2.2.2.2.1, (S.2.2.2.2.2.1.1, S.2.2.2.2.2.1.2.1, S.2.2.2.2.2.1.2.2.1, S.2.2.2.2.2.1.2.2.2.1, S.2.2.2.2.2.1.2.2.2.2.1, S.2.2.2.2.2.1.2.2.2.2.2.1, S.2.2.2.2.2.1.2.2.2.2.2.2.1, S.2.2.2.2.2.1.2.2.2.2.2.2.2.1, S.2.2.2.2.2.1.2.2.2.2.2.2.2.2.1, v), S.2.2.2.2.2.2)
def MS.s_seedCount (S : MS) (v : Nat) : MS := (S.1, S.2.1, S.2.2.1, S.2.2.2.1, S.2.2.2.2.1, S.2.2.2.2.2.1, (v, S.2.2.2.2.2.2.1.2), S.2.2.2.2.2.2.2)
def MS.s_isStarted (S : MS) (v : Bool) : MS := (S.1, S.2.1, S.2.2.1, S.2.2.2.1, S.2.2.2.2.1, S.2.2.2.2.2.1, (S.2.2.2.2.2.2.1.1, v, S.2.2.2.2.2.2.1.2.2), S.2.2.2.2.2.2.2)
def MS.s_clock (S : MS) (v : Nat) : MS := (S.1, S.2.1, S.2.2.1, S.2.2.2.1, S.2.2.2.2.1, S.2.2.2.2.2.1, (S.2.2.2.2.2.2.1.1, S.2.2.2.2.2.2.1.2.1, v, S.2.2.2.2.2.2.1.2.2.2), S.2.2.2.2.2.2.2)
def MS.s_known (S : MS) (v : Nat → Int32) : MS := (S.1, S.2.1, S.2.2.1, S.2.2.2.1, S.2.2.2.2.1, S.2.2.2.2.2.1, (S.2.2.2.2.2.2.1.1, S.2.2.2.2.2.2.1.2.1, S.2.2.2.2.2.2.1.2.2.1, v, S.2.2.2.2.2.2.1.2.2.2.2), S.2.2.2.2.2.2.2)
def MS.s_knownCount (S : MS) (v : Nat) : MS := (S.1, S.2.1, S.2.2.1, S.2.2.2.1, S.2.2.2.2.1, S.2.2.2.2.2.1, (S.2.2.2.2.2.2.1.1, S.2.2.2.2.2.2.1.2.1, S.2.2.2.2.2.2.1.2.2.1, S.2.2.2.2.2.2.1.2.2.2.1, v, S.2.2.2.2.2.2.1.2.2.2.2.2), S.2.2.2.2.2.2.2)
def MS.s_saved (S : MS) (v : Nat → Int32) : MS := (S.1, S.2.1, S.2.2.1, S.2.2.2.1, S.2.2.2.2.1, S.2.2.2.2.2.1, (S.2.2.2.2.2.2.1.1, S.2.2.2.2.2.2.1.2.1, S.2.2.2.2.2.2.1.2.2.1, S.2.2.2.2.2.2.1.2.2.2.1, S.2.2.2.2.2.2.1.2.2.2.2.1, v, S.2.2.2.2.2.2.1.2.2.2.2.2.2), S.2.2.2.2.2.2.2)
def MS.s_savedCount (S : MS) (v : Nat) : MS := (S.1, S.2.1, S.2.2.1, S.2.2.2.1, S.2.2.2.2.1, S.2.2.2.2.2.1, (S.2.2.2.2.2.2.1.1, S.2.2.2.2.2.2.1.2.1, S.2.2.2.2.2.2.1.2.2.1, S.2.2.2.2.2.2.1.2.2.2.1, S.2.2.2.2.2.2.1.2.2.2.2.1, S.2.2.2.2.2.2.1.2.2.2.2.2.1, v, S.2.2.2.2.2.2.1.2.2.2.2.2.2.2), S.2.2.2.2.2.2.2)
def MS.s_askedSince (S : MS) (v : Nat) : MS := (S.1, S.2.1, S.2.2.1, S.2.2.2.1, S.2.2.2.2.1, S.2.2.2.2.2.1, (S.2.2.2.2.2.2.1.1, S.2.2.2.2.2.2.1.2.1, S.2.2.2.2.2.2.1.2.2.1, S.2.2.2.2.2.2.1.2.2.2.1, S.2.2.2.2.2.2.1.2.2.2.2.1, S.2.2.2.2.2.2.1.2.2.2.2.2.1, S.2.2.2.2.2.2.1.2.2.2.2.2.2.1, v, S.2.2.2.2.2.2.1.2.2.2.2.2.2.2.2), S.2.2.2.2.2.2.2)
def MS.s_asked (S : MS) (v : Nat) : MS := (S.1, S.2.1, S.2.2.1, S.2.2.2.1, S.2.2.2.2.1, S.2.2.2.2.2.1, (S.2.2.2.2.2.2.1.1, S.2.2.2.2.2.2.1.2.1, S.2.2.2.2.2.2.1.2.2.1, S.2.2.2.2.2.2.1.2.2.2.1, S.2.2.2.2.2.2.1.2.2.2.2.1, S.2.2.2.2.2.2.1.2.2.2.2.2.1, S.2.2.2.2.2.2.1.2.2.2.2.2.2.1, S.2.2.2.2.2.2.1.2.2.2.2.2.2.2.1, v, S.2.2.2.2.2.2.1.2.2.2.2.2.2.2.2.2), S.2.2.2.2.2.2.2)
def MS.s_askedClock (S : MS) (v : Nat → Int32) : MS := (S.1, S.2.1, S.2.2.1, S.2.2.2.1, S.2.2.2.2.1, S.2.2.2.2.2.1, (S.2.2.2.2.2.2.1.1, S.2.2.2.2.2.2.1.2.1, S.2.2.2.2.2.2.1.2.2.1, S.2.2.2.2.2.2.1.2.2.2.1, S.2.2.2.2.2.2.1.2.2.2.2.1, S.2.2.2.2.2.2.1.2.2.2.2.2.1, S.2.2.2.2.2.2.1.2.2.2.2.2.2.1, S.2.2.2.2.2.2.1.2.2.2.2.2.2.2.1, S.2.2.2.2.2.2.1.2.2.2.2.2.2.2.2.1, v), S.2.2.2.2.2.2.2)
def MS.s_askedAddress (S : MS) (v : Nat → Int32) : MS := (S.1, S.2.1, S.2.2.1, S.2.2.2.1, S.2.2.2.2.1, S.2.2.2.2.2.1, S.2.2.2.2.2.2.1, (v, S.2.2.2.2.2.2.2.1.2), S.2.2.2.2.2.2.2.2)
def MS.s_siteOf (S : MS) (v : Nat → Int32) : MS := (S.1, S.2.1, S.2.2.1, S.2.2.2.1, S.2.2.2.2.1, S.2.2.2.2.2.1, S.2.2.2.2.2.2.1, (S.2.2.2.2.2.2.2.1.1, v, S.2.2.2.2.2.2.2.1.2.2), S.2.2.2.2.2.2.2.2)
def MS.s_siteTime (S : MS) (v : Nat → Int32) : MS := (S.1, S.2.1, S.2.2.1, S.2.2.2.1, S.2.2.2.2.1, S.2.2.2.2.2.1, S.2.2.2.2.2.2.1, (S.2.2.2.2.2.2.2.1.1, S.2.2.2.2.2.2.2.1.2.1, v, S.2.2.2.2.2.2.2.1.2.2.2), S.2.2.2.2.2.2.2.2)
def MS.s_siteCount (S : MS) (v : Nat) : MS := (S.1, S.2.1, S.2.2.1, S.2.2.2.1, S.2.2.2.2.1, S.2.2.2.2.2.1, S.2.2.2.2.2.2.1, (S.2.2.2.2.2.2.2.1.1, S.2.2.2.2.2.2.2.1.2.1, S.2.2.2.2.2.2.2.1.2.2.1, v, S.2.2.2.2.2.2.2.1.2.2.2.2), S.2.2.2.2.2.2.2.2)
def MS.s_otherTime (S : MS) (v : Option Nat) : MS := (S.1, S.2.1, S.2.2.1, S.2.2.2.1, S.2.2.2.2.1, S.2.2.2.2.2.1, S.2.2.2.2.2.2.1, (S.2.2.2.2.2.2.2.1.1, S.2.2.2.2.2.2.2.1.2.1, S.2.2.2.2.2.2.2.1.2.2.1, S.2.2.2.2.2.2.2.1.2.2.2.1, v, S.2.2.2.2.2.2.2.1.2.2.2.2.2), S.2.2.2.2.2.2.2.2)
def MS.s_documents (S : MS) (v : Nat) : MS := (S.1, S.2.1, S.2.2.1, S.2.2.2.1, S.2.2.2.2.1, S.2.2.2.2.2.1, S.2.2.2.2.2.2.1, (S.2.2.2.2.2.2.2.1.1, S.2.2.2.2.2.2.2.1.2.1, S.2.2.2.2.2.2.2.1.2.2.1, S.2.2.2.2.2.2.2.1.2.2.2.1, S.2.2.2.2.2.2.2.1.2.2.2.2.1, v, S.2.2.2.2.2.2.2.1.2.2.2.2.2.2), S.2.2.2.2.2.2.2.2)
def MS.s_documentAddress (S : MS) (v : Nat → Int32) : MS := (S.1, S.2.1, S.2.2.1, S.2.2.2.1, S.2.2.2.2.1, S.2.2.2.2.2.1, S.2.2.2.2.2.2.1, (S.2.2.2.2.2.2.2.1.1, S.2.2.2.2.2.2.2.1.2.1, S.2.2.2.2.2.2.2.1.2.2.1, S.2.2.2.2.2.2.2.1.2.2.2.1, S.2.2.2.2.2.2.2.1.2.2.2.2.1, S.2.2.2.2.2.2.2.1.2.2.2.2.2.1, v, S.2.2.2.2.2.2.2.1.2.2.2.2.2.2.2), S.2.2.2.2.2.2.2.2)
def MS.s_documentText (S : MS) (v : Nat → Int32) : MS := (S.1, S.2.1, S.2.2.1, S.2.2.2.1, S.2.2.2.2.1, S.2.2.2.2.2.1, S.2.2.2.2.2.2.1, (S.2.2.2.2.2.2.2.1.1, S.2.2.2.2.2.2.2.1.2.1, S.2.2.2.2.2.2.2.1.2.2.1, S.2.2.2.2.2.2.2.1.2.2.2.1, S.2.2.2.2.2.2.2.1.2.2.2.2.1, S.2.2.2.2.2.2.2.1.2.2.2.2.2.1, S.2.2.2.2.2.2.2.1.2.2.2.2.2.2.1, v, S.2.2.2.2.2.2.2.1.2.2.2.2.2.2.2.2), S.2.2.2.2.2.2.2.2)
def MS.s_documentNumber (S : MS) (v : Nat → Int32) : MS := (S.1, S.2.1, S.2.2.1, S.2.2.2.1, S.2.2.2.2.1, S.2.2.2.2.2.1, S.2.2.2.2.2.2.1, (S.2.2.2.2.2.2.2.1.1, S.2.2.2.2.2.2.2.1.2.1, S.2.2.2.2.2.2.2.1.2.2.1, S.2.2.2.2.2.2.2.1.2.2.2.1, S.2.2.2.2.2.2.2.1.2.2.2.2.1, S.2.2.2.2.2.2.2.1.2.2.2.2.2.1, S.2.2.2.2.2.2.2.1.2.2.2.2.2.2.1, S.2.2.2.2.2.2.2.1.2.2.2.2.2.2.2.1, v, S.2.2.2.2.2.2.2.1.2.2.2.2.2.2.2.2.2), S.2.2.2.2.2.2.2.2)
def MS.s_documentCopies (S : MS) (v : Nat → Int32) : MS := (S.1, S.2.1, S.2.2.1, S.2.2.2.1, S.2.2.2.2.1, S.2.2.2.2.2.1, S.2.2.2.2.2.2.1, (S.2.2.2.2.2.2.2.1.1, S.2.2.2.2.2.2.2.1.2.1, S.2.2.2.2.2.2.2.1.2.2.1, S.2.2.2.2.2.2.2.1.2.2.2.1, S.2.2.2.2.2.2.2.1.2.2.2.2.1, S.2.2.2.2.2.2.2.1.2.2.2.2.2.1, S.2.2.2.2.2.2.2.1.2.2.2.2.2.2.1, S.2.2.2.2.2.2.2.1.2.2.2.2.2.2.2.1, S.2.2.2.2.2.2.2.1.2.2.2.2.2.2.2.2.1, v), S.2.2.2.2.2.2.2.2)
def MS.s_documentWords (S : MS) (v : Nat → Int32) : MS := (S.1, S.2.1, S.2.2.1, S.2.2.2.1, S.2.2.2.2.1, S.2.2.2.2.2.1, S.2.2.2.2.2.2.1, S.2.2.2.2.2.2.2.1, (v, S.2.2.2.2.2.2.2.2.2))
def MS.s_ranks (S : MS) (v : Nat → Int64) : MS := (S.1, S.2.1, S.2.2.1, S.2.2.2.1, S.2.2.2.2.1, S.2.2.2.2.2.1, S.2.2.2.2.2.2.1, S.2.2.2.2.2.2.2.1, (S.2.2.2.2.2.2.2.2.1, v, S.2.2.2.2.2.2.2.2.2.2))
def MS.s_nextRanks (S : MS) (v : Nat → Int64) : MS := (S.1, S.2.1, S.2.2.1, S.2.2.2.1, S.2.2.2.2.1, S.2.2.2.2.2.1, S.2.2.2.2.2.2.1, S.2.2.2.2.2.2.2.1, (S.2.2.2.2.2.2.2.2.1, S.2.2.2.2.2.2.2.2.2.1, v, S.2.2.2.2.2.2.2.2.2.2.2))
def MS.s_leads (S : MS) (v : Nat → Int32) : MS := (S.1, S.2.1, S.2.2.1, S.2.2.2.1, S.2.2.2.2.1, S.2.2.2.2.2.1, S.2.2.2.2.2.2.1, S.2.2.2.2.2.2.2.1, (S.2.2.2.2.2.2.2.2.1, S.2.2.2.2.2.2.2.2.2.1, S.2.2.2.2.2.2.2.2.2.2.1, v, S.2.2.2.2.2.2.2.2.2.2.2.2))
def MS.s_hits (S : MS) (v : Nat) : MS := (S.1, S.2.1, S.2.2.1, S.2.2.2.1, S.2.2.2.2.1, S.2.2.2.2.2.1, S.2.2.2.2.2.2.1, S.2.2.2.2.2.2.2.1, (S.2.2.2.2.2.2.2.2.1, S.2.2.2.2.2.2.2.2.2.1, S.2.2.2.2.2.2.2.2.2.2.1, S.2.2.2.2.2.2.2.2.2.2.2.1, v, S.2.2.2.2.2.2.2.2.2.2.2.2.2))
def MS.s_hitDocument (S : MS) (v : Nat → Int32) : MS := (S.1, S.2.1, S.2.2.1, S.2.2.2.1, S.2.2.2.2.1, S.2.2.2.2.2.1, S.2.2.2.2.2.2.1, S.2.2.2.2.2.2.2.1, (S.2.2.2.2.2.2.2.2.1, S.2.2.2.2.2.2.2.2.2.1, S.2.2.2.2.2.2.2.2.2.2.1, S.2.2.2.2.2.2.2.2.2.2.2.1, S.2.2.2.2.2.2.2.2.2.2.2.2.1, v, S.2.2.2.2.2.2.2.2.2.2.2.2.2.2))
def MS.s_hitScore (S : MS) (v : Nat → Int64) : MS := (S.1, S.2.1, S.2.2.1, S.2.2.2.1, S.2.2.2.2.1, S.2.2.2.2.2.1, S.2.2.2.2.2.2.1, S.2.2.2.2.2.2.2.1, (S.2.2.2.2.2.2.2.2.1, S.2.2.2.2.2.2.2.2.2.1, S.2.2.2.2.2.2.2.2.2.2.1, S.2.2.2.2.2.2.2.2.2.2.2.1, S.2.2.2.2.2.2.2.2.2.2.2.2.1, S.2.2.2.2.2.2.2.2.2.2.2.2.2.1, v, S.2.2.2.2.2.2.2.2.2.2.2.2.2.2.2))
def MS.s_question (S : MS) (v : Nat → Int32) : MS := (S.1, S.2.1, S.2.2.1, S.2.2.2.1, S.2.2.2.2.1, S.2.2.2.2.2.1, S.2.2.2.2.2.2.1, S.2.2.2.2.2.2.2.1, (S.2.2.2.2.2.2.2.2.1, S.2.2.2.2.2.2.2.2.2.1, S.2.2.2.2.2.2.2.2.2.2.1, S.2.2.2.2.2.2.2.2.2.2.2.1, S.2.2.2.2.2.2.2.2.2.2.2.2.1, S.2.2.2.2.2.2.2.2.2.2.2.2.2.1, S.2.2.2.2.2.2.2.2.2.2.2.2.2.2.1, v, S.2.2.2.2.2.2.2.2.2.2.2.2.2.2.2.2))
def MS.s_questionLength (S : MS) (v : Nat → Int32) : MS := (S.1, S.2.1, S.2.2.1, S.2.2.2.1, S.2.2.2.2.1, S.2.2.2.2.2.1, S.2.2.2.2.2.2.1, S.2.2.2.2.2.2.2.1, (S.2.2.2.2.2.2.2.2.1, S.2.2.2.2.2.2.2.2.2.1, S.2.2.2.2.2.2.2.2.2.2.1, S.2.2.2.2.2.2.2.2.2.2.2.1, S.2.2.2.2.2.2.2.2.2.2.2.2.1, S.2.2.2.2.2.2.2.2.2.2.2.2.2.1, S.2.2.2.2.2.2.2.2.2.2.2.2.2.2.1, S.2.2.2.2.2.2.2.2.2.2.2.2.2.2.2.1, v, S.2.2.2.2.2.2.2.2.2.2.2.2.2.2.2.2.2))
def MS.s_questionCount (S : MS) (v : Nat) : MS := (S.1, S.2.1, S.2.2.1, S.2.2.2.1, S.2.2.2.2.1, S.2.2.2.2.2.1, S.2.2.2.2.2.2.1, S.2.2.2.2.2.2.2.1, (S.2.2.2.2.2.2.2.2.1, S.2.2.2.2.2.2.2.2.2.1, S.2.2.2.2.2.2.2.2.2.2.1, S.2.2.2.2.2.2.2.2.2.2.2.1, S.2.2.2.2.2.2.2.2.2.2.2.2.1, S.2.2.2.2.2.2.2.2.2.2.2.2.2.1, S.2.2.2.2.2.2.2.2.2.2.2.2.2.2.1, S.2.2.2.2.2.2.2.2.2.2.2.2.2.2.2.1, S.2.2.2.2.2.2.2.2.2.2.2.2.2.2.2.2.1, v))
theorem MS.ss_coming (S : MS) (v w : Nat → Int32) : (S.s_coming v).s_coming w = S.s_coming w := rfl
theorem MS.ss_size (S : MS) (v w : Nat) : (S.s_size v).s_size w = S.s_size w := rfl
theorem MS.ss_fault (S : MS) (v w : Nat) : (S.s_fault v).s_fault w = S.s_fault w := rfl
theorem MS.ss_product (S : MS) (v w : Nat → Int32) : (S.s_product v).s_product w = S.s_product w := rfl
theorem MS.ss_productSize (S : MS) (v w : Nat) : (S.s_productSize v).s_productSize w = S.s_productSize w := rfl
theorem MS.ss_addresses (S : MS) (v w : Nat → Int32) : (S.s_addresses v).s_addresses w = S.s_addresses w := rfl
theorem MS.ss_addressAt (S : MS) (v w : Nat → Int32) : (S.s_addressAt v).s_addressAt w = S.s_addressAt w := rfl
theorem MS.ss_addressLength (S : MS) (v w : Nat → Int32) : (S.s_addressLength v).s_addressLength w = S.s_addressLength w := rfl
theorem MS.ss_addressCount (S : MS) (v w : Nat) : (S.s_addressCount v).s_addressCount w = S.s_addressCount w := rfl
theorem MS.ss_made (S : MS) (v w : Nat → Int32) : (S.s_made v).s_made w = S.s_made w := rfl
theorem MS.ss_madeLength (S : MS) (v w : Nat) : (S.s_madeLength v).s_madeLength w = S.s_madeLength w := rfl
theorem MS.ss_host (S : MS) (v w : Nat → Int32) : (S.s_host v).s_host w = S.s_host w := rfl
theorem MS.ss_path (S : MS) (v w : Nat → Int32) : (S.s_path v).s_path w = S.s_path w := rfl
theorem MS.ss_query (S : MS) (v w : Nat → Int32) : (S.s_query v).s_query w = S.s_query w := rfl
theorem MS.ss_neat (S : MS) (v w : Nat → Int32) : (S.s_neat v).s_neat w = S.s_neat w := rfl
theorem MS.ss_marks (S : MS) (v w : Nat → Int32) : (S.s_marks v).s_marks w = S.s_marks w := rfl
theorem MS.ss_hostLength (S : MS) (v w : Nat) : (S.s_hostLength v).s_hostLength w = S.s_hostLength w := rfl
theorem MS.ss_pathLength (S : MS) (v w : Nat) : (S.s_pathLength v).s_pathLength w = S.s_pathLength w := rfl
theorem MS.ss_queryLength (S : MS) (v w : Option Nat) : (S.s_queryLength v).s_queryLength w = S.s_queryLength w := rfl
theorem MS.ss_texts (S : MS) (v w : Nat → Int32) : (S.s_texts v).s_texts w = S.s_texts w := rfl
theorem MS.ss_textsEnd (S : MS) (v w : Nat) : (S.s_textsEnd v).s_textsEnd w = S.s_textsEnd w := rfl
theorem MS.ss_textAt (S : MS) (v w : Nat → Int32) : (S.s_textAt v).s_textAt w = S.s_textAt w := rfl
theorem MS.ss_textEnd (S : MS) (v w : Nat → Int32) : (S.s_textEnd v).s_textEnd w = S.s_textEnd w := rfl
theorem MS.ss_textCount (S : MS) (v w : Nat) : (S.s_textCount v).s_textCount w = S.s_textCount w := rfl
theorem MS.ss_ruleSite (S : MS) (v w : Nat → Int32) : (S.s_ruleSite v).s_ruleSite w = S.s_ruleSite w := rfl
theorem MS.ss_ruleText (S : MS) (v w : Nat → Int32) : (S.s_ruleText v).s_ruleText w = S.s_ruleText w := rfl
theorem MS.ss_ruleCount (S : MS) (v w : Nat) : (S.s_ruleCount v).s_ruleCount w = S.s_ruleCount w := rfl
theorem MS.ss_key (S : MS) (v w : Option Nat) : (S.s_key v).s_key w = S.s_key w := rfl
theorem MS.ss_valueFrom (S : MS) (v w : Nat) : (S.s_valueFrom v).s_valueFrom w = S.s_valueFrom w := rfl
theorem MS.ss_valueEnd (S : MS) (v w : Nat) : (S.s_valueEnd v).s_valueEnd w = S.s_valueEnd w := rfl
theorem MS.ss_pattern (S : MS) (v w : Nat → Int32) : (S.s_pattern v).s_pattern w = S.s_pattern w := rfl
theorem MS.ss_patternLength (S : MS) (v w : Nat) : (S.s_patternLength v).s_patternLength w = S.s_patternLength w := rfl
theorem MS.ss_reached (S : MS) (v w : Nat → Int32) : (S.s_reached v).s_reached w = S.s_reached w := rfl
theorem MS.ss_holding (S : MS) (v w : Nat) : (S.s_holding v).s_holding w = S.s_holding w := rfl
theorem MS.ss_isAllowed (S : MS) (v w : Bool) : (S.s_isAllowed v).s_isAllowed w = S.s_isAllowed w := rfl
theorem MS.ss_decoded (S : MS) (v w : Nat → Int32) : (S.s_decoded v).s_decoded w = S.s_decoded w := rfl
theorem MS.ss_decodedLength (S : MS) (v w : Nat) : (S.s_decodedLength v).s_decodedLength w = S.s_decodedLength w := rfl
theorem MS.ss_words (S : MS) (v w : Nat → Int32) : (S.s_words v).s_words w = S.s_words w := rfl
theorem MS.ss_wordAt (S : MS) (v w : Nat → Int32) : (S.s_wordAt v).s_wordAt w = S.s_wordAt w := rfl
theorem MS.ss_wordLength (S : MS) (v w : Nat → Int32) : (S.s_wordLength v).s_wordLength w = S.s_wordLength w := rfl
theorem MS.ss_wordCount (S : MS) (v w : Nat) : (S.s_wordCount v).s_wordCount w = S.s_wordCount w := rfl
theorem MS.ss_values (S : MS) (v w : Nat → Int32) : (S.s_values v).s_values w = S.s_values w := rfl
theorem MS.ss_valueAt (S : MS) (v w : Nat → Int32) : (S.s_valueAt v).s_valueAt w = S.s_valueAt w := rfl
theorem MS.ss_valueLength (S : MS) (v w : Nat → Int32) : (S.s_valueLength v).s_valueLength w = S.s_valueLength w := rfl
theorem MS.ss_valueCount (S : MS) (v w : Nat) : (S.s_valueCount v).s_valueCount w = S.s_valueCount w := rfl
theorem MS.ss_pageBase (S : MS) (v w : Nat) : (S.s_pageBase v).s_pageBase w = S.s_pageBase w := rfl
theorem MS.ss_hasBase (S : MS) (v w : Bool) : (S.s_hasBase v).s_hasBase w = S.s_hasBase w := rfl
theorem MS.ss_byteValue (S : MS) (v w : Int32) : (S.s_byteValue v).s_byteValue w = S.s_byteValue w := rfl
theorem MS.ss_hrefFrom (S : MS) (v w : Nat) : (S.s_hrefFrom v).s_hrefFrom w = S.s_hrefFrom w := rfl
theorem MS.ss_hrefEnd (S : MS) (v w : Nat) : (S.s_hrefEnd v).s_hrefEnd w = S.s_hrefEnd w := rfl
theorem MS.ss_hasHref (S : MS) (v w : Bool) : (S.s_hasHref v).s_hasHref w = S.s_hasHref w := rfl
theorem MS.ss_pageAddress (S : MS) (v w : Nat → Int32) : (S.s_pageAddress v).s_pageAddress w = S.s_pageAddress w := rfl
theorem MS.ss_pageStatus (S : MS) (v w : Nat → Int32) : (S.s_pageStatus v).s_pageStatus w = S.s_pageStatus w := rfl
theorem MS.ss_pageText (S : MS) (v w : Nat → Int32) : (S.s_pageText v).s_pageText w = S.s_pageText w := rfl
theorem MS.ss_pageCount (S : MS) (v w : Nat) : (S.s_pageCount v).s_pageCount w = S.s_pageCount w := rfl
theorem MS.ss_links (S : MS) (v w : Nat → Int32) : (S.s_links v).s_links w = S.s_links w := rfl
theorem MS.ss_linkCount (S : MS) (v w : Nat) : (S.s_linkCount v).s_linkCount w = S.s_linkCount w := rfl
theorem MS.ss_told (S : MS) (v w : Nat → Int32) : (S.s_told v).s_told w = S.s_told w := rfl
theorem MS.ss_held (S : MS) (v w : Nat → Int32) : (S.s_held v).s_held w = S.s_held w := rfl
theorem MS.ss_seeds (S : MS) (v w : Nat → Int32) : (S.s_seeds v).s_seeds w = S.s_seeds w := rfl
theorem MS.ss_seedCount (S : MS) (v w : Nat) : (S.s_seedCount v).s_seedCount w = S.s_seedCount w := rfl
theorem MS.ss_isStarted (S : MS) (v w : Bool) : (S.s_isStarted v).s_isStarted w = S.s_isStarted w := rfl
theorem MS.ss_clock (S : MS) (v w : Nat) : (S.s_clock v).s_clock w = S.s_clock w := rfl
theorem MS.ss_known (S : MS) (v w : Nat → Int32) : (S.s_known v).s_known w = S.s_known w := rfl
theorem MS.ss_knownCount (S : MS) (v w : Nat) : (S.s_knownCount v).s_knownCount w = S.s_knownCount w := rfl
theorem MS.ss_saved (S : MS) (v w : Nat → Int32) : (S.s_saved v).s_saved w = S.s_saved w := rfl
theorem MS.ss_savedCount (S : MS) (v w : Nat) : (S.s_savedCount v).s_savedCount w = S.s_savedCount w := rfl
theorem MS.ss_askedSince (S : MS) (v w : Nat) : (S.s_askedSince v).s_askedSince w = S.s_askedSince w := rfl
theorem MS.ss_asked (S : MS) (v w : Nat) : (S.s_asked v).s_asked w = S.s_asked w := rfl
theorem MS.ss_askedClock (S : MS) (v w : Nat → Int32) : (S.s_askedClock v).s_askedClock w = S.s_askedClock w := rfl
theorem MS.ss_askedAddress (S : MS) (v w : Nat → Int32) : (S.s_askedAddress v).s_askedAddress w = S.s_askedAddress w := rfl
theorem MS.ss_siteOf (S : MS) (v w : Nat → Int32) : (S.s_siteOf v).s_siteOf w = S.s_siteOf w := rfl
theorem MS.ss_siteTime (S : MS) (v w : Nat → Int32) : (S.s_siteTime v).s_siteTime w = S.s_siteTime w := rfl
theorem MS.ss_siteCount (S : MS) (v w : Nat) : (S.s_siteCount v).s_siteCount w = S.s_siteCount w := rfl
theorem MS.ss_otherTime (S : MS) (v w : Option Nat) : (S.s_otherTime v).s_otherTime w = S.s_otherTime w := rfl
theorem MS.ss_documents (S : MS) (v w : Nat) : (S.s_documents v).s_documents w = S.s_documents w := rfl
theorem MS.ss_documentAddress (S : MS) (v w : Nat → Int32) : (S.s_documentAddress v).s_documentAddress w = S.s_documentAddress w := rfl
theorem MS.ss_documentText (S : MS) (v w : Nat → Int32) : (S.s_documentText v).s_documentText w = S.s_documentText w := rfl
theorem MS.ss_documentNumber (S : MS) (v w : Nat → Int32) : (S.s_documentNumber v).s_documentNumber w = S.s_documentNumber w := rfl
theorem MS.ss_documentCopies (S : MS) (v w : Nat → Int32) : (S.s_documentCopies v).s_documentCopies w = S.s_documentCopies w := rfl
theorem MS.ss_documentWords (S : MS) (v w : Nat → Int32) : (S.s_documentWords v).s_documentWords w = S.s_documentWords w := rfl
theorem MS.ss_ranks (S : MS) (v w : Nat → Int64) : (S.s_ranks v).s_ranks w = S.s_ranks w := rfl
theorem MS.ss_nextRanks (S : MS) (v w : Nat → Int64) : (S.s_nextRanks v).s_nextRanks w = S.s_nextRanks w := rfl
theorem MS.ss_leads (S : MS) (v w : Nat → Int32) : (S.s_leads v).s_leads w = S.s_leads w := rfl
theorem MS.ss_hits (S : MS) (v w : Nat) : (S.s_hits v).s_hits w = S.s_hits w := rfl
theorem MS.ss_hitDocument (S : MS) (v w : Nat → Int32) : (S.s_hitDocument v).s_hitDocument w = S.s_hitDocument w := rfl
theorem MS.ss_hitScore (S : MS) (v w : Nat → Int64) : (S.s_hitScore v).s_hitScore w = S.s_hitScore w := rfl
theorem MS.ss_question (S : MS) (v w : Nat → Int32) : (S.s_question v).s_question w = S.s_question w := rfl
theorem MS.ss_questionLength (S : MS) (v w : Nat → Int32) : (S.s_questionLength v).s_questionLength w = S.s_questionLength w := rfl
theorem MS.ss_questionCount (S : MS) (v w : Nat) : (S.s_questionCount v).s_questionCount w = S.s_questionCount w := rfl
section MSS
variable {A B : List va_E} {S : MS}
theorem mp_a (hA : A.length = 84) (k : Nat) {c : va_E} (h : (mcells S)[k]? = some c) : (mput A S B)[84 + k]? = some c := by
  unfold mput
  rw [List.getElem?_append_right (by omega), hA, Nat.add_sub_cancel_left, List.getElem?_append_left (List.getElem?_eq_some_iff.mp h).1]
  exact h
theorem mp_o (hA : A.length = 84) : (mput A S B)[84]? = some (.inr (12, mfl S)) := mp_a hA 0 rfl
theorem mp_set (hA : A.length = 84) (k : Nat) {c : va_E} {S' : MS} (hk : k < 51) (h : (mcells S).set k c = mcells S') : (mput A S B).set (84 + k) c = mput A S' B := by
  unfold mput
  rw [List.set_append_right _ _ (by omega), hA, Nat.add_sub_cancel_left, List.set_append_left _ _ (by show k < 51; exact hk), h]
theorem mp_len : (mput A S B).length = A.length + 51 + B.length := by
  unfold mput
  rw [List.length_append, List.length_append]
  show A.length + (51 + B.length) = _
  omega
variable {X : am_X} {M : am_Mt} {d pc idx : Nat} {l : am_lo} {st : List Value} {Q : Option Value → List va_E → Prop}
theorem pf_size {v : Nat} (hA : A.length = 84) (hd : decode M.2.1 pc = .ok (.putfield idx, 3)) (hf : am_fp M.1 idx 12 1 .int) (kk : am_G X M d (pc + 3) l st (mput A (S.s_size v) B) Q) : am_G X M d pc l (.int (nI v) :: .ref 84 :: st) (mput A S B) Q :=
  g_putfield hd hf (mp_o hA) (by show 1 < 90; decide) rfl rfl (by rw [show (mput A S B).set 84 (.inr (12, (mfl S).set 1 (.int (nI v)))) = mput A (S.s_size v) B from mp_set hA 0 (by decide) rfl]; exact kk)
theorem pf_fault {v : Nat} (hA : A.length = 84) (hd : decode M.2.1 pc = .ok (.putfield idx, 3)) (hf : am_fp M.1 idx 12 2 .int) (kk : am_G X M d (pc + 3) l st (mput A (S.s_fault v) B) Q) : am_G X M d pc l (.int (nI v) :: .ref 84 :: st) (mput A S B) Q :=
  g_putfield hd hf (mp_o hA) (by show 2 < 90; decide) rfl rfl (by rw [show (mput A S B).set 84 (.inr (12, (mfl S).set 2 (.int (nI v)))) = mput A (S.s_fault v) B from mp_set hA 0 (by decide) rfl]; exact kk)
theorem pf_productSize {v : Nat} (hA : A.length = 84) (hd : decode M.2.1 pc = .ok (.putfield idx, 3)) (hf : am_fp M.1 idx 12 4 .int) (kk : am_G X M d (pc + 3) l st (mput A (S.s_productSize v) B) Q) : am_G X M d pc l (.int (nI v) :: .ref 84 :: st) (mput A S B) Q :=
  g_putfield hd hf (mp_o hA) (by show 4 < 90; decide) rfl rfl (by rw [show (mput A S B).set 84 (.inr (12, (mfl S).set 4 (.int (nI v)))) = mput A (S.s_productSize v) B from mp_set hA 0 (by decide) rfl]; exact kk)
theorem pf_addressCount {v : Nat} (hA : A.length = 84) (hd : decode M.2.1 pc = .ok (.putfield idx, 3)) (hf : am_fp M.1 idx 12 8 .int) (kk : am_G X M d (pc + 3) l st (mput A (S.s_addressCount v) B) Q) : am_G X M d pc l (.int (nI v) :: .ref 84 :: st) (mput A S B) Q :=
  g_putfield hd hf (mp_o hA) (by show 8 < 90; decide) rfl rfl (by rw [show (mput A S B).set 84 (.inr (12, (mfl S).set 8 (.int (nI v)))) = mput A (S.s_addressCount v) B from mp_set hA 0 (by decide) rfl]; exact kk)
theorem pf_madeLength {v : Nat} (hA : A.length = 84) (hd : decode M.2.1 pc = .ok (.putfield idx, 3)) (hf : am_fp M.1 idx 12 10 .int) (kk : am_G X M d (pc + 3) l st (mput A (S.s_madeLength v) B) Q) : am_G X M d pc l (.int (nI v) :: .ref 84 :: st) (mput A S B) Q :=
  g_putfield hd hf (mp_o hA) (by show 10 < 90; decide) rfl rfl (by rw [show (mput A S B).set 84 (.inr (12, (mfl S).set 10 (.int (nI v)))) = mput A (S.s_madeLength v) B from mp_set hA 0 (by decide) rfl]; exact kk)
theorem pf_hostLength {v : Nat} (hA : A.length = 84) (hd : decode M.2.1 pc = .ok (.putfield idx, 3)) (hf : am_fp M.1 idx 12 16 .int) (kk : am_G X M d (pc + 3) l st (mput A (S.s_hostLength v) B) Q) : am_G X M d pc l (.int (nI v) :: .ref 84 :: st) (mput A S B) Q :=
  g_putfield hd hf (mp_o hA) (by show 16 < 90; decide) rfl rfl (by rw [show (mput A S B).set 84 (.inr (12, (mfl S).set 16 (.int (nI v)))) = mput A (S.s_hostLength v) B from mp_set hA 0 (by decide) rfl]; exact kk)
theorem pf_pathLength {v : Nat} (hA : A.length = 84) (hd : decode M.2.1 pc = .ok (.putfield idx, 3)) (hf : am_fp M.1 idx 12 17 .int) (kk : am_G X M d (pc + 3) l st (mput A (S.s_pathLength v) B) Q) : am_G X M d pc l (.int (nI v) :: .ref 84 :: st) (mput A S B) Q :=
  g_putfield hd hf (mp_o hA) (by show 17 < 90; decide) rfl rfl (by rw [show (mput A S B).set 84 (.inr (12, (mfl S).set 17 (.int (nI v)))) = mput A (S.s_pathLength v) B from mp_set hA 0 (by decide) rfl]; exact kk)
theorem pf_queryLength {v : Option Nat} (hA : A.length = 84) (hd : decode M.2.1 pc = .ok (.putfield idx, 3)) (hf : am_fp M.1 idx 12 18 .int) (kk : am_G X M d (pc + 3) l st (mput A (S.s_queryLength v) B) Q) : am_G X M d pc l (.int (er v) :: .ref 84 :: st) (mput A S B) Q :=
  g_putfield hd hf (mp_o hA) (by show 18 < 90; decide) rfl rfl (by rw [show (mput A S B).set 84 (.inr (12, (mfl S).set 18 (.int (er v)))) = mput A (S.s_queryLength v) B from mp_set hA 0 (by decide) rfl]; exact kk)
theorem pf_textsEnd {v : Nat} (hA : A.length = 84) (hd : decode M.2.1 pc = .ok (.putfield idx, 3)) (hf : am_fp M.1 idx 12 20 .int) (kk : am_G X M d (pc + 3) l st (mput A (S.s_textsEnd v) B) Q) : am_G X M d pc l (.int (nI v) :: .ref 84 :: st) (mput A S B) Q :=
  g_putfield hd hf (mp_o hA) (by show 20 < 90; decide) rfl rfl (by rw [show (mput A S B).set 84 (.inr (12, (mfl S).set 20 (.int (nI v)))) = mput A (S.s_textsEnd v) B from mp_set hA 0 (by decide) rfl]; exact kk)
theorem pf_textCount {v : Nat} (hA : A.length = 84) (hd : decode M.2.1 pc = .ok (.putfield idx, 3)) (hf : am_fp M.1 idx 12 23 .int) (kk : am_G X M d (pc + 3) l st (mput A (S.s_textCount v) B) Q) : am_G X M d pc l (.int (nI v) :: .ref 84 :: st) (mput A S B) Q :=
  g_putfield hd hf (mp_o hA) (by show 23 < 90; decide) rfl rfl (by rw [show (mput A S B).set 84 (.inr (12, (mfl S).set 23 (.int (nI v)))) = mput A (S.s_textCount v) B from mp_set hA 0 (by decide) rfl]; exact kk)
theorem pf_ruleCount {v : Nat} (hA : A.length = 84) (hd : decode M.2.1 pc = .ok (.putfield idx, 3)) (hf : am_fp M.1 idx 12 26 .int) (kk : am_G X M d (pc + 3) l st (mput A (S.s_ruleCount v) B) Q) : am_G X M d pc l (.int (nI v) :: .ref 84 :: st) (mput A S B) Q :=
  g_putfield hd hf (mp_o hA) (by show 26 < 90; decide) rfl rfl (by rw [show (mput A S B).set 84 (.inr (12, (mfl S).set 26 (.int (nI v)))) = mput A (S.s_ruleCount v) B from mp_set hA 0 (by decide) rfl]; exact kk)
theorem pf_key {v : Option Nat} (hA : A.length = 84) (hd : decode M.2.1 pc = .ok (.putfield idx, 3)) (hf : am_fp M.1 idx 12 27 .int) (kk : am_G X M d (pc + 3) l st (mput A (S.s_key v) B) Q) : am_G X M d pc l (.int (er v) :: .ref 84 :: st) (mput A S B) Q :=
  g_putfield hd hf (mp_o hA) (by show 27 < 90; decide) rfl rfl (by rw [show (mput A S B).set 84 (.inr (12, (mfl S).set 27 (.int (er v)))) = mput A (S.s_key v) B from mp_set hA 0 (by decide) rfl]; exact kk)
theorem pf_valueFrom {v : Nat} (hA : A.length = 84) (hd : decode M.2.1 pc = .ok (.putfield idx, 3)) (hf : am_fp M.1 idx 12 28 .int) (kk : am_G X M d (pc + 3) l st (mput A (S.s_valueFrom v) B) Q) : am_G X M d pc l (.int (nI v) :: .ref 84 :: st) (mput A S B) Q :=
  g_putfield hd hf (mp_o hA) (by show 28 < 90; decide) rfl rfl (by rw [show (mput A S B).set 84 (.inr (12, (mfl S).set 28 (.int (nI v)))) = mput A (S.s_valueFrom v) B from mp_set hA 0 (by decide) rfl]; exact kk)
theorem pf_valueEnd {v : Nat} (hA : A.length = 84) (hd : decode M.2.1 pc = .ok (.putfield idx, 3)) (hf : am_fp M.1 idx 12 29 .int) (kk : am_G X M d (pc + 3) l st (mput A (S.s_valueEnd v) B) Q) : am_G X M d pc l (.int (nI v) :: .ref 84 :: st) (mput A S B) Q :=
  g_putfield hd hf (mp_o hA) (by show 29 < 90; decide) rfl rfl (by rw [show (mput A S B).set 84 (.inr (12, (mfl S).set 29 (.int (nI v)))) = mput A (S.s_valueEnd v) B from mp_set hA 0 (by decide) rfl]; exact kk)
theorem pf_patternLength {v : Nat} (hA : A.length = 84) (hd : decode M.2.1 pc = .ok (.putfield idx, 3)) (hf : am_fp M.1 idx 12 31 .int) (kk : am_G X M d (pc + 3) l st (mput A (S.s_patternLength v) B) Q) : am_G X M d pc l (.int (nI v) :: .ref 84 :: st) (mput A S B) Q :=
  g_putfield hd hf (mp_o hA) (by show 31 < 90; decide) rfl rfl (by rw [show (mput A S B).set 84 (.inr (12, (mfl S).set 31 (.int (nI v)))) = mput A (S.s_patternLength v) B from mp_set hA 0 (by decide) rfl]; exact kk)
theorem pf_holding {v : Nat} (hA : A.length = 84) (hd : decode M.2.1 pc = .ok (.putfield idx, 3)) (hf : am_fp M.1 idx 12 33 .int) (kk : am_G X M d (pc + 3) l st (mput A (S.s_holding v) B) Q) : am_G X M d pc l (.int (nI v) :: .ref 84 :: st) (mput A S B) Q :=
  g_putfield hd hf (mp_o hA) (by show 33 < 90; decide) rfl rfl (by rw [show (mput A S B).set 84 (.inr (12, (mfl S).set 33 (.int (nI v)))) = mput A (S.s_holding v) B from mp_set hA 0 (by decide) rfl]; exact kk)
theorem pf_isAllowed {v : Bool} (hA : A.length = 84) (hd : decode M.2.1 pc = .ok (.putfield idx, 3)) (hf : am_fp M.1 idx 12 34 .boolean) (kk : am_G X M d (pc + 3) l st (mput A (S.s_isAllowed v) B) Q) : am_G X M d pc l (.int (b1 v) :: .ref 84 :: st) (mput A S B) Q :=
  g_putfield hd hf (mp_o hA) (by show 34 < 90; decide) (by cases v <;> rfl) (by cases v <;> rfl) (by rw [show (mput A S B).set 84 (.inr (12, (mfl S).set 34 (.int (b1 v)))) = mput A (S.s_isAllowed v) B from mp_set hA 0 (by decide) rfl]; exact kk)
theorem pf_decodedLength {v : Nat} (hA : A.length = 84) (hd : decode M.2.1 pc = .ok (.putfield idx, 3)) (hf : am_fp M.1 idx 12 36 .int) (kk : am_G X M d (pc + 3) l st (mput A (S.s_decodedLength v) B) Q) : am_G X M d pc l (.int (nI v) :: .ref 84 :: st) (mput A S B) Q :=
  g_putfield hd hf (mp_o hA) (by show 36 < 90; decide) rfl rfl (by rw [show (mput A S B).set 84 (.inr (12, (mfl S).set 36 (.int (nI v)))) = mput A (S.s_decodedLength v) B from mp_set hA 0 (by decide) rfl]; exact kk)
theorem pf_wordCount {v : Nat} (hA : A.length = 84) (hd : decode M.2.1 pc = .ok (.putfield idx, 3)) (hf : am_fp M.1 idx 12 40 .int) (kk : am_G X M d (pc + 3) l st (mput A (S.s_wordCount v) B) Q) : am_G X M d pc l (.int (nI v) :: .ref 84 :: st) (mput A S B) Q :=
  g_putfield hd hf (mp_o hA) (by show 40 < 90; decide) rfl rfl (by rw [show (mput A S B).set 84 (.inr (12, (mfl S).set 40 (.int (nI v)))) = mput A (S.s_wordCount v) B from mp_set hA 0 (by decide) rfl]; exact kk)
theorem pf_valueCount {v : Nat} (hA : A.length = 84) (hd : decode M.2.1 pc = .ok (.putfield idx, 3)) (hf : am_fp M.1 idx 12 44 .int) (kk : am_G X M d (pc + 3) l st (mput A (S.s_valueCount v) B) Q) : am_G X M d pc l (.int (nI v) :: .ref 84 :: st) (mput A S B) Q :=
  g_putfield hd hf (mp_o hA) (by show 44 < 90; decide) rfl rfl (by rw [show (mput A S B).set 84 (.inr (12, (mfl S).set 44 (.int (nI v)))) = mput A (S.s_valueCount v) B from mp_set hA 0 (by decide) rfl]; exact kk)
theorem pf_pageBase {v : Nat} (hA : A.length = 84) (hd : decode M.2.1 pc = .ok (.putfield idx, 3)) (hf : am_fp M.1 idx 12 45 .int) (kk : am_G X M d (pc + 3) l st (mput A (S.s_pageBase v) B) Q) : am_G X M d pc l (.int (nI v) :: .ref 84 :: st) (mput A S B) Q :=
  g_putfield hd hf (mp_o hA) (by show 45 < 90; decide) rfl rfl (by rw [show (mput A S B).set 84 (.inr (12, (mfl S).set 45 (.int (nI v)))) = mput A (S.s_pageBase v) B from mp_set hA 0 (by decide) rfl]; exact kk)
theorem pf_hasBase {v : Bool} (hA : A.length = 84) (hd : decode M.2.1 pc = .ok (.putfield idx, 3)) (hf : am_fp M.1 idx 12 46 .boolean) (kk : am_G X M d (pc + 3) l st (mput A (S.s_hasBase v) B) Q) : am_G X M d pc l (.int (b1 v) :: .ref 84 :: st) (mput A S B) Q :=
  g_putfield hd hf (mp_o hA) (by show 46 < 90; decide) (by cases v <;> rfl) (by cases v <;> rfl) (by rw [show (mput A S B).set 84 (.inr (12, (mfl S).set 46 (.int (b1 v)))) = mput A (S.s_hasBase v) B from mp_set hA 0 (by decide) rfl]; exact kk)
theorem pf_byteValue {v : Int32} (hA : A.length = 84) (hd : decode M.2.1 pc = .ok (.putfield idx, 3)) (hf : am_fp M.1 idx 12 47 .int) (kk : am_G X M d (pc + 3) l st (mput A (S.s_byteValue v) B) Q) : am_G X M d pc l (.int v :: .ref 84 :: st) (mput A S B) Q :=
  g_putfield hd hf (mp_o hA) (by show 47 < 90; decide) rfl rfl (by rw [show (mput A S B).set 84 (.inr (12, (mfl S).set 47 (.int v))) = mput A (S.s_byteValue v) B from mp_set hA 0 (by decide) rfl]; exact kk)
theorem pf_hrefFrom {v : Nat} (hA : A.length = 84) (hd : decode M.2.1 pc = .ok (.putfield idx, 3)) (hf : am_fp M.1 idx 12 48 .int) (kk : am_G X M d (pc + 3) l st (mput A (S.s_hrefFrom v) B) Q) : am_G X M d pc l (.int (nI v) :: .ref 84 :: st) (mput A S B) Q :=
  g_putfield hd hf (mp_o hA) (by show 48 < 90; decide) rfl rfl (by rw [show (mput A S B).set 84 (.inr (12, (mfl S).set 48 (.int (nI v)))) = mput A (S.s_hrefFrom v) B from mp_set hA 0 (by decide) rfl]; exact kk)
theorem pf_hrefEnd {v : Nat} (hA : A.length = 84) (hd : decode M.2.1 pc = .ok (.putfield idx, 3)) (hf : am_fp M.1 idx 12 49 .int) (kk : am_G X M d (pc + 3) l st (mput A (S.s_hrefEnd v) B) Q) : am_G X M d pc l (.int (nI v) :: .ref 84 :: st) (mput A S B) Q :=
  g_putfield hd hf (mp_o hA) (by show 49 < 90; decide) rfl rfl (by rw [show (mput A S B).set 84 (.inr (12, (mfl S).set 49 (.int (nI v)))) = mput A (S.s_hrefEnd v) B from mp_set hA 0 (by decide) rfl]; exact kk)
theorem pf_hasHref {v : Bool} (hA : A.length = 84) (hd : decode M.2.1 pc = .ok (.putfield idx, 3)) (hf : am_fp M.1 idx 12 50 .boolean) (kk : am_G X M d (pc + 3) l st (mput A (S.s_hasHref v) B) Q) : am_G X M d pc l (.int (b1 v) :: .ref 84 :: st) (mput A S B) Q :=
  g_putfield hd hf (mp_o hA) (by show 50 < 90; decide) (by cases v <;> rfl) (by cases v <;> rfl) (by rw [show (mput A S B).set 84 (.inr (12, (mfl S).set 50 (.int (b1 v)))) = mput A (S.s_hasHref v) B from mp_set hA 0 (by decide) rfl]; exact kk)
theorem pf_pageCount {v : Nat} (hA : A.length = 84) (hd : decode M.2.1 pc = .ok (.putfield idx, 3)) (hf : am_fp M.1 idx 12 54 .int) (kk : am_G X M d (pc + 3) l st (mput A (S.s_pageCount v) B) Q) : am_G X M d pc l (.int (nI v) :: .ref 84 :: st) (mput A S B) Q :=
  g_putfield hd hf (mp_o hA) (by show 54 < 90; decide) rfl rfl (by rw [show (mput A S B).set 84 (.inr (12, (mfl S).set 54 (.int (nI v)))) = mput A (S.s_pageCount v) B from mp_set hA 0 (by decide) rfl]; exact kk)
theorem pf_linkCount {v : Nat} (hA : A.length = 84) (hd : decode M.2.1 pc = .ok (.putfield idx, 3)) (hf : am_fp M.1 idx 12 56 .int) (kk : am_G X M d (pc + 3) l st (mput A (S.s_linkCount v) B) Q) : am_G X M d pc l (.int (nI v) :: .ref 84 :: st) (mput A S B) Q :=
  g_putfield hd hf (mp_o hA) (by show 56 < 90; decide) rfl rfl (by rw [show (mput A S B).set 84 (.inr (12, (mfl S).set 56 (.int (nI v)))) = mput A (S.s_linkCount v) B from mp_set hA 0 (by decide) rfl]; exact kk)
theorem pf_seedCount {v : Nat} (hA : A.length = 84) (hd : decode M.2.1 pc = .ok (.putfield idx, 3)) (hf : am_fp M.1 idx 12 60 .int) (kk : am_G X M d (pc + 3) l st (mput A (S.s_seedCount v) B) Q) : am_G X M d pc l (.int (nI v) :: .ref 84 :: st) (mput A S B) Q :=
  g_putfield hd hf (mp_o hA) (by show 60 < 90; decide) rfl rfl (by rw [show (mput A S B).set 84 (.inr (12, (mfl S).set 60 (.int (nI v)))) = mput A (S.s_seedCount v) B from mp_set hA 0 (by decide) rfl]; exact kk)
theorem pf_isStarted {v : Bool} (hA : A.length = 84) (hd : decode M.2.1 pc = .ok (.putfield idx, 3)) (hf : am_fp M.1 idx 12 61 .boolean) (kk : am_G X M d (pc + 3) l st (mput A (S.s_isStarted v) B) Q) : am_G X M d pc l (.int (b1 v) :: .ref 84 :: st) (mput A S B) Q :=
  g_putfield hd hf (mp_o hA) (by show 61 < 90; decide) (by cases v <;> rfl) (by cases v <;> rfl) (by rw [show (mput A S B).set 84 (.inr (12, (mfl S).set 61 (.int (b1 v)))) = mput A (S.s_isStarted v) B from mp_set hA 0 (by decide) rfl]; exact kk)
theorem pf_clock {v : Nat} (hA : A.length = 84) (hd : decode M.2.1 pc = .ok (.putfield idx, 3)) (hf : am_fp M.1 idx 12 62 .int) (kk : am_G X M d (pc + 3) l st (mput A (S.s_clock v) B) Q) : am_G X M d pc l (.int (nI v) :: .ref 84 :: st) (mput A S B) Q :=
  g_putfield hd hf (mp_o hA) (by show 62 < 90; decide) rfl rfl (by rw [show (mput A S B).set 84 (.inr (12, (mfl S).set 62 (.int (nI v)))) = mput A (S.s_clock v) B from mp_set hA 0 (by decide) rfl]; exact kk)
theorem pf_knownCount {v : Nat} (hA : A.length = 84) (hd : decode M.2.1 pc = .ok (.putfield idx, 3)) (hf : am_fp M.1 idx 12 64 .int) (kk : am_G X M d (pc + 3) l st (mput A (S.s_knownCount v) B) Q) : am_G X M d pc l (.int (nI v) :: .ref 84 :: st) (mput A S B) Q :=
  g_putfield hd hf (mp_o hA) (by show 64 < 90; decide) rfl rfl (by rw [show (mput A S B).set 84 (.inr (12, (mfl S).set 64 (.int (nI v)))) = mput A (S.s_knownCount v) B from mp_set hA 0 (by decide) rfl]; exact kk)
theorem pf_savedCount {v : Nat} (hA : A.length = 84) (hd : decode M.2.1 pc = .ok (.putfield idx, 3)) (hf : am_fp M.1 idx 12 66 .int) (kk : am_G X M d (pc + 3) l st (mput A (S.s_savedCount v) B) Q) : am_G X M d pc l (.int (nI v) :: .ref 84 :: st) (mput A S B) Q :=
  g_putfield hd hf (mp_o hA) (by show 66 < 90; decide) rfl rfl (by rw [show (mput A S B).set 84 (.inr (12, (mfl S).set 66 (.int (nI v)))) = mput A (S.s_savedCount v) B from mp_set hA 0 (by decide) rfl]; exact kk)
theorem pf_askedSince {v : Nat} (hA : A.length = 84) (hd : decode M.2.1 pc = .ok (.putfield idx, 3)) (hf : am_fp M.1 idx 12 67 .int) (kk : am_G X M d (pc + 3) l st (mput A (S.s_askedSince v) B) Q) : am_G X M d pc l (.int (nI v) :: .ref 84 :: st) (mput A S B) Q :=
  g_putfield hd hf (mp_o hA) (by show 67 < 90; decide) rfl rfl (by rw [show (mput A S B).set 84 (.inr (12, (mfl S).set 67 (.int (nI v)))) = mput A (S.s_askedSince v) B from mp_set hA 0 (by decide) rfl]; exact kk)
theorem pf_asked {v : Nat} (hA : A.length = 84) (hd : decode M.2.1 pc = .ok (.putfield idx, 3)) (hf : am_fp M.1 idx 12 68 .int) (kk : am_G X M d (pc + 3) l st (mput A (S.s_asked v) B) Q) : am_G X M d pc l (.int (nI v) :: .ref 84 :: st) (mput A S B) Q :=
  g_putfield hd hf (mp_o hA) (by show 68 < 90; decide) rfl rfl (by rw [show (mput A S B).set 84 (.inr (12, (mfl S).set 68 (.int (nI v)))) = mput A (S.s_asked v) B from mp_set hA 0 (by decide) rfl]; exact kk)
theorem pf_siteCount {v : Nat} (hA : A.length = 84) (hd : decode M.2.1 pc = .ok (.putfield idx, 3)) (hf : am_fp M.1 idx 12 73 .int) (kk : am_G X M d (pc + 3) l st (mput A (S.s_siteCount v) B) Q) : am_G X M d pc l (.int (nI v) :: .ref 84 :: st) (mput A S B) Q :=
  g_putfield hd hf (mp_o hA) (by show 73 < 90; decide) rfl rfl (by rw [show (mput A S B).set 84 (.inr (12, (mfl S).set 73 (.int (nI v)))) = mput A (S.s_siteCount v) B from mp_set hA 0 (by decide) rfl]; exact kk)
theorem pf_otherTime {v : Option Nat} (hA : A.length = 84) (hd : decode M.2.1 pc = .ok (.putfield idx, 3)) (hf : am_fp M.1 idx 12 74 .int) (kk : am_G X M d (pc + 3) l st (mput A (S.s_otherTime v) B) Q) : am_G X M d pc l (.int (er v) :: .ref 84 :: st) (mput A S B) Q :=
  g_putfield hd hf (mp_o hA) (by show 74 < 90; decide) rfl rfl (by rw [show (mput A S B).set 84 (.inr (12, (mfl S).set 74 (.int (er v)))) = mput A (S.s_otherTime v) B from mp_set hA 0 (by decide) rfl]; exact kk)
theorem pf_documents {v : Nat} (hA : A.length = 84) (hd : decode M.2.1 pc = .ok (.putfield idx, 3)) (hf : am_fp M.1 idx 12 75 .int) (kk : am_G X M d (pc + 3) l st (mput A (S.s_documents v) B) Q) : am_G X M d pc l (.int (nI v) :: .ref 84 :: st) (mput A S B) Q :=
  g_putfield hd hf (mp_o hA) (by show 75 < 90; decide) rfl rfl (by rw [show (mput A S B).set 84 (.inr (12, (mfl S).set 75 (.int (nI v)))) = mput A (S.s_documents v) B from mp_set hA 0 (by decide) rfl]; exact kk)
theorem pf_hits {v : Nat} (hA : A.length = 84) (hd : decode M.2.1 pc = .ok (.putfield idx, 3)) (hf : am_fp M.1 idx 12 84 .int) (kk : am_G X M d (pc + 3) l st (mput A (S.s_hits v) B) Q) : am_G X M d pc l (.int (nI v) :: .ref 84 :: st) (mput A S B) Q :=
  g_putfield hd hf (mp_o hA) (by show 84 < 90; decide) rfl rfl (by rw [show (mput A S B).set 84 (.inr (12, (mfl S).set 84 (.int (nI v)))) = mput A (S.s_hits v) B from mp_set hA 0 (by decide) rfl]; exact kk)
theorem pf_questionCount {v : Nat} (hA : A.length = 84) (hd : decode M.2.1 pc = .ok (.putfield idx, 3)) (hf : am_fp M.1 idx 12 89 .int) (kk : am_G X M d (pc + 3) l st (mput A (S.s_questionCount v) B) Q) : am_G X M d pc l (.int (nI v) :: .ref 84 :: st) (mput A S B) Q :=
  g_putfield hd hf (mp_o hA) (by show 89 < 90; decide) rfl rfl (by rw [show (mput A S B).set 84 (.inr (12, (mfl S).set 89 (.int (nI v)))) = mput A (S.s_questionCount v) B from mp_set hA 0 (by decide) rfl]; exact kk)
theorem as_coming (i : Nat) {x : Int32} (hA : A.length = 84) (hd : decode M.2.1 pc = .ok (.bastore, 1)) (hi : i < 8020) (kk : am_G X M d (pc + 1) l st (mput A (S.s_coming (upd S.coming i (vp_nar .byte x))) B) Q) : am_G X M d pc l (.int x :: .int (nI i) :: .ref 85 :: st) (mput A S B) Q :=
  q_bastore i hd (mp_a hA 1 rfl) hi (by omega) (by rw [show (mput A S B).set 85 (.inl (0, 8020, .inl (upd S.coming i (vp_nar .byte x)))) = mput A (S.s_coming (upd S.coming i (vp_nar .byte x))) B from mp_set hA 1 (by decide) rfl]; exact kk)
theorem as_product (i : Nat) {x : Int32} (hA : A.length = 84) (hd : decode M.2.1 pc = .ok (.bastore, 1)) (hi : i < 20000) (kk : am_G X M d (pc + 1) l st (mput A (S.s_product (upd S.product i (vp_nar .byte x))) B) Q) : am_G X M d pc l (.int x :: .int (nI i) :: .ref 86 :: st) (mput A S B) Q :=
  q_bastore i hd (mp_a hA 2 rfl) hi (by omega) (by rw [show (mput A S B).set 86 (.inl (0, 20000, .inl (upd S.product i (vp_nar .byte x)))) = mput A (S.s_product (upd S.product i (vp_nar .byte x))) B from mp_set hA 2 (by decide) rfl]; exact kk)
theorem as_addresses (i : Nat) {x : Int32} (hA : A.length = 84) (hd : decode M.2.1 pc = .ok (.bastore, 1)) (hi : i < 700000) (kk : am_G X M d (pc + 1) l st (mput A (S.s_addresses (upd S.addresses i (vp_nar .byte x))) B) Q) : am_G X M d pc l (.int x :: .int (nI i) :: .ref 87 :: st) (mput A S B) Q :=
  q_bastore i hd (mp_a hA 3 rfl) hi (by omega) (by rw [show (mput A S B).set 87 (.inl (0, 700000, .inl (upd S.addresses i (vp_nar .byte x)))) = mput A (S.s_addresses (upd S.addresses i (vp_nar .byte x))) B from mp_set hA 3 (by decide) rfl]; exact kk)
theorem as_addressAt (i : Nat) {x : Int32} (hA : A.length = 84) (hd : decode M.2.1 pc = .ok (.iastore, 1)) (hi : i < 3500) (kk : am_G X M d (pc + 1) l st (mput A (S.s_addressAt (upd S.addressAt i x)) B) Q) : am_G X M d pc l (.int x :: .int (nI i) :: .ref 88 :: st) (mput A S B) Q :=
  q_iastore i hd (mp_a hA 4 rfl) hi (by omega) (by rw [show (mput A S B).set 88 (.inl (1, 3500, .inl (upd S.addressAt i x))) = mput A (S.s_addressAt (upd S.addressAt i x)) B from mp_set hA 4 (by decide) rfl]; exact kk)
theorem as_addressLength (i : Nat) {x : Int32} (hA : A.length = 84) (hd : decode M.2.1 pc = .ok (.iastore, 1)) (hi : i < 3500) (kk : am_G X M d (pc + 1) l st (mput A (S.s_addressLength (upd S.addressLength i x)) B) Q) : am_G X M d pc l (.int x :: .int (nI i) :: .ref 89 :: st) (mput A S B) Q :=
  q_iastore i hd (mp_a hA 5 rfl) hi (by omega) (by rw [show (mput A S B).set 89 (.inl (1, 3500, .inl (upd S.addressLength i x))) = mput A (S.s_addressLength (upd S.addressLength i x)) B from mp_set hA 5 (by decide) rfl]; exact kk)
theorem as_made (i : Nat) {x : Int32} (hA : A.length = 84) (hd : decode M.2.1 pc = .ok (.bastore, 1)) (hi : i < 200) (kk : am_G X M d (pc + 1) l st (mput A (S.s_made (upd S.made i (vp_nar .byte x))) B) Q) : am_G X M d pc l (.int x :: .int (nI i) :: .ref 90 :: st) (mput A S B) Q :=
  q_bastore i hd (mp_a hA 6 rfl) hi (by omega) (by rw [show (mput A S B).set 90 (.inl (0, 200, .inl (upd S.made i (vp_nar .byte x)))) = mput A (S.s_made (upd S.made i (vp_nar .byte x))) B from mp_set hA 6 (by decide) rfl]; exact kk)
theorem as_host (i : Nat) {x : Int32} (hA : A.length = 84) (hd : decode M.2.1 pc = .ok (.bastore, 1)) (hi : i < 80) (kk : am_G X M d (pc + 1) l st (mput A (S.s_host (upd S.host i (vp_nar .byte x))) B) Q) : am_G X M d pc l (.int x :: .int (nI i) :: .ref 91 :: st) (mput A S B) Q :=
  q_bastore i hd (mp_a hA 7 rfl) hi (by omega) (by rw [show (mput A S B).set 91 (.inl (0, 80, .inl (upd S.host i (vp_nar .byte x)))) = mput A (S.s_host (upd S.host i (vp_nar .byte x))) B from mp_set hA 7 (by decide) rfl]; exact kk)
theorem as_path (i : Nat) {x : Int32} (hA : A.length = 84) (hd : decode M.2.1 pc = .ok (.bastore, 1)) (hi : i < 8400) (kk : am_G X M d (pc + 1) l st (mput A (S.s_path (upd S.path i (vp_nar .byte x))) B) Q) : am_G X M d pc l (.int x :: .int (nI i) :: .ref 92 :: st) (mput A S B) Q :=
  q_bastore i hd (mp_a hA 8 rfl) hi (by omega) (by rw [show (mput A S B).set 92 (.inl (0, 8400, .inl (upd S.path i (vp_nar .byte x)))) = mput A (S.s_path (upd S.path i (vp_nar .byte x))) B from mp_set hA 8 (by decide) rfl]; exact kk)
theorem as_query (i : Nat) {x : Int32} (hA : A.length = 84) (hd : decode M.2.1 pc = .ok (.bastore, 1)) (hi : i < 8400) (kk : am_G X M d (pc + 1) l st (mput A (S.s_query (upd S.query i (vp_nar .byte x))) B) Q) : am_G X M d pc l (.int x :: .int (nI i) :: .ref 93 :: st) (mput A S B) Q :=
  q_bastore i hd (mp_a hA 9 rfl) hi (by omega) (by rw [show (mput A S B).set 93 (.inl (0, 8400, .inl (upd S.query i (vp_nar .byte x)))) = mput A (S.s_query (upd S.query i (vp_nar .byte x))) B from mp_set hA 9 (by decide) rfl]; exact kk)
theorem as_neat (i : Nat) {x : Int32} (hA : A.length = 84) (hd : decode M.2.1 pc = .ok (.bastore, 1)) (hi : i < 8400) (kk : am_G X M d (pc + 1) l st (mput A (S.s_neat (upd S.neat i (vp_nar .byte x))) B) Q) : am_G X M d pc l (.int x :: .int (nI i) :: .ref 94 :: st) (mput A S B) Q :=
  q_bastore i hd (mp_a hA 10 rfl) hi (by omega) (by rw [show (mput A S B).set 94 (.inl (0, 8400, .inl (upd S.neat i (vp_nar .byte x)))) = mput A (S.s_neat (upd S.neat i (vp_nar .byte x))) B from mp_set hA 10 (by decide) rfl]; exact kk)
theorem as_marks (i : Nat) {x : Int32} (hA : A.length = 84) (hd : decode M.2.1 pc = .ok (.iastore, 1)) (hi : i < 8400) (kk : am_G X M d (pc + 1) l st (mput A (S.s_marks (upd S.marks i x)) B) Q) : am_G X M d pc l (.int x :: .int (nI i) :: .ref 95 :: st) (mput A S B) Q :=
  q_iastore i hd (mp_a hA 11 rfl) hi (by omega) (by rw [show (mput A S B).set 95 (.inl (1, 8400, .inl (upd S.marks i x))) = mput A (S.s_marks (upd S.marks i x)) B from mp_set hA 11 (by decide) rfl]; exact kk)
theorem as_texts (i : Nat) {x : Int32} (hA : A.length = 84) (hd : decode M.2.1 pc = .ok (.bastore, 1)) (hi : i < 24000) (kk : am_G X M d (pc + 1) l st (mput A (S.s_texts (upd S.texts i (vp_nar .byte x))) B) Q) : am_G X M d pc l (.int x :: .int (nI i) :: .ref 96 :: st) (mput A S B) Q :=
  q_bastore i hd (mp_a hA 12 rfl) hi (by omega) (by rw [show (mput A S B).set 96 (.inl (0, 24000, .inl (upd S.texts i (vp_nar .byte x)))) = mput A (S.s_texts (upd S.texts i (vp_nar .byte x))) B from mp_set hA 12 (by decide) rfl]; exact kk)
theorem as_textAt (i : Nat) {x : Int32} (hA : A.length = 84) (hd : decode M.2.1 pc = .ok (.iastore, 1)) (hi : i < 1100) (kk : am_G X M d (pc + 1) l st (mput A (S.s_textAt (upd S.textAt i x)) B) Q) : am_G X M d pc l (.int x :: .int (nI i) :: .ref 97 :: st) (mput A S B) Q :=
  q_iastore i hd (mp_a hA 13 rfl) hi (by omega) (by rw [show (mput A S B).set 97 (.inl (1, 1100, .inl (upd S.textAt i x))) = mput A (S.s_textAt (upd S.textAt i x)) B from mp_set hA 13 (by decide) rfl]; exact kk)
theorem as_textEnd (i : Nat) {x : Int32} (hA : A.length = 84) (hd : decode M.2.1 pc = .ok (.iastore, 1)) (hi : i < 1100) (kk : am_G X M d (pc + 1) l st (mput A (S.s_textEnd (upd S.textEnd i x)) B) Q) : am_G X M d pc l (.int x :: .int (nI i) :: .ref 98 :: st) (mput A S B) Q :=
  q_iastore i hd (mp_a hA 14 rfl) hi (by omega) (by rw [show (mput A S B).set 98 (.inl (1, 1100, .inl (upd S.textEnd i x))) = mput A (S.s_textEnd (upd S.textEnd i x)) B from mp_set hA 14 (by decide) rfl]; exact kk)
theorem as_ruleSite (i : Nat) {x : Int32} (hA : A.length = 84) (hd : decode M.2.1 pc = .ok (.iastore, 1)) (hi : i < 12) (kk : am_G X M d (pc + 1) l st (mput A (S.s_ruleSite (upd S.ruleSite i x)) B) Q) : am_G X M d pc l (.int x :: .int (nI i) :: .ref 99 :: st) (mput A S B) Q :=
  q_iastore i hd (mp_a hA 15 rfl) hi (by omega) (by rw [show (mput A S B).set 99 (.inl (1, 12, .inl (upd S.ruleSite i x))) = mput A (S.s_ruleSite (upd S.ruleSite i x)) B from mp_set hA 15 (by decide) rfl]; exact kk)
theorem as_ruleText (i : Nat) {x : Int32} (hA : A.length = 84) (hd : decode M.2.1 pc = .ok (.iastore, 1)) (hi : i < 12) (kk : am_G X M d (pc + 1) l st (mput A (S.s_ruleText (upd S.ruleText i x)) B) Q) : am_G X M d pc l (.int x :: .int (nI i) :: .ref 100 :: st) (mput A S B) Q :=
  q_iastore i hd (mp_a hA 16 rfl) hi (by omega) (by rw [show (mput A S B).set 100 (.inl (1, 12, .inl (upd S.ruleText i x))) = mput A (S.s_ruleText (upd S.ruleText i x)) B from mp_set hA 16 (by decide) rfl]; exact kk)
theorem as_pattern (i : Nat) {x : Int32} (hA : A.length = 84) (hd : decode M.2.1 pc = .ok (.bastore, 1)) (hi : i < 8000) (kk : am_G X M d (pc + 1) l st (mput A (S.s_pattern (upd S.pattern i (vp_nar .byte x))) B) Q) : am_G X M d pc l (.int x :: .int (nI i) :: .ref 101 :: st) (mput A S B) Q :=
  q_bastore i hd (mp_a hA 17 rfl) hi (by omega) (by rw [show (mput A S B).set 101 (.inl (0, 8000, .inl (upd S.pattern i (vp_nar .byte x)))) = mput A (S.s_pattern (upd S.pattern i (vp_nar .byte x))) B from mp_set hA 17 (by decide) rfl]; exact kk)
theorem as_reached (i : Nat) {x : Int32} (hA : A.length = 84) (hd : decode M.2.1 pc = .ok (.bastore, 1)) (hi : i < 201) (kk : am_G X M d (pc + 1) l st (mput A (S.s_reached (upd S.reached i (vp_nar .boolean x))) B) Q) : am_G X M d pc l (.int x :: .int (nI i) :: .ref 102 :: st) (mput A S B) Q :=
  q_zastore i hd (mp_a hA 18 rfl) hi (by omega) (by rw [show (mput A S B).set 102 (.inl (3, 201, .inl (upd S.reached i (vp_nar .boolean x)))) = mput A (S.s_reached (upd S.reached i (vp_nar .boolean x))) B from mp_set hA 18 (by decide) rfl]; exact kk)
theorem as_decoded (i : Nat) {x : Int32} (hA : A.length = 84) (hd : decode M.2.1 pc = .ok (.bastore, 1)) (hi : i < 8000) (kk : am_G X M d (pc + 1) l st (mput A (S.s_decoded (upd S.decoded i (vp_nar .byte x))) B) Q) : am_G X M d pc l (.int x :: .int (nI i) :: .ref 103 :: st) (mput A S B) Q :=
  q_bastore i hd (mp_a hA 19 rfl) hi (by omega) (by rw [show (mput A S B).set 103 (.inl (0, 8000, .inl (upd S.decoded i (vp_nar .byte x)))) = mput A (S.s_decoded (upd S.decoded i (vp_nar .byte x))) B from mp_set hA 19 (by decide) rfl]; exact kk)
theorem as_words (i : Nat) {x : Int32} (hA : A.length = 84) (hd : decode M.2.1 pc = .ok (.bastore, 1)) (hi : i < 8000) (kk : am_G X M d (pc + 1) l st (mput A (S.s_words (upd S.words i (vp_nar .byte x))) B) Q) : am_G X M d pc l (.int x :: .int (nI i) :: .ref 104 :: st) (mput A S B) Q :=
  q_bastore i hd (mp_a hA 20 rfl) hi (by omega) (by rw [show (mput A S B).set 104 (.inl (0, 8000, .inl (upd S.words i (vp_nar .byte x)))) = mput A (S.s_words (upd S.words i (vp_nar .byte x))) B from mp_set hA 20 (by decide) rfl]; exact kk)
theorem as_wordAt (i : Nat) {x : Int32} (hA : A.length = 84) (hd : decode M.2.1 pc = .ok (.iastore, 1)) (hi : i < 4001) (kk : am_G X M d (pc + 1) l st (mput A (S.s_wordAt (upd S.wordAt i x)) B) Q) : am_G X M d pc l (.int x :: .int (nI i) :: .ref 105 :: st) (mput A S B) Q :=
  q_iastore i hd (mp_a hA 21 rfl) hi (by omega) (by rw [show (mput A S B).set 105 (.inl (1, 4001, .inl (upd S.wordAt i x))) = mput A (S.s_wordAt (upd S.wordAt i x)) B from mp_set hA 21 (by decide) rfl]; exact kk)
theorem as_wordLength (i : Nat) {x : Int32} (hA : A.length = 84) (hd : decode M.2.1 pc = .ok (.iastore, 1)) (hi : i < 4001) (kk : am_G X M d (pc + 1) l st (mput A (S.s_wordLength (upd S.wordLength i x)) B) Q) : am_G X M d pc l (.int x :: .int (nI i) :: .ref 106 :: st) (mput A S B) Q :=
  q_iastore i hd (mp_a hA 22 rfl) hi (by omega) (by rw [show (mput A S B).set 106 (.inl (1, 4001, .inl (upd S.wordLength i x))) = mput A (S.s_wordLength (upd S.wordLength i x)) B from mp_set hA 22 (by decide) rfl]; exact kk)
theorem as_values (i : Nat) {x : Int32} (hA : A.length = 84) (hd : decode M.2.1 pc = .ok (.bastore, 1)) (hi : i < 8000) (kk : am_G X M d (pc + 1) l st (mput A (S.s_values (upd S.values i (vp_nar .byte x))) B) Q) : am_G X M d pc l (.int x :: .int (nI i) :: .ref 107 :: st) (mput A S B) Q :=
  q_bastore i hd (mp_a hA 23 rfl) hi (by omega) (by rw [show (mput A S B).set 107 (.inl (0, 8000, .inl (upd S.values i (vp_nar .byte x)))) = mput A (S.s_values (upd S.values i (vp_nar .byte x))) B from mp_set hA 23 (by decide) rfl]; exact kk)
theorem as_valueAt (i : Nat) {x : Int32} (hA : A.length = 84) (hd : decode M.2.1 pc = .ok (.iastore, 1)) (hi : i < 1000) (kk : am_G X M d (pc + 1) l st (mput A (S.s_valueAt (upd S.valueAt i x)) B) Q) : am_G X M d pc l (.int x :: .int (nI i) :: .ref 108 :: st) (mput A S B) Q :=
  q_iastore i hd (mp_a hA 24 rfl) hi (by omega) (by rw [show (mput A S B).set 108 (.inl (1, 1000, .inl (upd S.valueAt i x))) = mput A (S.s_valueAt (upd S.valueAt i x)) B from mp_set hA 24 (by decide) rfl]; exact kk)
theorem as_valueLength (i : Nat) {x : Int32} (hA : A.length = 84) (hd : decode M.2.1 pc = .ok (.iastore, 1)) (hi : i < 1000) (kk : am_G X M d (pc + 1) l st (mput A (S.s_valueLength (upd S.valueLength i x)) B) Q) : am_G X M d pc l (.int x :: .int (nI i) :: .ref 109 :: st) (mput A S B) Q :=
  q_iastore i hd (mp_a hA 25 rfl) hi (by omega) (by rw [show (mput A S B).set 109 (.inl (1, 1000, .inl (upd S.valueLength i x))) = mput A (S.s_valueLength (upd S.valueLength i x)) B from mp_set hA 25 (by decide) rfl]; exact kk)
theorem as_pageAddress (i : Nat) {x : Int32} (hA : A.length = 84) (hd : decode M.2.1 pc = .ok (.iastore, 1)) (hi : i < 60) (kk : am_G X M d (pc + 1) l st (mput A (S.s_pageAddress (upd S.pageAddress i x)) B) Q) : am_G X M d pc l (.int x :: .int (nI i) :: .ref 110 :: st) (mput A S B) Q :=
  q_iastore i hd (mp_a hA 26 rfl) hi (by omega) (by rw [show (mput A S B).set 110 (.inl (1, 60, .inl (upd S.pageAddress i x))) = mput A (S.s_pageAddress (upd S.pageAddress i x)) B from mp_set hA 26 (by decide) rfl]; exact kk)
theorem as_pageStatus (i : Nat) {x : Int32} (hA : A.length = 84) (hd : decode M.2.1 pc = .ok (.iastore, 1)) (hi : i < 60) (kk : am_G X M d (pc + 1) l st (mput A (S.s_pageStatus (upd S.pageStatus i x)) B) Q) : am_G X M d pc l (.int x :: .int (nI i) :: .ref 111 :: st) (mput A S B) Q :=
  q_iastore i hd (mp_a hA 27 rfl) hi (by omega) (by rw [show (mput A S B).set 111 (.inl (1, 60, .inl (upd S.pageStatus i x))) = mput A (S.s_pageStatus (upd S.pageStatus i x)) B from mp_set hA 27 (by decide) rfl]; exact kk)
theorem as_pageText (i : Nat) {x : Int32} (hA : A.length = 84) (hd : decode M.2.1 pc = .ok (.iastore, 1)) (hi : i < 60) (kk : am_G X M d (pc + 1) l st (mput A (S.s_pageText (upd S.pageText i x)) B) Q) : am_G X M d pc l (.int x :: .int (nI i) :: .ref 112 :: st) (mput A S B) Q :=
  q_iastore i hd (mp_a hA 28 rfl) hi (by omega) (by rw [show (mput A S B).set 112 (.inl (1, 60, .inl (upd S.pageText i x))) = mput A (S.s_pageText (upd S.pageText i x)) B from mp_set hA 28 (by decide) rfl]; exact kk)
theorem as_links (i : Nat) {x : Int32} (hA : A.length = 84) (hd : decode M.2.1 pc = .ok (.iastore, 1)) (hi : i < 60) (kk : am_G X M d (pc + 1) l st (mput A (S.s_links (upd S.links i x)) B) Q) : am_G X M d pc l (.int x :: .int (nI i) :: .ref 113 :: st) (mput A S B) Q :=
  q_iastore i hd (mp_a hA 29 rfl) hi (by omega) (by rw [show (mput A S B).set 113 (.inl (1, 60, .inl (upd S.links i x))) = mput A (S.s_links (upd S.links i x)) B from mp_set hA 29 (by decide) rfl]; exact kk)
theorem as_told (i : Nat) {x : Int32} (hA : A.length = 84) (hd : decode M.2.1 pc = .ok (.iastore, 1)) (hi : i < 4) (kk : am_G X M d (pc + 1) l st (mput A (S.s_told (upd S.told i x)) B) Q) : am_G X M d pc l (.int x :: .int (nI i) :: .ref 114 :: st) (mput A S B) Q :=
  q_iastore i hd (mp_a hA 30 rfl) hi (by omega) (by rw [show (mput A S B).set 114 (.inl (1, 4, .inl (upd S.told i x))) = mput A (S.s_told (upd S.told i x)) B from mp_set hA 30 (by decide) rfl]; exact kk)
theorem as_held (i : Nat) {x : Int32} (hA : A.length = 84) (hd : decode M.2.1 pc = .ok (.iastore, 1)) (hi : i < 4) (kk : am_G X M d (pc + 1) l st (mput A (S.s_held (upd S.held i x)) B) Q) : am_G X M d pc l (.int x :: .int (nI i) :: .ref 115 :: st) (mput A S B) Q :=
  q_iastore i hd (mp_a hA 31 rfl) hi (by omega) (by rw [show (mput A S B).set 115 (.inl (1, 4, .inl (upd S.held i x))) = mput A (S.s_held (upd S.held i x)) B from mp_set hA 31 (by decide) rfl]; exact kk)
theorem as_seeds (i : Nat) {x : Int32} (hA : A.length = 84) (hd : decode M.2.1 pc = .ok (.iastore, 1)) (hi : i < 20) (kk : am_G X M d (pc + 1) l st (mput A (S.s_seeds (upd S.seeds i x)) B) Q) : am_G X M d pc l (.int x :: .int (nI i) :: .ref 116 :: st) (mput A S B) Q :=
  q_iastore i hd (mp_a hA 32 rfl) hi (by omega) (by rw [show (mput A S B).set 116 (.inl (1, 20, .inl (upd S.seeds i x))) = mput A (S.s_seeds (upd S.seeds i x)) B from mp_set hA 32 (by decide) rfl]; exact kk)
theorem as_known (i : Nat) {x : Int32} (hA : A.length = 84) (hd : decode M.2.1 pc = .ok (.iastore, 1)) (hi : i < 1500) (kk : am_G X M d (pc + 1) l st (mput A (S.s_known (upd S.known i x)) B) Q) : am_G X M d pc l (.int x :: .int (nI i) :: .ref 117 :: st) (mput A S B) Q :=
  q_iastore i hd (mp_a hA 33 rfl) hi (by omega) (by rw [show (mput A S B).set 117 (.inl (1, 1500, .inl (upd S.known i x))) = mput A (S.s_known (upd S.known i x)) B from mp_set hA 33 (by decide) rfl]; exact kk)
theorem as_saved (i : Nat) {x : Int32} (hA : A.length = 84) (hd : decode M.2.1 pc = .ok (.iastore, 1)) (hi : i < 1500) (kk : am_G X M d (pc + 1) l st (mput A (S.s_saved (upd S.saved i x)) B) Q) : am_G X M d pc l (.int x :: .int (nI i) :: .ref 118 :: st) (mput A S B) Q :=
  q_iastore i hd (mp_a hA 34 rfl) hi (by omega) (by rw [show (mput A S B).set 118 (.inl (1, 1500, .inl (upd S.saved i x))) = mput A (S.s_saved (upd S.saved i x)) B from mp_set hA 34 (by decide) rfl]; exact kk)
theorem as_askedClock (i : Nat) {x : Int32} (hA : A.length = 84) (hd : decode M.2.1 pc = .ok (.iastore, 1)) (hi : i < 1000) (kk : am_G X M d (pc + 1) l st (mput A (S.s_askedClock (upd S.askedClock i x)) B) Q) : am_G X M d pc l (.int x :: .int (nI i) :: .ref 119 :: st) (mput A S B) Q :=
  q_iastore i hd (mp_a hA 35 rfl) hi (by omega) (by rw [show (mput A S B).set 119 (.inl (1, 1000, .inl (upd S.askedClock i x))) = mput A (S.s_askedClock (upd S.askedClock i x)) B from mp_set hA 35 (by decide) rfl]; exact kk)
theorem as_askedAddress (i : Nat) {x : Int32} (hA : A.length = 84) (hd : decode M.2.1 pc = .ok (.iastore, 1)) (hi : i < 1000) (kk : am_G X M d (pc + 1) l st (mput A (S.s_askedAddress (upd S.askedAddress i x)) B) Q) : am_G X M d pc l (.int x :: .int (nI i) :: .ref 120 :: st) (mput A S B) Q :=
  q_iastore i hd (mp_a hA 36 rfl) hi (by omega) (by rw [show (mput A S B).set 120 (.inl (1, 1000, .inl (upd S.askedAddress i x))) = mput A (S.s_askedAddress (upd S.askedAddress i x)) B from mp_set hA 36 (by decide) rfl]; exact kk)
theorem as_siteOf (i : Nat) {x : Int32} (hA : A.length = 84) (hd : decode M.2.1 pc = .ok (.iastore, 1)) (hi : i < 250) (kk : am_G X M d (pc + 1) l st (mput A (S.s_siteOf (upd S.siteOf i x)) B) Q) : am_G X M d pc l (.int x :: .int (nI i) :: .ref 121 :: st) (mput A S B) Q :=
  q_iastore i hd (mp_a hA 37 rfl) hi (by omega) (by rw [show (mput A S B).set 121 (.inl (1, 250, .inl (upd S.siteOf i x))) = mput A (S.s_siteOf (upd S.siteOf i x)) B from mp_set hA 37 (by decide) rfl]; exact kk)
theorem as_siteTime (i : Nat) {x : Int32} (hA : A.length = 84) (hd : decode M.2.1 pc = .ok (.iastore, 1)) (hi : i < 250) (kk : am_G X M d (pc + 1) l st (mput A (S.s_siteTime (upd S.siteTime i x)) B) Q) : am_G X M d pc l (.int x :: .int (nI i) :: .ref 122 :: st) (mput A S B) Q :=
  q_iastore i hd (mp_a hA 38 rfl) hi (by omega) (by rw [show (mput A S B).set 122 (.inl (1, 250, .inl (upd S.siteTime i x))) = mput A (S.s_siteTime (upd S.siteTime i x)) B from mp_set hA 38 (by decide) rfl]; exact kk)
theorem as_documentAddress (i : Nat) {x : Int32} (hA : A.length = 84) (hd : decode M.2.1 pc = .ok (.iastore, 1)) (hi : i < 250) (kk : am_G X M d (pc + 1) l st (mput A (S.s_documentAddress (upd S.documentAddress i x)) B) Q) : am_G X M d pc l (.int x :: .int (nI i) :: .ref 123 :: st) (mput A S B) Q :=
  q_iastore i hd (mp_a hA 39 rfl) hi (by omega) (by rw [show (mput A S B).set 123 (.inl (1, 250, .inl (upd S.documentAddress i x))) = mput A (S.s_documentAddress (upd S.documentAddress i x)) B from mp_set hA 39 (by decide) rfl]; exact kk)
theorem as_documentText (i : Nat) {x : Int32} (hA : A.length = 84) (hd : decode M.2.1 pc = .ok (.iastore, 1)) (hi : i < 250) (kk : am_G X M d (pc + 1) l st (mput A (S.s_documentText (upd S.documentText i x)) B) Q) : am_G X M d pc l (.int x :: .int (nI i) :: .ref 124 :: st) (mput A S B) Q :=
  q_iastore i hd (mp_a hA 40 rfl) hi (by omega) (by rw [show (mput A S B).set 124 (.inl (1, 250, .inl (upd S.documentText i x))) = mput A (S.s_documentText (upd S.documentText i x)) B from mp_set hA 40 (by decide) rfl]; exact kk)
theorem as_documentNumber (i : Nat) {x : Int32} (hA : A.length = 84) (hd : decode M.2.1 pc = .ok (.iastore, 1)) (hi : i < 250) (kk : am_G X M d (pc + 1) l st (mput A (S.s_documentNumber (upd S.documentNumber i x)) B) Q) : am_G X M d pc l (.int x :: .int (nI i) :: .ref 125 :: st) (mput A S B) Q :=
  q_iastore i hd (mp_a hA 41 rfl) hi (by omega) (by rw [show (mput A S B).set 125 (.inl (1, 250, .inl (upd S.documentNumber i x))) = mput A (S.s_documentNumber (upd S.documentNumber i x)) B from mp_set hA 41 (by decide) rfl]; exact kk)
theorem as_documentCopies (i : Nat) {x : Int32} (hA : A.length = 84) (hd : decode M.2.1 pc = .ok (.iastore, 1)) (hi : i < 250) (kk : am_G X M d (pc + 1) l st (mput A (S.s_documentCopies (upd S.documentCopies i x)) B) Q) : am_G X M d pc l (.int x :: .int (nI i) :: .ref 126 :: st) (mput A S B) Q :=
  q_iastore i hd (mp_a hA 42 rfl) hi (by omega) (by rw [show (mput A S B).set 126 (.inl (1, 250, .inl (upd S.documentCopies i x))) = mput A (S.s_documentCopies (upd S.documentCopies i x)) B from mp_set hA 42 (by decide) rfl]; exact kk)
theorem as_documentWords (i : Nat) {x : Int32} (hA : A.length = 84) (hd : decode M.2.1 pc = .ok (.iastore, 1)) (hi : i < 250) (kk : am_G X M d (pc + 1) l st (mput A (S.s_documentWords (upd S.documentWords i x)) B) Q) : am_G X M d pc l (.int x :: .int (nI i) :: .ref 127 :: st) (mput A S B) Q :=
  q_iastore i hd (mp_a hA 43 rfl) hi (by omega) (by rw [show (mput A S B).set 127 (.inl (1, 250, .inl (upd S.documentWords i x))) = mput A (S.s_documentWords (upd S.documentWords i x)) B from mp_set hA 43 (by decide) rfl]; exact kk)
theorem as_ranks (i : Nat) {x : Int64} (hA : A.length = 84) (hd : decode M.2.1 pc = .ok (.lastore, 1)) (hi : i < 250) (kk : am_G X M d (pc + 1) l st (mput A (S.s_ranks (vp_updL S.ranks i x)) B) Q) : am_G X M d pc l (.long x :: .int (nI i) :: .ref 128 :: st) (mput A S B) Q :=
  q_lastore i hd (mp_a hA 44 rfl) hi (by omega) (by rw [show (mput A S B).set 128 (.inl (2, 250, .inr (.inl (vp_updL S.ranks i x)))) = mput A (S.s_ranks (vp_updL S.ranks i x)) B from mp_set hA 44 (by decide) rfl]; exact kk)
theorem as_nextRanks (i : Nat) {x : Int64} (hA : A.length = 84) (hd : decode M.2.1 pc = .ok (.lastore, 1)) (hi : i < 250) (kk : am_G X M d (pc + 1) l st (mput A (S.s_nextRanks (vp_updL S.nextRanks i x)) B) Q) : am_G X M d pc l (.long x :: .int (nI i) :: .ref 129 :: st) (mput A S B) Q :=
  q_lastore i hd (mp_a hA 45 rfl) hi (by omega) (by rw [show (mput A S B).set 129 (.inl (2, 250, .inr (.inl (vp_updL S.nextRanks i x)))) = mput A (S.s_nextRanks (vp_updL S.nextRanks i x)) B from mp_set hA 45 (by decide) rfl]; exact kk)
theorem as_leads (i : Nat) {x : Int32} (hA : A.length = 84) (hd : decode M.2.1 pc = .ok (.bastore, 1)) (hi : i < 62500) (kk : am_G X M d (pc + 1) l st (mput A (S.s_leads (upd S.leads i (vp_nar .boolean x))) B) Q) : am_G X M d pc l (.int x :: .int (nI i) :: .ref 130 :: st) (mput A S B) Q :=
  q_zastore i hd (mp_a hA 46 rfl) hi (by omega) (by rw [show (mput A S B).set 130 (.inl (3, 62500, .inl (upd S.leads i (vp_nar .boolean x)))) = mput A (S.s_leads (upd S.leads i (vp_nar .boolean x))) B from mp_set hA 46 (by decide) rfl]; exact kk)
theorem as_hitDocument (i : Nat) {x : Int32} (hA : A.length = 84) (hd : decode M.2.1 pc = .ok (.iastore, 1)) (hi : i < 250) (kk : am_G X M d (pc + 1) l st (mput A (S.s_hitDocument (upd S.hitDocument i x)) B) Q) : am_G X M d pc l (.int x :: .int (nI i) :: .ref 131 :: st) (mput A S B) Q :=
  q_iastore i hd (mp_a hA 47 rfl) hi (by omega) (by rw [show (mput A S B).set 131 (.inl (1, 250, .inl (upd S.hitDocument i x))) = mput A (S.s_hitDocument (upd S.hitDocument i x)) B from mp_set hA 47 (by decide) rfl]; exact kk)
theorem as_hitScore (i : Nat) {x : Int64} (hA : A.length = 84) (hd : decode M.2.1 pc = .ok (.lastore, 1)) (hi : i < 250) (kk : am_G X M d (pc + 1) l st (mput A (S.s_hitScore (vp_updL S.hitScore i x)) B) Q) : am_G X M d pc l (.long x :: .int (nI i) :: .ref 132 :: st) (mput A S B) Q :=
  q_lastore i hd (mp_a hA 48 rfl) hi (by omega) (by rw [show (mput A S B).set 132 (.inl (2, 250, .inr (.inl (vp_updL S.hitScore i x)))) = mput A (S.s_hitScore (vp_updL S.hitScore i x)) B from mp_set hA 48 (by decide) rfl]; exact kk)
theorem as_question (i : Nat) {x : Int32} (hA : A.length = 84) (hd : decode M.2.1 pc = .ok (.bastore, 1)) (hi : i < 160) (kk : am_G X M d (pc + 1) l st (mput A (S.s_question (upd S.question i (vp_nar .byte x))) B) Q) : am_G X M d pc l (.int x :: .int (nI i) :: .ref 133 :: st) (mput A S B) Q :=
  q_bastore i hd (mp_a hA 49 rfl) hi (by omega) (by rw [show (mput A S B).set 133 (.inl (0, 160, .inl (upd S.question i (vp_nar .byte x)))) = mput A (S.s_question (upd S.question i (vp_nar .byte x))) B from mp_set hA 49 (by decide) rfl]; exact kk)
theorem as_questionLength (i : Nat) {x : Int32} (hA : A.length = 84) (hd : decode M.2.1 pc = .ok (.iastore, 1)) (hi : i < 8) (kk : am_G X M d (pc + 1) l st (mput A (S.s_questionLength (upd S.questionLength i x)) B) Q) : am_G X M d pc l (.int x :: .int (nI i) :: .ref 134 :: st) (mput A S B) Q :=
  q_iastore i hd (mp_a hA 50 rfl) hi (by omega) (by rw [show (mput A S B).set 134 (.inl (1, 8, .inl (upd S.questionLength i x))) = mput A (S.s_questionLength (upd S.questionLength i x)) B from mp_set hA 50 (by decide) rfl]; exact kk)
theorem asE_coming (i : Nat) {x : Int32} {g : Nat → Int32} (hA : A.length = 84) (hd : decode M.2.1 pc = .ok (.bastore, 1)) (hi : i < 8020) (he : upd S.coming i (vp_nar .byte x) = g) (kk : am_G X M d (pc + 1) l st (mput A (S.s_coming g) B) Q) : am_G X M d pc l (.int x :: .int (nI i) :: .ref 85 :: st) (mput A S B) Q := as_coming i hA hd hi (by rw [he]; exact kk)
theorem asE_product (i : Nat) {x : Int32} {g : Nat → Int32} (hA : A.length = 84) (hd : decode M.2.1 pc = .ok (.bastore, 1)) (hi : i < 20000) (he : upd S.product i (vp_nar .byte x) = g) (kk : am_G X M d (pc + 1) l st (mput A (S.s_product g) B) Q) : am_G X M d pc l (.int x :: .int (nI i) :: .ref 86 :: st) (mput A S B) Q := as_product i hA hd hi (by rw [he]; exact kk)
theorem asE_addresses (i : Nat) {x : Int32} {g : Nat → Int32} (hA : A.length = 84) (hd : decode M.2.1 pc = .ok (.bastore, 1)) (hi : i < 700000) (he : upd S.addresses i (vp_nar .byte x) = g) (kk : am_G X M d (pc + 1) l st (mput A (S.s_addresses g) B) Q) : am_G X M d pc l (.int x :: .int (nI i) :: .ref 87 :: st) (mput A S B) Q := as_addresses i hA hd hi (by rw [he]; exact kk)
theorem asE_addressAt (i : Nat) {x : Int32} {g : Nat → Int32} (hA : A.length = 84) (hd : decode M.2.1 pc = .ok (.iastore, 1)) (hi : i < 3500) (he : upd S.addressAt i x = g) (kk : am_G X M d (pc + 1) l st (mput A (S.s_addressAt g) B) Q) : am_G X M d pc l (.int x :: .int (nI i) :: .ref 88 :: st) (mput A S B) Q := as_addressAt i hA hd hi (by rw [he]; exact kk)
theorem asE_addressLength (i : Nat) {x : Int32} {g : Nat → Int32} (hA : A.length = 84) (hd : decode M.2.1 pc = .ok (.iastore, 1)) (hi : i < 3500) (he : upd S.addressLength i x = g) (kk : am_G X M d (pc + 1) l st (mput A (S.s_addressLength g) B) Q) : am_G X M d pc l (.int x :: .int (nI i) :: .ref 89 :: st) (mput A S B) Q := as_addressLength i hA hd hi (by rw [he]; exact kk)
theorem asE_made (i : Nat) {x : Int32} {g : Nat → Int32} (hA : A.length = 84) (hd : decode M.2.1 pc = .ok (.bastore, 1)) (hi : i < 200) (he : upd S.made i (vp_nar .byte x) = g) (kk : am_G X M d (pc + 1) l st (mput A (S.s_made g) B) Q) : am_G X M d pc l (.int x :: .int (nI i) :: .ref 90 :: st) (mput A S B) Q := as_made i hA hd hi (by rw [he]; exact kk)
theorem asE_host (i : Nat) {x : Int32} {g : Nat → Int32} (hA : A.length = 84) (hd : decode M.2.1 pc = .ok (.bastore, 1)) (hi : i < 80) (he : upd S.host i (vp_nar .byte x) = g) (kk : am_G X M d (pc + 1) l st (mput A (S.s_host g) B) Q) : am_G X M d pc l (.int x :: .int (nI i) :: .ref 91 :: st) (mput A S B) Q := as_host i hA hd hi (by rw [he]; exact kk)
theorem asE_path (i : Nat) {x : Int32} {g : Nat → Int32} (hA : A.length = 84) (hd : decode M.2.1 pc = .ok (.bastore, 1)) (hi : i < 8400) (he : upd S.path i (vp_nar .byte x) = g) (kk : am_G X M d (pc + 1) l st (mput A (S.s_path g) B) Q) : am_G X M d pc l (.int x :: .int (nI i) :: .ref 92 :: st) (mput A S B) Q := as_path i hA hd hi (by rw [he]; exact kk)
theorem asE_query (i : Nat) {x : Int32} {g : Nat → Int32} (hA : A.length = 84) (hd : decode M.2.1 pc = .ok (.bastore, 1)) (hi : i < 8400) (he : upd S.query i (vp_nar .byte x) = g) (kk : am_G X M d (pc + 1) l st (mput A (S.s_query g) B) Q) : am_G X M d pc l (.int x :: .int (nI i) :: .ref 93 :: st) (mput A S B) Q := as_query i hA hd hi (by rw [he]; exact kk)
theorem asE_neat (i : Nat) {x : Int32} {g : Nat → Int32} (hA : A.length = 84) (hd : decode M.2.1 pc = .ok (.bastore, 1)) (hi : i < 8400) (he : upd S.neat i (vp_nar .byte x) = g) (kk : am_G X M d (pc + 1) l st (mput A (S.s_neat g) B) Q) : am_G X M d pc l (.int x :: .int (nI i) :: .ref 94 :: st) (mput A S B) Q := as_neat i hA hd hi (by rw [he]; exact kk)
theorem asE_marks (i : Nat) {x : Int32} {g : Nat → Int32} (hA : A.length = 84) (hd : decode M.2.1 pc = .ok (.iastore, 1)) (hi : i < 8400) (he : upd S.marks i x = g) (kk : am_G X M d (pc + 1) l st (mput A (S.s_marks g) B) Q) : am_G X M d pc l (.int x :: .int (nI i) :: .ref 95 :: st) (mput A S B) Q := as_marks i hA hd hi (by rw [he]; exact kk)
theorem asE_texts (i : Nat) {x : Int32} {g : Nat → Int32} (hA : A.length = 84) (hd : decode M.2.1 pc = .ok (.bastore, 1)) (hi : i < 24000) (he : upd S.texts i (vp_nar .byte x) = g) (kk : am_G X M d (pc + 1) l st (mput A (S.s_texts g) B) Q) : am_G X M d pc l (.int x :: .int (nI i) :: .ref 96 :: st) (mput A S B) Q := as_texts i hA hd hi (by rw [he]; exact kk)
theorem asE_textAt (i : Nat) {x : Int32} {g : Nat → Int32} (hA : A.length = 84) (hd : decode M.2.1 pc = .ok (.iastore, 1)) (hi : i < 1100) (he : upd S.textAt i x = g) (kk : am_G X M d (pc + 1) l st (mput A (S.s_textAt g) B) Q) : am_G X M d pc l (.int x :: .int (nI i) :: .ref 97 :: st) (mput A S B) Q := as_textAt i hA hd hi (by rw [he]; exact kk)
theorem asE_textEnd (i : Nat) {x : Int32} {g : Nat → Int32} (hA : A.length = 84) (hd : decode M.2.1 pc = .ok (.iastore, 1)) (hi : i < 1100) (he : upd S.textEnd i x = g) (kk : am_G X M d (pc + 1) l st (mput A (S.s_textEnd g) B) Q) : am_G X M d pc l (.int x :: .int (nI i) :: .ref 98 :: st) (mput A S B) Q := as_textEnd i hA hd hi (by rw [he]; exact kk)
theorem asE_ruleSite (i : Nat) {x : Int32} {g : Nat → Int32} (hA : A.length = 84) (hd : decode M.2.1 pc = .ok (.iastore, 1)) (hi : i < 12) (he : upd S.ruleSite i x = g) (kk : am_G X M d (pc + 1) l st (mput A (S.s_ruleSite g) B) Q) : am_G X M d pc l (.int x :: .int (nI i) :: .ref 99 :: st) (mput A S B) Q := as_ruleSite i hA hd hi (by rw [he]; exact kk)
theorem asE_ruleText (i : Nat) {x : Int32} {g : Nat → Int32} (hA : A.length = 84) (hd : decode M.2.1 pc = .ok (.iastore, 1)) (hi : i < 12) (he : upd S.ruleText i x = g) (kk : am_G X M d (pc + 1) l st (mput A (S.s_ruleText g) B) Q) : am_G X M d pc l (.int x :: .int (nI i) :: .ref 100 :: st) (mput A S B) Q := as_ruleText i hA hd hi (by rw [he]; exact kk)
theorem asE_pattern (i : Nat) {x : Int32} {g : Nat → Int32} (hA : A.length = 84) (hd : decode M.2.1 pc = .ok (.bastore, 1)) (hi : i < 8000) (he : upd S.pattern i (vp_nar .byte x) = g) (kk : am_G X M d (pc + 1) l st (mput A (S.s_pattern g) B) Q) : am_G X M d pc l (.int x :: .int (nI i) :: .ref 101 :: st) (mput A S B) Q := as_pattern i hA hd hi (by rw [he]; exact kk)
theorem asE_reached (i : Nat) {x : Int32} {g : Nat → Int32} (hA : A.length = 84) (hd : decode M.2.1 pc = .ok (.bastore, 1)) (hi : i < 201) (he : upd S.reached i (vp_nar .boolean x) = g) (kk : am_G X M d (pc + 1) l st (mput A (S.s_reached g) B) Q) : am_G X M d pc l (.int x :: .int (nI i) :: .ref 102 :: st) (mput A S B) Q := as_reached i hA hd hi (by rw [he]; exact kk)
theorem asE_decoded (i : Nat) {x : Int32} {g : Nat → Int32} (hA : A.length = 84) (hd : decode M.2.1 pc = .ok (.bastore, 1)) (hi : i < 8000) (he : upd S.decoded i (vp_nar .byte x) = g) (kk : am_G X M d (pc + 1) l st (mput A (S.s_decoded g) B) Q) : am_G X M d pc l (.int x :: .int (nI i) :: .ref 103 :: st) (mput A S B) Q := as_decoded i hA hd hi (by rw [he]; exact kk)
theorem asE_words (i : Nat) {x : Int32} {g : Nat → Int32} (hA : A.length = 84) (hd : decode M.2.1 pc = .ok (.bastore, 1)) (hi : i < 8000) (he : upd S.words i (vp_nar .byte x) = g) (kk : am_G X M d (pc + 1) l st (mput A (S.s_words g) B) Q) : am_G X M d pc l (.int x :: .int (nI i) :: .ref 104 :: st) (mput A S B) Q := as_words i hA hd hi (by rw [he]; exact kk)
theorem asE_wordAt (i : Nat) {x : Int32} {g : Nat → Int32} (hA : A.length = 84) (hd : decode M.2.1 pc = .ok (.iastore, 1)) (hi : i < 4001) (he : upd S.wordAt i x = g) (kk : am_G X M d (pc + 1) l st (mput A (S.s_wordAt g) B) Q) : am_G X M d pc l (.int x :: .int (nI i) :: .ref 105 :: st) (mput A S B) Q := as_wordAt i hA hd hi (by rw [he]; exact kk)
theorem asE_wordLength (i : Nat) {x : Int32} {g : Nat → Int32} (hA : A.length = 84) (hd : decode M.2.1 pc = .ok (.iastore, 1)) (hi : i < 4001) (he : upd S.wordLength i x = g) (kk : am_G X M d (pc + 1) l st (mput A (S.s_wordLength g) B) Q) : am_G X M d pc l (.int x :: .int (nI i) :: .ref 106 :: st) (mput A S B) Q := as_wordLength i hA hd hi (by rw [he]; exact kk)
theorem asE_values (i : Nat) {x : Int32} {g : Nat → Int32} (hA : A.length = 84) (hd : decode M.2.1 pc = .ok (.bastore, 1)) (hi : i < 8000) (he : upd S.values i (vp_nar .byte x) = g) (kk : am_G X M d (pc + 1) l st (mput A (S.s_values g) B) Q) : am_G X M d pc l (.int x :: .int (nI i) :: .ref 107 :: st) (mput A S B) Q := as_values i hA hd hi (by rw [he]; exact kk)
theorem asE_valueAt (i : Nat) {x : Int32} {g : Nat → Int32} (hA : A.length = 84) (hd : decode M.2.1 pc = .ok (.iastore, 1)) (hi : i < 1000) (he : upd S.valueAt i x = g) (kk : am_G X M d (pc + 1) l st (mput A (S.s_valueAt g) B) Q) : am_G X M d pc l (.int x :: .int (nI i) :: .ref 108 :: st) (mput A S B) Q := as_valueAt i hA hd hi (by rw [he]; exact kk)
theorem asE_valueLength (i : Nat) {x : Int32} {g : Nat → Int32} (hA : A.length = 84) (hd : decode M.2.1 pc = .ok (.iastore, 1)) (hi : i < 1000) (he : upd S.valueLength i x = g) (kk : am_G X M d (pc + 1) l st (mput A (S.s_valueLength g) B) Q) : am_G X M d pc l (.int x :: .int (nI i) :: .ref 109 :: st) (mput A S B) Q := as_valueLength i hA hd hi (by rw [he]; exact kk)
theorem asE_pageAddress (i : Nat) {x : Int32} {g : Nat → Int32} (hA : A.length = 84) (hd : decode M.2.1 pc = .ok (.iastore, 1)) (hi : i < 60) (he : upd S.pageAddress i x = g) (kk : am_G X M d (pc + 1) l st (mput A (S.s_pageAddress g) B) Q) : am_G X M d pc l (.int x :: .int (nI i) :: .ref 110 :: st) (mput A S B) Q := as_pageAddress i hA hd hi (by rw [he]; exact kk)
theorem asE_pageStatus (i : Nat) {x : Int32} {g : Nat → Int32} (hA : A.length = 84) (hd : decode M.2.1 pc = .ok (.iastore, 1)) (hi : i < 60) (he : upd S.pageStatus i x = g) (kk : am_G X M d (pc + 1) l st (mput A (S.s_pageStatus g) B) Q) : am_G X M d pc l (.int x :: .int (nI i) :: .ref 111 :: st) (mput A S B) Q := as_pageStatus i hA hd hi (by rw [he]; exact kk)
theorem asE_pageText (i : Nat) {x : Int32} {g : Nat → Int32} (hA : A.length = 84) (hd : decode M.2.1 pc = .ok (.iastore, 1)) (hi : i < 60) (he : upd S.pageText i x = g) (kk : am_G X M d (pc + 1) l st (mput A (S.s_pageText g) B) Q) : am_G X M d pc l (.int x :: .int (nI i) :: .ref 112 :: st) (mput A S B) Q := as_pageText i hA hd hi (by rw [he]; exact kk)
theorem asE_links (i : Nat) {x : Int32} {g : Nat → Int32} (hA : A.length = 84) (hd : decode M.2.1 pc = .ok (.iastore, 1)) (hi : i < 60) (he : upd S.links i x = g) (kk : am_G X M d (pc + 1) l st (mput A (S.s_links g) B) Q) : am_G X M d pc l (.int x :: .int (nI i) :: .ref 113 :: st) (mput A S B) Q := as_links i hA hd hi (by rw [he]; exact kk)
theorem asE_told (i : Nat) {x : Int32} {g : Nat → Int32} (hA : A.length = 84) (hd : decode M.2.1 pc = .ok (.iastore, 1)) (hi : i < 4) (he : upd S.told i x = g) (kk : am_G X M d (pc + 1) l st (mput A (S.s_told g) B) Q) : am_G X M d pc l (.int x :: .int (nI i) :: .ref 114 :: st) (mput A S B) Q := as_told i hA hd hi (by rw [he]; exact kk)
theorem asE_held (i : Nat) {x : Int32} {g : Nat → Int32} (hA : A.length = 84) (hd : decode M.2.1 pc = .ok (.iastore, 1)) (hi : i < 4) (he : upd S.held i x = g) (kk : am_G X M d (pc + 1) l st (mput A (S.s_held g) B) Q) : am_G X M d pc l (.int x :: .int (nI i) :: .ref 115 :: st) (mput A S B) Q := as_held i hA hd hi (by rw [he]; exact kk)
theorem asE_seeds (i : Nat) {x : Int32} {g : Nat → Int32} (hA : A.length = 84) (hd : decode M.2.1 pc = .ok (.iastore, 1)) (hi : i < 20) (he : upd S.seeds i x = g) (kk : am_G X M d (pc + 1) l st (mput A (S.s_seeds g) B) Q) : am_G X M d pc l (.int x :: .int (nI i) :: .ref 116 :: st) (mput A S B) Q := as_seeds i hA hd hi (by rw [he]; exact kk)
theorem asE_known (i : Nat) {x : Int32} {g : Nat → Int32} (hA : A.length = 84) (hd : decode M.2.1 pc = .ok (.iastore, 1)) (hi : i < 1500) (he : upd S.known i x = g) (kk : am_G X M d (pc + 1) l st (mput A (S.s_known g) B) Q) : am_G X M d pc l (.int x :: .int (nI i) :: .ref 117 :: st) (mput A S B) Q := as_known i hA hd hi (by rw [he]; exact kk)
theorem asE_saved (i : Nat) {x : Int32} {g : Nat → Int32} (hA : A.length = 84) (hd : decode M.2.1 pc = .ok (.iastore, 1)) (hi : i < 1500) (he : upd S.saved i x = g) (kk : am_G X M d (pc + 1) l st (mput A (S.s_saved g) B) Q) : am_G X M d pc l (.int x :: .int (nI i) :: .ref 118 :: st) (mput A S B) Q := as_saved i hA hd hi (by rw [he]; exact kk)
theorem asE_askedClock (i : Nat) {x : Int32} {g : Nat → Int32} (hA : A.length = 84) (hd : decode M.2.1 pc = .ok (.iastore, 1)) (hi : i < 1000) (he : upd S.askedClock i x = g) (kk : am_G X M d (pc + 1) l st (mput A (S.s_askedClock g) B) Q) : am_G X M d pc l (.int x :: .int (nI i) :: .ref 119 :: st) (mput A S B) Q := as_askedClock i hA hd hi (by rw [he]; exact kk)
theorem asE_askedAddress (i : Nat) {x : Int32} {g : Nat → Int32} (hA : A.length = 84) (hd : decode M.2.1 pc = .ok (.iastore, 1)) (hi : i < 1000) (he : upd S.askedAddress i x = g) (kk : am_G X M d (pc + 1) l st (mput A (S.s_askedAddress g) B) Q) : am_G X M d pc l (.int x :: .int (nI i) :: .ref 120 :: st) (mput A S B) Q := as_askedAddress i hA hd hi (by rw [he]; exact kk)
theorem asE_siteOf (i : Nat) {x : Int32} {g : Nat → Int32} (hA : A.length = 84) (hd : decode M.2.1 pc = .ok (.iastore, 1)) (hi : i < 250) (he : upd S.siteOf i x = g) (kk : am_G X M d (pc + 1) l st (mput A (S.s_siteOf g) B) Q) : am_G X M d pc l (.int x :: .int (nI i) :: .ref 121 :: st) (mput A S B) Q := as_siteOf i hA hd hi (by rw [he]; exact kk)
theorem asE_siteTime (i : Nat) {x : Int32} {g : Nat → Int32} (hA : A.length = 84) (hd : decode M.2.1 pc = .ok (.iastore, 1)) (hi : i < 250) (he : upd S.siteTime i x = g) (kk : am_G X M d (pc + 1) l st (mput A (S.s_siteTime g) B) Q) : am_G X M d pc l (.int x :: .int (nI i) :: .ref 122 :: st) (mput A S B) Q := as_siteTime i hA hd hi (by rw [he]; exact kk)
theorem asE_documentAddress (i : Nat) {x : Int32} {g : Nat → Int32} (hA : A.length = 84) (hd : decode M.2.1 pc = .ok (.iastore, 1)) (hi : i < 250) (he : upd S.documentAddress i x = g) (kk : am_G X M d (pc + 1) l st (mput A (S.s_documentAddress g) B) Q) : am_G X M d pc l (.int x :: .int (nI i) :: .ref 123 :: st) (mput A S B) Q := as_documentAddress i hA hd hi (by rw [he]; exact kk)
theorem asE_documentText (i : Nat) {x : Int32} {g : Nat → Int32} (hA : A.length = 84) (hd : decode M.2.1 pc = .ok (.iastore, 1)) (hi : i < 250) (he : upd S.documentText i x = g) (kk : am_G X M d (pc + 1) l st (mput A (S.s_documentText g) B) Q) : am_G X M d pc l (.int x :: .int (nI i) :: .ref 124 :: st) (mput A S B) Q := as_documentText i hA hd hi (by rw [he]; exact kk)
theorem asE_documentNumber (i : Nat) {x : Int32} {g : Nat → Int32} (hA : A.length = 84) (hd : decode M.2.1 pc = .ok (.iastore, 1)) (hi : i < 250) (he : upd S.documentNumber i x = g) (kk : am_G X M d (pc + 1) l st (mput A (S.s_documentNumber g) B) Q) : am_G X M d pc l (.int x :: .int (nI i) :: .ref 125 :: st) (mput A S B) Q := as_documentNumber i hA hd hi (by rw [he]; exact kk)
theorem asE_documentCopies (i : Nat) {x : Int32} {g : Nat → Int32} (hA : A.length = 84) (hd : decode M.2.1 pc = .ok (.iastore, 1)) (hi : i < 250) (he : upd S.documentCopies i x = g) (kk : am_G X M d (pc + 1) l st (mput A (S.s_documentCopies g) B) Q) : am_G X M d pc l (.int x :: .int (nI i) :: .ref 126 :: st) (mput A S B) Q := as_documentCopies i hA hd hi (by rw [he]; exact kk)
theorem asE_documentWords (i : Nat) {x : Int32} {g : Nat → Int32} (hA : A.length = 84) (hd : decode M.2.1 pc = .ok (.iastore, 1)) (hi : i < 250) (he : upd S.documentWords i x = g) (kk : am_G X M d (pc + 1) l st (mput A (S.s_documentWords g) B) Q) : am_G X M d pc l (.int x :: .int (nI i) :: .ref 127 :: st) (mput A S B) Q := as_documentWords i hA hd hi (by rw [he]; exact kk)
theorem asE_ranks (i : Nat) {x : Int64} {g : Nat → Int64} (hA : A.length = 84) (hd : decode M.2.1 pc = .ok (.lastore, 1)) (hi : i < 250) (he : vp_updL S.ranks i x = g) (kk : am_G X M d (pc + 1) l st (mput A (S.s_ranks g) B) Q) : am_G X M d pc l (.long x :: .int (nI i) :: .ref 128 :: st) (mput A S B) Q := as_ranks i hA hd hi (by rw [he]; exact kk)
theorem asE_nextRanks (i : Nat) {x : Int64} {g : Nat → Int64} (hA : A.length = 84) (hd : decode M.2.1 pc = .ok (.lastore, 1)) (hi : i < 250) (he : vp_updL S.nextRanks i x = g) (kk : am_G X M d (pc + 1) l st (mput A (S.s_nextRanks g) B) Q) : am_G X M d pc l (.long x :: .int (nI i) :: .ref 129 :: st) (mput A S B) Q := as_nextRanks i hA hd hi (by rw [he]; exact kk)
theorem asE_leads (i : Nat) {x : Int32} {g : Nat → Int32} (hA : A.length = 84) (hd : decode M.2.1 pc = .ok (.bastore, 1)) (hi : i < 62500) (he : upd S.leads i (vp_nar .boolean x) = g) (kk : am_G X M d (pc + 1) l st (mput A (S.s_leads g) B) Q) : am_G X M d pc l (.int x :: .int (nI i) :: .ref 130 :: st) (mput A S B) Q := as_leads i hA hd hi (by rw [he]; exact kk)
theorem asE_hitDocument (i : Nat) {x : Int32} {g : Nat → Int32} (hA : A.length = 84) (hd : decode M.2.1 pc = .ok (.iastore, 1)) (hi : i < 250) (he : upd S.hitDocument i x = g) (kk : am_G X M d (pc + 1) l st (mput A (S.s_hitDocument g) B) Q) : am_G X M d pc l (.int x :: .int (nI i) :: .ref 131 :: st) (mput A S B) Q := as_hitDocument i hA hd hi (by rw [he]; exact kk)
theorem asE_hitScore (i : Nat) {x : Int64} {g : Nat → Int64} (hA : A.length = 84) (hd : decode M.2.1 pc = .ok (.lastore, 1)) (hi : i < 250) (he : vp_updL S.hitScore i x = g) (kk : am_G X M d (pc + 1) l st (mput A (S.s_hitScore g) B) Q) : am_G X M d pc l (.long x :: .int (nI i) :: .ref 132 :: st) (mput A S B) Q := as_hitScore i hA hd hi (by rw [he]; exact kk)
theorem asE_question (i : Nat) {x : Int32} {g : Nat → Int32} (hA : A.length = 84) (hd : decode M.2.1 pc = .ok (.bastore, 1)) (hi : i < 160) (he : upd S.question i (vp_nar .byte x) = g) (kk : am_G X M d (pc + 1) l st (mput A (S.s_question g) B) Q) : am_G X M d pc l (.int x :: .int (nI i) :: .ref 133 :: st) (mput A S B) Q := as_question i hA hd hi (by rw [he]; exact kk)
theorem asE_questionLength (i : Nat) {x : Int32} {g : Nat → Int32} (hA : A.length = 84) (hd : decode M.2.1 pc = .ok (.iastore, 1)) (hi : i < 8) (he : upd S.questionLength i x = g) (kk : am_G X M d (pc + 1) l st (mput A (S.s_questionLength g) B) Q) : am_G X M d pc l (.int x :: .int (nI i) :: .ref 134 :: st) (mput A S B) Q := as_questionLength i hA hd hi (by rw [he]; exact kk)
end MSS
