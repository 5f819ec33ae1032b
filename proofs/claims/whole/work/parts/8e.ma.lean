/-! ===== which fields of the model may have changed ===== -/
abbrev MFv : Type := (Nat → Int32) ⊕ (Nat → Int64) ⊕ Nat ⊕ Option Nat ⊕ Bool ⊕ Int32
def fls (S : MS) : List MFv := [.inl S.coming, .inr (.inr (.inl S.size)), .inr (.inr (.inl S.fault)), .inl S.product, .inr (.inr (.inl S.productSize)), .inl S.addresses, .inl S.addressAt, .inl S.addressLength, .inr (.inr (.inl S.addressCount)), .inl S.made, .inr (.inr (.inl S.madeLength)), .inl S.host, .inl S.path, .inl S.query, .inl S.neat, .inl S.marks, .inr (.inr (.inl S.hostLength)), .inr (.inr (.inl S.pathLength)), .inr (.inr (.inr (.inl S.queryLength))), .inl S.texts, .inr (.inr (.inl S.textsEnd)), .inl S.textAt, .inl S.textEnd, .inr (.inr (.inl S.textCount)), .inl S.ruleSite, .inl S.ruleText, .inr (.inr (.inl S.ruleCount)), .inr (.inr (.inr (.inl S.key))), .inr (.inr (.inl S.valueFrom)), .inr (.inr (.inl S.valueEnd)), .inl S.pattern, .inr (.inr (.inl S.patternLength)), .inl S.reached, .inr (.inr (.inl S.holding)), .inr (.inr (.inr (.inr (.inl S.isAllowed)))), .inl S.decoded, .inr (.inr (.inl S.decodedLength)), .inl S.words, .inl S.wordAt, .inl S.wordLength, .inr (.inr (.inl S.wordCount)), .inl S.values, .inl S.valueAt, .inl S.valueLength, .inr (.inr (.inl S.valueCount)), .inr (.inr (.inl S.pageBase)), .inr (.inr (.inr (.inr (.inl S.hasBase)))), .inr (.inr (.inr (.inr (.inr S.byteValue)))), .inr (.inr (.inl S.hrefFrom)), .inr (.inr (.inl S.hrefEnd)), .inr (.inr (.inr (.inr (.inl S.hasHref)))), .inl S.pageAddress, .inl S.pageStatus, .inl S.pageText, .inr (.inr (.inl S.pageCount)), .inl S.links, .inr (.inr (.inl S.linkCount)), .inl S.told, .inl S.held, .inl S.seeds, .inr (.inr (.inl S.seedCount)), .inr (.inr (.inr (.inr (.inl S.isStarted)))), .inr (.inr (.inl S.clock)), .inl S.known, .inr (.inr (.inl S.knownCount)), .inl S.saved, .inr (.inr (.inl S.savedCount)), .inr (.inr (.inl S.askedSince)), .inr (.inr (.inl S.asked)), .inl S.askedClock, .inl S.askedAddress, .inl S.siteOf, .inl S.siteTime, .inr (.inr (.inl S.siteCount)), .inr (.inr (.inr (.inl S.otherTime))), .inr (.inr (.inl S.documents)), .inl S.documentAddress, .inl S.documentText, .inl S.documentNumber, .inl S.documentCopies, .inl S.documentWords, .inr (.inl S.ranks), .inr (.inl S.nextRanks), .inl S.leads, .inr (.inr (.inl S.hits)), .inl S.hitDocument, .inr (.inl S.hitScore), .inl S.question, .inl S.questionLength, .inr (.inr (.inl S.questionCount))]
/-- only the fields in X may have changed -/
def mA (X : List Nat) (S S1 : MS) : Prop := ∀ k : Nat, ¬ k ∈ X → (fls S1)[k]? = (fls S)[k]?
section MAS
variable {Z Z1 : List Nat} {S S1 S2 : MS}
theorem mA.rf (S : MS) : mA Z S S := fun _ _ => rfl
theorem mA.tr (h1 : mA Z S S1) (h2 : mA Z S1 S2) : mA Z S S2 := fun k hk => (h2 k hk).trans (h1 k hk)
theorem mA.mo (h : mA Z S S1) (hs : ∀ i, i ∈ Z → i ∈ Z1) : mA Z1 S S1 := fun k hk => h k (fun h9 => hk (hs k h9))
theorem mA.t2 (h1 : mA Z1 S S1) (h2 : mA Z S1 S2) (hs : ∀ i, i ∈ Z → i ∈ Z1) : mA Z1 S S2 := h1.tr (h2.mo hs)
theorem fs_coming (S : MS) (v : Nat → Int32) : fls (S.s_coming v) = (fls S).set 0 (.inl v) := rfl
theorem mA.a_coming (h : mA Z S S1) (v : Nat → Int32) (hk : 0 ∈ Z) : mA Z S (S1.s_coming v) := fun j hj => by
  rw [fs_coming, List.getElem?_set_ne (fun e => hj (by rw [← e]; exact hk))]; exact h j hj
theorem mA.coming (h : mA Z S S1) (hk : ¬ 0 ∈ Z) : S1.coming = S.coming := Sum.inl.inj (Option.some.inj (show some (.inl S1.coming : MFv) = some (.inl S.coming) from h 0 hk))
theorem fs_size (S : MS) (v : Nat) : fls (S.s_size v) = (fls S).set 1 (.inr (.inr (.inl v))) := rfl
theorem mA.a_size (h : mA Z S S1) (v : Nat) (hk : 1 ∈ Z) : mA Z S (S1.s_size v) := fun j hj => by
  rw [fs_size, List.getElem?_set_ne (fun e => hj (by rw [← e]; exact hk))]; exact h j hj
theorem mA.size (h : mA Z S S1) (hk : ¬ 1 ∈ Z) : S1.size = S.size := Sum.inl.inj (Sum.inr.inj (Sum.inr.inj (Option.some.inj (show some (.inr (.inr (.inl S1.size)) : MFv) = some (.inr (.inr (.inl S.size))) from h 1 hk))))
theorem fs_fault (S : MS) (v : Nat) : fls (S.s_fault v) = (fls S).set 2 (.inr (.inr (.inl v))) := rfl
theorem mA.a_fault (h : mA Z S S1) (v : Nat) (hk : 2 ∈ Z) : mA Z S (S1.s_fault v) := fun j hj => by
  rw [fs_fault, List.getElem?_set_ne (fun e => hj (by rw [← e]; exact hk))]; exact h j hj
theorem mA.fault (h : mA Z S S1) (hk : ¬ 2 ∈ Z) : S1.fault = S.fault := Sum.inl.inj (Sum.inr.inj (Sum.inr.inj (Option.some.inj (show some (.inr (.inr (.inl S1.fault)) : MFv) = some (.inr (.inr (.inl S.fault))) from h 2 hk))))
theorem fs_product (S : MS) (v : Nat → Int32) : fls (S.s_product v) = (fls S).set 3 (.inl v) := rfl
theorem mA.a_product (h : mA Z S S1) (v : Nat → Int32) (hk : 3 ∈ Z) : mA Z S (S1.s_product v) := fun j hj => by
  rw [fs_product, List.getElem?_set_ne (fun e => hj (by rw [← e]; exact hk))]; exact h j hj
theorem mA.product (h : mA Z S S1) (hk : ¬ 3 ∈ Z) : S1.product = S.product := Sum.inl.inj (Option.some.inj (show some (.inl S1.product : MFv) = some (.inl S.product) from h 3 hk))
theorem fs_productSize (S : MS) (v : Nat) : fls (S.s_productSize v) = (fls S).set 4 (.inr (.inr (.inl v))) := rfl
theorem mA.a_productSize (h : mA Z S S1) (v : Nat) (hk : 4 ∈ Z) : mA Z S (S1.s_productSize v) := fun j hj => by
  rw [fs_productSize, List.getElem?_set_ne (fun e => hj (by rw [← e]; exact hk))]; exact h j hj
theorem mA.productSize (h : mA Z S S1) (hk : ¬ 4 ∈ Z) : S1.productSize = S.productSize := Sum.inl.inj (Sum.inr.inj (Sum.inr.inj (Option.some.inj (show some (.inr (.inr (.inl S1.productSize)) : MFv) = some (.inr (.inr (.inl S.productSize))) from h 4 hk))))
theorem fs_addresses (S : MS) (v : Nat → Int32) : fls (S.s_addresses v) = (fls S).set 5 (.inl v) := rfl
theorem mA.a_addresses (h : mA Z S S1) (v : Nat → Int32) (hk : 5 ∈ Z) : mA Z S (S1.s_addresses v) := fun j hj => by
  rw [fs_addresses, List.getElem?_set_ne (fun e => hj (by rw [← e]; exact hk))]; exact h j hj
theorem mA.addresses (h : mA Z S S1) (hk : ¬ 5 ∈ Z) : S1.addresses = S.addresses := Sum.inl.inj (Option.some.inj (show some (.inl S1.addresses : MFv) = some (.inl S.addresses) from h 5 hk))
theorem fs_addressAt (S : MS) (v : Nat → Int32) : fls (S.s_addressAt v) = (fls S).set 6 (.inl v) := rfl
theorem mA.a_addressAt (h : mA Z S S1) (v : Nat → Int32) (hk : 6 ∈ Z) : mA Z S (S1.s_addressAt v) := fun j hj => by
  rw [fs_addressAt, List.getElem?_set_ne (fun e => hj (by rw [← e]; exact hk))]; exact h j hj
theorem mA.addressAt (h : mA Z S S1) (hk : ¬ 6 ∈ Z) : S1.addressAt = S.addressAt := Sum.inl.inj (Option.some.inj (show some (.inl S1.addressAt : MFv) = some (.inl S.addressAt) from h 6 hk))
theorem fs_addressLength (S : MS) (v : Nat → Int32) : fls (S.s_addressLength v) = (fls S).set 7 (.inl v) := rfl
theorem mA.a_addressLength (h : mA Z S S1) (v : Nat → Int32) (hk : 7 ∈ Z) : mA Z S (S1.s_addressLength v) := fun j hj => by
  rw [fs_addressLength, List.getElem?_set_ne (fun e => hj (by rw [← e]; exact hk))]; exact h j hj
theorem mA.addressLength (h : mA Z S S1) (hk : ¬ 7 ∈ Z) : S1.addressLength = S.addressLength := Sum.inl.inj (Option.some.inj (show some (.inl S1.addressLength : MFv) = some (.inl S.addressLength) from h 7 hk))
theorem fs_addressCount (S : MS) (v : Nat) : fls (S.s_addressCount v) = (fls S).set 8 (.inr (.inr (.inl v))) := rfl
theorem mA.a_addressCount (h : mA Z S S1) (v : Nat) (hk : 8 ∈ Z) : mA Z S (S1.s_addressCount v) := fun j hj => by
  rw [fs_addressCount, List.getElem?_set_ne (fun e => hj (by rw [← e]; exact hk))]; exact h j hj
theorem mA.addressCount (h : mA Z S S1) (hk : ¬ 8 ∈ Z) : S1.addressCount = S.addressCount := Sum.inl.inj (Sum.inr.inj (Sum.inr.inj (Option.some.inj (show some (.inr (.inr (.inl S1.addressCount)) : MFv) = some (.inr (.inr (.inl S.addressCount))) from h 8 hk))))
theorem fs_made (S : MS) (v : Nat → Int32) : fls (S.s_made v) = (fls S).set 9 (.inl v) := rfl
theorem mA.a_made (h : mA Z S S1) (v : Nat → Int32) (hk : 9 ∈ Z) : mA Z S (S1.s_made v) := fun j hj => by
  rw [fs_made, List.getElem?_set_ne (fun e => hj (by rw [← e]; exact hk))]; exact h j hj
theorem mA.made (h : mA Z S S1) (hk : ¬ 9 ∈ Z) : S1.made = S.made := Sum.inl.inj (Option.some.inj (show some (.inl S1.made : MFv) = some (.inl S.made) from h 9 hk))
theorem fs_madeLength (S : MS) (v : Nat) : fls (S.s_madeLength v) = (fls S).set 10 (.inr (.inr (.inl v))) := rfl
theorem mA.a_madeLength (h : mA Z S S1) (v : Nat) (hk : 10 ∈ Z) : mA Z S (S1.s_madeLength v) := fun j hj => by
  rw [fs_madeLength, List.getElem?_set_ne (fun e => hj (by rw [← e]; exact hk))]; exact h j hj
theorem mA.madeLength (h : mA Z S S1) (hk : ¬ 10 ∈ Z) : S1.madeLength = S.madeLength := Sum.inl.inj (Sum.inr.inj (Sum.inr.inj (Option.some.inj (show some (.inr (.inr (.inl S1.madeLength)) : MFv) = some (.inr (.inr (.inl S.madeLength))) from h 10 hk))))
theorem fs_host (S : MS) (v : Nat → Int32) : fls (S.s_host v) = (fls S).set 11 (.inl v) := rfl
theorem mA.a_host (h : mA Z S S1) (v : Nat → Int32) (hk : 11 ∈ Z) : mA Z S (S1.s_host v) := fun j hj => by
  rw [fs_host, List.getElem?_set_ne (fun e => hj (by rw [← e]; exact hk))]; exact h j hj
theorem mA.host (h : mA Z S S1) (hk : ¬ 11 ∈ Z) : S1.host = S.host := Sum.inl.inj (Option.some.inj (show some (.inl S1.host : MFv) = some (.inl S.host) from h 11 hk))
theorem fs_path (S : MS) (v : Nat → Int32) : fls (S.s_path v) = (fls S).set 12 (.inl v) := rfl
theorem mA.a_path (h : mA Z S S1) (v : Nat → Int32) (hk : 12 ∈ Z) : mA Z S (S1.s_path v) := fun j hj => by
  rw [fs_path, List.getElem?_set_ne (fun e => hj (by rw [← e]; exact hk))]; exact h j hj
theorem mA.path (h : mA Z S S1) (hk : ¬ 12 ∈ Z) : S1.path = S.path := Sum.inl.inj (Option.some.inj (show some (.inl S1.path : MFv) = some (.inl S.path) from h 12 hk))
theorem fs_query (S : MS) (v : Nat → Int32) : fls (S.s_query v) = (fls S).set 13 (.inl v) := rfl
theorem mA.a_query (h : mA Z S S1) (v : Nat → Int32) (hk : 13 ∈ Z) : mA Z S (S1.s_query v) := fun j hj => by
  rw [fs_query, List.getElem?_set_ne (fun e => hj (by rw [← e]; exact hk))]; exact h j hj
theorem mA.query (h : mA Z S S1) (hk : ¬ 13 ∈ Z) : S1.query = S.query := Sum.inl.inj (Option.some.inj (show some (.inl S1.query : MFv) = some (.inl S.query) from h 13 hk))
theorem fs_neat (S : MS) (v : Nat → Int32) : fls (S.s_neat v) = (fls S).set 14 (.inl v) := rfl
theorem mA.a_neat (h : mA Z S S1) (v : Nat → Int32) (hk : 14 ∈ Z) : mA Z S (S1.s_neat v) := fun j hj => by
  rw [fs_neat, List.getElem?_set_ne (fun e => hj (by rw [← e]; exact hk))]; exact h j hj
theorem mA.neat (h : mA Z S S1) (hk : ¬ 14 ∈ Z) : S1.neat = S.neat := Sum.inl.inj (Option.some.inj (show some (.inl S1.neat : MFv) = some (.inl S.neat) from h 14 hk))
theorem fs_marks (S : MS) (v : Nat → Int32) : fls (S.s_marks v) = (fls S).set 15 (.inl v) := rfl
theorem mA.a_marks (h : mA Z S S1) (v : Nat → Int32) (hk : 15 ∈ Z) : mA Z S (S1.s_marks v) := fun j hj => by
  rw [fs_marks, List.getElem?_set_ne (fun e => hj (by rw [← e]; exact hk))]; exact h j hj
theorem mA.marks (h : mA Z S S1) (hk : ¬ 15 ∈ Z) : S1.marks = S.marks := Sum.inl.inj (Option.some.inj (show some (.inl S1.marks : MFv) = some (.inl S.marks) from h 15 hk))
theorem fs_hostLength (S : MS) (v : Nat) : fls (S.s_hostLength v) = (fls S).set 16 (.inr (.inr (.inl v))) := rfl
theorem mA.a_hostLength (h : mA Z S S1) (v : Nat) (hk : 16 ∈ Z) : mA Z S (S1.s_hostLength v) := fun j hj => by
  rw [fs_hostLength, List.getElem?_set_ne (fun e => hj (by rw [← e]; exact hk))]; exact h j hj
theorem mA.hostLength (h : mA Z S S1) (hk : ¬ 16 ∈ Z) : S1.hostLength = S.hostLength := Sum.inl.inj (Sum.inr.inj (Sum.inr.inj (Option.some.inj (show some (.inr (.inr (.inl S1.hostLength)) : MFv) = some (.inr (.inr (.inl S.hostLength))) from h 16 hk))))
theorem fs_pathLength (S : MS) (v : Nat) : fls (S.s_pathLength v) = (fls S).set 17 (.inr (.inr (.inl v))) := rfl
theorem mA.a_pathLength (h : mA Z S S1) (v : Nat) (hk : 17 ∈ Z) : mA Z S (S1.s_pathLength v) := fun j hj => by
  rw [fs_pathLength, List.getElem?_set_ne (fun e => hj (by rw [← e]; exact hk))]; exact h j hj
theorem mA.pathLength (h : mA Z S S1) (hk : ¬ 17 ∈ Z) : S1.pathLength = S.pathLength := Sum.inl.inj (Sum.inr.inj (Sum.inr.inj (Option.some.inj (show some (.inr (.inr (.inl S1.pathLength)) : MFv) = some (.inr (.inr (.inl S.pathLength))) from h 17 hk))))
theorem fs_queryLength (S : MS) (v : Option Nat) : fls (S.s_queryLength v) = (fls S).set 18 (.inr (.inr (.inr (.inl v)))) := rfl
theorem mA.a_queryLength (h : mA Z S S1) (v : Option Nat) (hk : 18 ∈ Z) : mA Z S (S1.s_queryLength v) := fun j hj => by
  rw [fs_queryLength, List.getElem?_set_ne (fun e => hj (by rw [← e]; exact hk))]; exact h j hj
theorem mA.queryLength (h : mA Z S S1) (hk : ¬ 18 ∈ Z) : S1.queryLength = S.queryLength := Sum.inl.inj (Sum.inr.inj (Sum.inr.inj (Sum.inr.inj (Option.some.inj (show some (.inr (.inr (.inr (.inl S1.queryLength))) : MFv) = some (.inr (.inr (.inr (.inl S.queryLength)))) from h 18 hk)))))
theorem fs_texts (S : MS) (v : Nat → Int32) : fls (S.s_texts v) = (fls S).set 19 (.inl v) := rfl
theorem mA.a_texts (h : mA Z S S1) (v : Nat → Int32) (hk : 19 ∈ Z) : mA Z S (S1.s_texts v) := fun j hj => by
  rw [fs_texts, List.getElem?_set_ne (fun e => hj (by rw [← e]; exact hk))]; exact h j hj
theorem mA.texts (h : mA Z S S1) (hk : ¬ 19 ∈ Z) : S1.texts = S.texts := Sum.inl.inj (Option.some.inj (show some (.inl S1.texts : MFv) = some (.inl S.texts) from h 19 hk))
theorem fs_textsEnd (S : MS) (v : Nat) : fls (S.s_textsEnd v) = (fls S).set 20 (.inr (.inr (.inl v))) := rfl
theorem mA.a_textsEnd (h : mA Z S S1) (v : Nat) (hk : 20 ∈ Z) : mA Z S (S1.s_textsEnd v) := fun j hj => by
  rw [fs_textsEnd, List.getElem?_set_ne (fun e => hj (by rw [← e]; exact hk))]; exact h j hj
theorem mA.textsEnd (h : mA Z S S1) (hk : ¬ 20 ∈ Z) : S1.textsEnd = S.textsEnd := Sum.inl.inj (Sum.inr.inj (Sum.inr.inj (Option.some.inj (show some (.inr (.inr (.inl S1.textsEnd)) : MFv) = some (.inr (.inr (.inl S.textsEnd))) from h 20 hk))))
theorem fs_textAt (S : MS) (v : Nat → Int32) : fls (S.s_textAt v) = (fls S).set 21 (.inl v) := rfl
theorem mA.a_textAt (h : mA Z S S1) (v : Nat → Int32) (hk : 21 ∈ Z) : mA Z S (S1.s_textAt v) := fun j hj => by
  rw [fs_textAt, List.getElem?_set_ne (fun e => hj (by rw [← e]; exact hk))]; exact h j hj
theorem mA.textAt (h : mA Z S S1) (hk : ¬ 21 ∈ Z) : S1.textAt = S.textAt := Sum.inl.inj (Option.some.inj (show some (.inl S1.textAt : MFv) = some (.inl S.textAt) from h 21 hk))
theorem fs_textEnd (S : MS) (v : Nat → Int32) : fls (S.s_textEnd v) = (fls S).set 22 (.inl v) := rfl
theorem mA.a_textEnd (h : mA Z S S1) (v : Nat → Int32) (hk : 22 ∈ Z) : mA Z S (S1.s_textEnd v) := fun j hj => by
  rw [fs_textEnd, List.getElem?_set_ne (fun e => hj (by rw [← e]; exact hk))]; exact h j hj
theorem mA.textEnd (h : mA Z S S1) (hk : ¬ 22 ∈ Z) : S1.textEnd = S.textEnd := Sum.inl.inj (Option.some.inj (show some (.inl S1.textEnd : MFv) = some (.inl S.textEnd) from h 22 hk))
theorem fs_textCount (S : MS) (v : Nat) : fls (S.s_textCount v) = (fls S).set 23 (.inr (.inr (.inl v))) := rfl
theorem mA.a_textCount (h : mA Z S S1) (v : Nat) (hk : 23 ∈ Z) : mA Z S (S1.s_textCount v) := fun j hj => by
  rw [fs_textCount, List.getElem?_set_ne (fun e => hj (by rw [← e]; exact hk))]; exact h j hj
theorem mA.textCount (h : mA Z S S1) (hk : ¬ 23 ∈ Z) : S1.textCount = S.textCount := Sum.inl.inj (Sum.inr.inj (Sum.inr.inj (Option.some.inj (show some (.inr (.inr (.inl S1.textCount)) : MFv) = some (.inr (.inr (.inl S.textCount))) from h 23 hk))))
theorem fs_ruleSite (S : MS) (v : Nat → Int32) : fls (S.s_ruleSite v) = (fls S).set 24 (.inl v) := rfl
theorem mA.a_ruleSite (h : mA Z S S1) (v : Nat → Int32) (hk : 24 ∈ Z) : mA Z S (S1.s_ruleSite v) := fun j hj => by
  rw [fs_ruleSite, List.getElem?_set_ne (fun e => hj (by rw [← e]; exact hk))]; exact h j hj
theorem mA.ruleSite (h : mA Z S S1) (hk : ¬ 24 ∈ Z) : S1.ruleSite = S.ruleSite := Sum.inl.inj (Option.some.inj (show some (.inl S1.ruleSite : MFv) = some (.inl S.ruleSite) from h 24 hk))
theorem fs_ruleText (S : MS) (v : Nat → Int32) : fls (S.s_ruleText v) = (fls S).set 25 (.inl v) := rfl
theorem mA.a_ruleText (h : mA Z S S1) (v : Nat → Int32) (hk : 25 ∈ Z) : mA Z S (S1.s_ruleText v) := fun j hj => by
  rw [fs_ruleText, List.getElem?_set_ne (fun e => hj (by rw [← e]; exact hk))]; exact h j hj
theorem mA.ruleText (h : mA Z S S1) (hk : ¬ 25 ∈ Z) : S1.ruleText = S.ruleText := Sum.inl.inj (Option.some.inj (show some (.inl S1.ruleText : MFv) = some (.inl S.ruleText) from h 25 hk))
theorem fs_ruleCount (S : MS) (v : Nat) : fls (S.s_ruleCount v) = (fls S).set 26 (.inr (.inr (.inl v))) := rfl
theorem mA.a_ruleCount (h : mA Z S S1) (v : Nat) (hk : 26 ∈ Z) : mA Z S (S1.s_ruleCount v) := fun j hj => by
  rw [fs_ruleCount, List.getElem?_set_ne (fun e => hj (by rw [← e]; exact hk))]; exact h j hj
theorem mA.ruleCount (h : mA Z S S1) (hk : ¬ 26 ∈ Z) : S1.ruleCount = S.ruleCount := Sum.inl.inj (Sum.inr.inj (Sum.inr.inj (Option.some.inj (show some (.inr (.inr (.inl S1.ruleCount)) : MFv) = some (.inr (.inr (.inl S.ruleCount))) from h 26 hk))))
theorem fs_key (S : MS) (v : Option Nat) : fls (S.s_key v) = (fls S).set 27 (.inr (.inr (.inr (.inl v)))) := rfl
theorem mA.a_key (h : mA Z S S1) (v : Option Nat) (hk : 27 ∈ Z) : mA Z S (S1.s_key v) := fun j hj => by
  rw [fs_key, List.getElem?_set_ne (fun e => hj (by rw [← e]; exact hk))]; exact h j hj
theorem mA.key (h : mA Z S S1) (hk : ¬ 27 ∈ Z) : S1.key = S.key := Sum.inl.inj (Sum.inr.inj (Sum.inr.inj (Sum.inr.inj (Option.some.inj (show some (.inr (.inr (.inr (.inl S1.key))) : MFv) = some (.inr (.inr (.inr (.inl S.key)))) from h 27 hk)))))
theorem fs_valueFrom (S : MS) (v : Nat) : fls (S.s_valueFrom v) = (fls S).set 28 (.inr (.inr (.inl v))) := rfl
theorem mA.a_valueFrom (h : mA Z S S1) (v : Nat) (hk : 28 ∈ Z) : mA Z S (S1.s_valueFrom v) := fun j hj => by
  rw [fs_valueFrom, List.getElem?_set_ne (fun e => hj (by rw [← e]; exact hk))]; exact h j hj
theorem mA.valueFrom (h : mA Z S S1) (hk : ¬ 28 ∈ Z) : S1.valueFrom = S.valueFrom := Sum.inl.inj (Sum.inr.inj (Sum.inr.inj (Option.some.inj (show some (.inr (.inr (.inl S1.valueFrom)) : MFv) = some (.inr (.inr (.inl S.valueFrom))) from h 28 hk))))
theorem fs_valueEnd (S : MS) (v : Nat) : fls (S.s_valueEnd v) = (fls S).set 29 (.inr (.inr (.inl v))) := rfl
theorem mA.a_valueEnd (h : mA Z S S1) (v : Nat) (hk : 29 ∈ Z) : mA Z S (S1.s_valueEnd v) := fun j hj => by
  rw [fs_valueEnd, List.getElem?_set_ne (fun e => hj (by rw [← e]; exact hk))]; exact h j hj
theorem mA.valueEnd (h : mA Z S S1) (hk : ¬ 29 ∈ Z) : S1.valueEnd = S.valueEnd := Sum.inl.inj (Sum.inr.inj (Sum.inr.inj (Option.some.inj (show some (.inr (.inr (.inl S1.valueEnd)) : MFv) = some (.inr (.inr (.inl S.valueEnd))) from h 29 hk))))
theorem fs_pattern (S : MS) (v : Nat → Int32) : fls (S.s_pattern v) = (fls S).set 30 (.inl v) := rfl
theorem mA.a_pattern (h : mA Z S S1) (v : Nat → Int32) (hk : 30 ∈ Z) : mA Z S (S1.s_pattern v) := fun j hj => by
  rw [fs_pattern, List.getElem?_set_ne (fun e => hj (by rw [← e]; exact hk))]; exact h j hj
theorem mA.pattern (h : mA Z S S1) (hk : ¬ 30 ∈ Z) : S1.pattern = S.pattern := Sum.inl.inj (Option.some.inj (show some (.inl S1.pattern : MFv) = some (.inl S.pattern) from h 30 hk))
theorem fs_patternLength (S : MS) (v : Nat) : fls (S.s_patternLength v) = (fls S).set 31 (.inr (.inr (.inl v))) := rfl
theorem mA.a_patternLength (h : mA Z S S1) (v : Nat) (hk : 31 ∈ Z) : mA Z S (S1.s_patternLength v) := fun j hj => by
  rw [fs_patternLength, List.getElem?_set_ne (fun e => hj (by rw [← e]; exact hk))]; exact h j hj
theorem mA.patternLength (h : mA Z S S1) (hk : ¬ 31 ∈ Z) : S1.patternLength = S.patternLength := Sum.inl.inj (Sum.inr.inj (Sum.inr.inj (Option.some.inj (show some (.inr (.inr (.inl S1.patternLength)) : MFv) = some (.inr (.inr (.inl S.patternLength))) from h 31 hk))))
theorem fs_reached (S : MS) (v : Nat → Int32) : fls (S.s_reached v) = (fls S).set 32 (.inl v) := rfl
theorem mA.a_reached (h : mA Z S S1) (v : Nat → Int32) (hk : 32 ∈ Z) : mA Z S (S1.s_reached v) := fun j hj => by
  rw [fs_reached, List.getElem?_set_ne (fun e => hj (by rw [← e]; exact hk))]; exact h j hj
theorem mA.reached (h : mA Z S S1) (hk : ¬ 32 ∈ Z) : S1.reached = S.reached := Sum.inl.inj (Option.some.inj (show some (.inl S1.reached : MFv) = some (.inl S.reached) from h 32 hk))
theorem fs_holding (S : MS) (v : Nat) : fls (S.s_holding v) = (fls S).set 33 (.inr (.inr (.inl v))) := rfl
theorem mA.a_holding (h : mA Z S S1) (v : Nat) (hk : 33 ∈ Z) : mA Z S (S1.s_holding v) := fun j hj => by
  rw [fs_holding, List.getElem?_set_ne (fun e => hj (by rw [← e]; exact hk))]; exact h j hj
theorem mA.holding (h : mA Z S S1) (hk : ¬ 33 ∈ Z) : S1.holding = S.holding := Sum.inl.inj (Sum.inr.inj (Sum.inr.inj (Option.some.inj (show some (.inr (.inr (.inl S1.holding)) : MFv) = some (.inr (.inr (.inl S.holding))) from h 33 hk))))
theorem fs_isAllowed (S : MS) (v : Bool) : fls (S.s_isAllowed v) = (fls S).set 34 (.inr (.inr (.inr (.inr (.inl v))))) := rfl
theorem mA.a_isAllowed (h : mA Z S S1) (v : Bool) (hk : 34 ∈ Z) : mA Z S (S1.s_isAllowed v) := fun j hj => by
  rw [fs_isAllowed, List.getElem?_set_ne (fun e => hj (by rw [← e]; exact hk))]; exact h j hj
theorem mA.isAllowed (h : mA Z S S1) (hk : ¬ 34 ∈ Z) : S1.isAllowed = S.isAllowed := Sum.inl.inj (Sum.inr.inj (Sum.inr.inj (Sum.inr.inj (Sum.inr.inj (Option.some.inj (show some (.inr (.inr (.inr (.inr (.inl S1.isAllowed)))) : MFv) = some (.inr (.inr (.inr (.inr (.inl S.isAllowed))))) from h 34 hk))))))
theorem fs_decoded (S : MS) (v : Nat → Int32) : fls (S.s_decoded v) = (fls S).set 35 (.inl v) := rfl
theorem mA.a_decoded (h : mA Z S S1) (v : Nat → Int32) (hk : 35 ∈ Z) : mA Z S (S1.s_decoded v) := fun j hj => by
  rw [fs_decoded, List.getElem?_set_ne (fun e => hj (by rw [← e]; exact hk))]; exact h j hj
theorem mA.decoded (h : mA Z S S1) (hk : ¬ 35 ∈ Z) : S1.decoded = S.decoded := Sum.inl.inj (Option.some.inj (show some (.inl S1.decoded : MFv) = some (.inl S.decoded) from h 35 hk))
theorem fs_decodedLength (S : MS) (v : Nat) : fls (S.s_decodedLength v) = (fls S).set 36 (.inr (.inr (.inl v))) := rfl
theorem mA.a_decodedLength (h : mA Z S S1) (v : Nat) (hk : 36 ∈ Z) : mA Z S (S1.s_decodedLength v) := fun j hj => by
  rw [fs_decodedLength, List.getElem?_set_ne (fun e => hj (by rw [← e]; exact hk))]; exact h j hj
theorem mA.decodedLength (h : mA Z S S1) (hk : ¬ 36 ∈ Z) : S1.decodedLength = S.decodedLength := Sum.inl.inj (Sum.inr.inj (Sum.inr.inj (Option.some.inj (show some (.inr (.inr (.inl S1.decodedLength)) : MFv) = some (.inr (.inr (.inl S.decodedLength))) from h 36 hk))))
theorem fs_words (S : MS) (v : Nat → Int32) : fls (S.s_words v) = (fls S).set 37 (.inl v) := rfl
theorem mA.a_words (h : mA Z S S1) (v : Nat → Int32) (hk : 37 ∈ Z) : mA Z S (S1.s_words v) := fun j hj => by
  rw [fs_words, List.getElem?_set_ne (fun e => hj (by rw [← e]; exact hk))]; exact h j hj
theorem mA.words (h : mA Z S S1) (hk : ¬ 37 ∈ Z) : S1.words = S.words := Sum.inl.inj (Option.some.inj (show some (.inl S1.words : MFv) = some (.inl S.words) from h 37 hk))
theorem fs_wordAt (S : MS) (v : Nat → Int32) : fls (S.s_wordAt v) = (fls S).set 38 (.inl v) := rfl
theorem mA.a_wordAt (h : mA Z S S1) (v : Nat → Int32) (hk : 38 ∈ Z) : mA Z S (S1.s_wordAt v) := fun j hj => by
  rw [fs_wordAt, List.getElem?_set_ne (fun e => hj (by rw [← e]; exact hk))]; exact h j hj
theorem mA.wordAt (h : mA Z S S1) (hk : ¬ 38 ∈ Z) : S1.wordAt = S.wordAt := Sum.inl.inj (Option.some.inj (show some (.inl S1.wordAt : MFv) = some (.inl S.wordAt) from h 38 hk))
theorem fs_wordLength (S : MS) (v : Nat → Int32) : fls (S.s_wordLength v) = (fls S).set 39 (.inl v) := rfl
theorem mA.a_wordLength (h : mA Z S S1) (v : Nat → Int32) (hk : 39 ∈ Z) : mA Z S (S1.s_wordLength v) := fun j hj => by
  rw [fs_wordLength, List.getElem?_set_ne (fun e => hj (by rw [← e]; exact hk))]; exact h j hj
theorem mA.wordLength (h : mA Z S S1) (hk : ¬ 39 ∈ Z) : S1.wordLength = S.wordLength := Sum.inl.inj (Option.some.inj (show some (.inl S1.wordLength : MFv) = some (.inl S.wordLength) from h 39 hk))
theorem fs_wordCount (S : MS) (v : Nat) : fls (S.s_wordCount v) = (fls S).set 40 (.inr (.inr (.inl v))) := rfl
theorem mA.a_wordCount (h : mA Z S S1) (v : Nat) (hk : 40 ∈ Z) : mA Z S (S1.s_wordCount v) := fun j hj => by
  rw [fs_wordCount, List.getElem?_set_ne (fun e => hj (by rw [← e]; exact hk))]; exact h j hj
theorem mA.wordCount (h : mA Z S S1) (hk : ¬ 40 ∈ Z) : S1.wordCount = S.wordCount := Sum.inl.inj (Sum.inr.inj (Sum.inr.inj (Option.some.inj (show some (.inr (.inr (.inl S1.wordCount)) : MFv) = some (.inr (.inr (.inl S.wordCount))) from h 40 hk))))
theorem fs_values (S : MS) (v : Nat → Int32) : fls (S.s_values v) = (fls S).set 41 (.inl v) := rfl
theorem mA.a_values (h : mA Z S S1) (v : Nat → Int32) (hk : 41 ∈ Z) : mA Z S (S1.s_values v) := fun j hj => by
  rw [fs_values, List.getElem?_set_ne (fun e => hj (by rw [← e]; exact hk))]; exact h j hj
theorem mA.values (h : mA Z S S1) (hk : ¬ 41 ∈ Z) : S1.values = S.values := Sum.inl.inj (Option.some.inj (show some (.inl S1.values : MFv) = some (.inl S.values) from h 41 hk))
theorem fs_valueAt (S : MS) (v : Nat → Int32) : fls (S.s_valueAt v) = (fls S).set 42 (.inl v) := rfl
theorem mA.a_valueAt (h : mA Z S S1) (v : Nat → Int32) (hk : 42 ∈ Z) : mA Z S (S1.s_valueAt v) := fun j hj => by
  rw [fs_valueAt, List.getElem?_set_ne (fun e => hj (by rw [← e]; exact hk))]; exact h j hj
theorem mA.valueAt (h : mA Z S S1) (hk : ¬ 42 ∈ Z) : S1.valueAt = S.valueAt := Sum.inl.inj (Option.some.inj (show some (.inl S1.valueAt : MFv) = some (.inl S.valueAt) from h 42 hk))
theorem fs_valueLength (S : MS) (v : Nat → Int32) : fls (S.s_valueLength v) = (fls S).set 43 (.inl v) := rfl
theorem mA.a_valueLength (h : mA Z S S1) (v : Nat → Int32) (hk : 43 ∈ Z) : mA Z S (S1.s_valueLength v) := fun j hj => by
  rw [fs_valueLength, List.getElem?_set_ne (fun e => hj (by rw [← e]; exact hk))]; exact h j hj
theorem mA.valueLength (h : mA Z S S1) (hk : ¬ 43 ∈ Z) : S1.valueLength = S.valueLength := Sum.inl.inj (Option.some.inj (show some (.inl S1.valueLength : MFv) = some (.inl S.valueLength) from h 43 hk))
theorem fs_valueCount (S : MS) (v : Nat) : fls (S.s_valueCount v) = (fls S).set 44 (.inr (.inr (.inl v))) := rfl
theorem mA.a_valueCount (h : mA Z S S1) (v : Nat) (hk : 44 ∈ Z) : mA Z S (S1.s_valueCount v) := fun j hj => by
  rw [fs_valueCount, List.getElem?_set_ne (fun e => hj (by rw [← e]; exact hk))]; exact h j hj
theorem mA.valueCount (h : mA Z S S1) (hk : ¬ 44 ∈ Z) : S1.valueCount = S.valueCount := Sum.inl.inj (Sum.inr.inj (Sum.inr.inj (Option.some.inj (show some (.inr (.inr (.inl S1.valueCount)) : MFv) = some (.inr (.inr (.inl S.valueCount))) from h 44 hk))))
theorem fs_pageBase (S : MS) (v : Nat) : fls (S.s_pageBase v) = (fls S).set 45 (.inr (.inr (.inl v))) := rfl
theorem mA.a_pageBase (h : mA Z S S1) (v : Nat) (hk : 45 ∈ Z) : mA Z S (S1.s_pageBase v) := fun j hj => by
  rw [fs_pageBase, List.getElem?_set_ne (fun e => hj (by rw [← e]; exact hk))]; exact h j hj
theorem mA.pageBase (h : mA Z S S1) (hk : ¬ 45 ∈ Z) : S1.pageBase = S.pageBase := Sum.inl.inj (Sum.inr.inj (Sum.inr.inj (Option.some.inj (show some (.inr (.inr (.inl S1.pageBase)) : MFv) = some (.inr (.inr (.inl S.pageBase))) from h 45 hk))))
theorem fs_hasBase (S : MS) (v : Bool) : fls (S.s_hasBase v) = (fls S).set 46 (.inr (.inr (.inr (.inr (.inl v))))) := rfl
theorem mA.a_hasBase (h : mA Z S S1) (v : Bool) (hk : 46 ∈ Z) : mA Z S (S1.s_hasBase v) := fun j hj => by
  rw [fs_hasBase, List.getElem?_set_ne (fun e => hj (by rw [← e]; exact hk))]; exact h j hj
theorem mA.hasBase (h : mA Z S S1) (hk : ¬ 46 ∈ Z) : S1.hasBase = S.hasBase := Sum.inl.inj (Sum.inr.inj (Sum.inr.inj (Sum.inr.inj (Sum.inr.inj (Option.some.inj (show some (.inr (.inr (.inr (.inr (.inl S1.hasBase)))) : MFv) = some (.inr (.inr (.inr (.inr (.inl S.hasBase))))) from h 46 hk))))))
theorem fs_byteValue (S : MS) (v : Int32) : fls (S.s_byteValue v) = (fls S).set 47 (.inr (.inr (.inr (.inr (.inr v))))) := rfl
theorem mA.a_byteValue (h : mA Z S S1) (v : Int32) (hk : 47 ∈ Z) : mA Z S (S1.s_byteValue v) := fun j hj => by
  rw [fs_byteValue, List.getElem?_set_ne (fun e => hj (by rw [← e]; exact hk))]; exact h j hj
theorem mA.byteValue (h : mA Z S S1) (hk : ¬ 47 ∈ Z) : S1.byteValue = S.byteValue := Sum.inr.inj (Sum.inr.inj (Sum.inr.inj (Sum.inr.inj (Sum.inr.inj (Option.some.inj (show some (.inr (.inr (.inr (.inr (.inr S1.byteValue)))) : MFv) = some (.inr (.inr (.inr (.inr (.inr S.byteValue))))) from h 47 hk))))))
theorem fs_hrefFrom (S : MS) (v : Nat) : fls (S.s_hrefFrom v) = (fls S).set 48 (.inr (.inr (.inl v))) := rfl
theorem mA.a_hrefFrom (h : mA Z S S1) (v : Nat) (hk : 48 ∈ Z) : mA Z S (S1.s_hrefFrom v) := fun j hj => by
  rw [fs_hrefFrom, List.getElem?_set_ne (fun e => hj (by rw [← e]; exact hk))]; exact h j hj
theorem mA.hrefFrom (h : mA Z S S1) (hk : ¬ 48 ∈ Z) : S1.hrefFrom = S.hrefFrom := Sum.inl.inj (Sum.inr.inj (Sum.inr.inj (Option.some.inj (show some (.inr (.inr (.inl S1.hrefFrom)) : MFv) = some (.inr (.inr (.inl S.hrefFrom))) from h 48 hk))))
theorem fs_hrefEnd (S : MS) (v : Nat) : fls (S.s_hrefEnd v) = (fls S).set 49 (.inr (.inr (.inl v))) := rfl
theorem mA.a_hrefEnd (h : mA Z S S1) (v : Nat) (hk : 49 ∈ Z) : mA Z S (S1.s_hrefEnd v) := fun j hj => by
  rw [fs_hrefEnd, List.getElem?_set_ne (fun e => hj (by rw [← e]; exact hk))]; exact h j hj
theorem mA.hrefEnd (h : mA Z S S1) (hk : ¬ 49 ∈ Z) : S1.hrefEnd = S.hrefEnd := Sum.inl.inj (Sum.inr.inj (Sum.inr.inj (Option.some.inj (show some (.inr (.inr (.inl S1.hrefEnd)) : MFv) = some (.inr (.inr (.inl S.hrefEnd))) from h 49 hk))))
theorem fs_hasHref (S : MS) (v : Bool) : fls (S.s_hasHref v) = (fls S).set 50 (.inr (.inr (.inr (.inr (.inl v))))) := rfl
theorem mA.a_hasHref (h : mA Z S S1) (v : Bool) (hk : 50 ∈ Z) : mA Z S (S1.s_hasHref v) := fun j hj => by
  rw [fs_hasHref, List.getElem?_set_ne (fun e => hj (by rw [← e]; exact hk))]; exact h j hj
theorem mA.hasHref (h : mA Z S S1) (hk : ¬ 50 ∈ Z) : S1.hasHref = S.hasHref := Sum.inl.inj (Sum.inr.inj (Sum.inr.inj (Sum.inr.inj (Sum.inr.inj (Option.some.inj (show some (.inr (.inr (.inr (.inr (.inl S1.hasHref)))) : MFv) = some (.inr (.inr (.inr (.inr (.inl S.hasHref))))) from h 50 hk))))))
theorem fs_pageAddress (S : MS) (v : Nat → Int32) : fls (S.s_pageAddress v) = (fls S).set 51 (.inl v) := rfl
theorem mA.a_pageAddress (h : mA Z S S1) (v : Nat → Int32) (hk : 51 ∈ Z) : mA Z S (S1.s_pageAddress v) := fun j hj => by
  rw [fs_pageAddress, List.getElem?_set_ne (fun e => hj (by rw [← e]; exact hk))]; exact h j hj
theorem mA.pageAddress (h : mA Z S S1) (hk : ¬ 51 ∈ Z) : S1.pageAddress = S.pageAddress := Sum.inl.inj (Option.some.inj (show some (.inl S1.pageAddress : MFv) = some (.inl S.pageAddress) from h 51 hk))
theorem fs_pageStatus (S : MS) (v : Nat → Int32) : fls (S.s_pageStatus v) = (fls S).set 52 (.inl v) := rfl
theorem mA.a_pageStatus (h : mA Z S S1) (v : Nat → Int32) (hk : 52 ∈ Z) : mA Z S (S1.s_pageStatus v) := fun j hj => by
  rw [fs_pageStatus, List.getElem?_set_ne (fun e => hj (by rw [← e]; exact hk))]; exact h j hj
theorem mA.pageStatus (h : mA Z S S1) (hk : ¬ 52 ∈ Z) : S1.pageStatus = S.pageStatus := Sum.inl.inj (Option.some.inj (show some (.inl S1.pageStatus : MFv) = some (.inl S.pageStatus) from h 52 hk))
theorem fs_pageText (S : MS) (v : Nat → Int32) : fls (S.s_pageText v) = (fls S).set 53 (.inl v) := rfl
theorem mA.a_pageText (h : mA Z S S1) (v : Nat → Int32) (hk : 53 ∈ Z) : mA Z S (S1.s_pageText v) := fun j hj => by
  rw [fs_pageText, List.getElem?_set_ne (fun e => hj (by rw [← e]; exact hk))]; exact h j hj
theorem mA.pageText (h : mA Z S S1) (hk : ¬ 53 ∈ Z) : S1.pageText = S.pageText := Sum.inl.inj (Option.some.inj (show some (.inl S1.pageText : MFv) = some (.inl S.pageText) from h 53 hk))
theorem fs_pageCount (S : MS) (v : Nat) : fls (S.s_pageCount v) = (fls S).set 54 (.inr (.inr (.inl v))) := rfl
theorem mA.a_pageCount (h : mA Z S S1) (v : Nat) (hk : 54 ∈ Z) : mA Z S (S1.s_pageCount v) := fun j hj => by
  rw [fs_pageCount, List.getElem?_set_ne (fun e => hj (by rw [← e]; exact hk))]; exact h j hj
theorem mA.pageCount (h : mA Z S S1) (hk : ¬ 54 ∈ Z) : S1.pageCount = S.pageCount := Sum.inl.inj (Sum.inr.inj (Sum.inr.inj (Option.some.inj (show some (.inr (.inr (.inl S1.pageCount)) : MFv) = some (.inr (.inr (.inl S.pageCount))) from h 54 hk))))
theorem fs_links (S : MS) (v : Nat → Int32) : fls (S.s_links v) = (fls S).set 55 (.inl v) := rfl
theorem mA.a_links (h : mA Z S S1) (v : Nat → Int32) (hk : 55 ∈ Z) : mA Z S (S1.s_links v) := fun j hj => by
  rw [fs_links, List.getElem?_set_ne (fun e => hj (by rw [← e]; exact hk))]; exact h j hj
theorem mA.links (h : mA Z S S1) (hk : ¬ 55 ∈ Z) : S1.links = S.links := Sum.inl.inj (Option.some.inj (show some (.inl S1.links : MFv) = some (.inl S.links) from h 55 hk))
theorem fs_linkCount (S : MS) (v : Nat) : fls (S.s_linkCount v) = (fls S).set 56 (.inr (.inr (.inl v))) := rfl
theorem mA.a_linkCount (h : mA Z S S1) (v : Nat) (hk : 56 ∈ Z) : mA Z S (S1.s_linkCount v) := fun j hj => by
  rw [fs_linkCount, List.getElem?_set_ne (fun e => hj (by rw [← e]; exact hk))]; exact h j hj
theorem mA.linkCount (h : mA Z S S1) (hk : ¬ 56 ∈ Z) : S1.linkCount = S.linkCount := Sum.inl.inj (Sum.inr.inj (Sum.inr.inj (Option.some.inj (show some (.inr (.inr (.inl S1.linkCount)) : MFv) = some (.inr (.inr (.inl S.linkCount))) from h 56 hk))))
theorem fs_told (S : MS) (v : Nat → Int32) : fls (S.s_told v) = (fls S).set 57 (.inl v) := rfl
theorem mA.a_told (h : mA Z S S1) (v : Nat → Int32) (hk : 57 ∈ Z) : mA Z S (S1.s_told v) := fun j hj => by
  rw [fs_told, List.getElem?_set_ne (fun e => hj (by rw [← e]; exact hk))]; exact h j hj
theorem mA.told (h : mA Z S S1) (hk : ¬ 57 ∈ Z) : S1.told = S.told := Sum.inl.inj (Option.some.inj (show some (.inl S1.told : MFv) = some (.inl S.told) from h 57 hk))
theorem fs_held (S : MS) (v : Nat → Int32) : fls (S.s_held v) = (fls S).set 58 (.inl v) := rfl
theorem mA.a_held (h : mA Z S S1) (v : Nat → Int32) (hk : 58 ∈ Z) : mA Z S (S1.s_held v) := fun j hj => by
  rw [fs_held, List.getElem?_set_ne (fun e => hj (by rw [← e]; exact hk))]; exact h j hj
theorem mA.held (h : mA Z S S1) (hk : ¬ 58 ∈ Z) : S1.held = S.held := Sum.inl.inj (Option.some.inj (show some (.inl S1.held : MFv) = some (.inl S.held) from h 58 hk))
theorem fs_seeds (S : MS) (v : Nat → Int32) : fls (S.s_seeds v) = (fls S).set 59 (.inl v) := rfl
theorem mA.a_seeds (h : mA Z S S1) (v : Nat → Int32) (hk : 59 ∈ Z) : mA Z S (S1.s_seeds v) := fun j hj => by
  rw [fs_seeds, List.getElem?_set_ne (fun e => hj (by rw [← e]; exact hk))]; exact h j hj
theorem mA.seeds (h : mA Z S S1) (hk : ¬ 59 ∈ Z) : S1.seeds = S.seeds := Sum.inl.inj (Option.some.inj (show some (.inl S1.seeds : MFv) = some (.inl S.seeds) from h 59 hk))
theorem fs_seedCount (S : MS) (v : Nat) : fls (S.s_seedCount v) = (fls S).set 60 (.inr (.inr (.inl v))) := rfl
theorem mA.a_seedCount (h : mA Z S S1) (v : Nat) (hk : 60 ∈ Z) : mA Z S (S1.s_seedCount v) := fun j hj => by
  rw [fs_seedCount, List.getElem?_set_ne (fun e => hj (by rw [← e]; exact hk))]; exact h j hj
theorem mA.seedCount (h : mA Z S S1) (hk : ¬ 60 ∈ Z) : S1.seedCount = S.seedCount := Sum.inl.inj (Sum.inr.inj (Sum.inr.inj (Option.some.inj (show some (.inr (.inr (.inl S1.seedCount)) : MFv) = some (.inr (.inr (.inl S.seedCount))) from h 60 hk))))
theorem fs_isStarted (S : MS) (v : Bool) : fls (S.s_isStarted v) = (fls S).set 61 (.inr (.inr (.inr (.inr (.inl v))))) := rfl
theorem mA.a_isStarted (h : mA Z S S1) (v : Bool) (hk : 61 ∈ Z) : mA Z S (S1.s_isStarted v) := fun j hj => by
  rw [fs_isStarted, List.getElem?_set_ne (fun e => hj (by rw [← e]; exact hk))]; exact h j hj
theorem mA.isStarted (h : mA Z S S1) (hk : ¬ 61 ∈ Z) : S1.isStarted = S.isStarted := Sum.inl.inj (Sum.inr.inj (Sum.inr.inj (Sum.inr.inj (Sum.inr.inj (Option.some.inj (show some (.inr (.inr (.inr (.inr (.inl S1.isStarted)))) : MFv) = some (.inr (.inr (.inr (.inr (.inl S.isStarted))))) from h 61 hk))))))
theorem fs_clock (S : MS) (v : Nat) : fls (S.s_clock v) = (fls S).set 62 (.inr (.inr (.inl v))) := rfl
theorem mA.a_clock (h : mA Z S S1) (v : Nat) (hk : 62 ∈ Z) : mA Z S (S1.s_clock v) := fun j hj => by
  rw [fs_clock, List.getElem?_set_ne (fun e => hj (by rw [← e]; exact hk))]; exact h j hj
theorem mA.clock (h : mA Z S S1) (hk : ¬ 62 ∈ Z) : S1.clock = S.clock := Sum.inl.inj (Sum.inr.inj (Sum.inr.inj (Option.some.inj (show some (.inr (.inr (.inl S1.clock)) : MFv) = some (.inr (.inr (.inl S.clock))) from h 62 hk))))
theorem fs_known (S : MS) (v : Nat → Int32) : fls (S.s_known v) = (fls S).set 63 (.inl v) := rfl
theorem mA.a_known (h : mA Z S S1) (v : Nat → Int32) (hk : 63 ∈ Z) : mA Z S (S1.s_known v) := fun j hj => by
  rw [fs_known, List.getElem?_set_ne (fun e => hj (by rw [← e]; exact hk))]; exact h j hj
theorem mA.known (h : mA Z S S1) (hk : ¬ 63 ∈ Z) : S1.known = S.known := Sum.inl.inj (Option.some.inj (show some (.inl S1.known : MFv) = some (.inl S.known) from h 63 hk))
theorem fs_knownCount (S : MS) (v : Nat) : fls (S.s_knownCount v) = (fls S).set 64 (.inr (.inr (.inl v))) := rfl
theorem mA.a_knownCount (h : mA Z S S1) (v : Nat) (hk : 64 ∈ Z) : mA Z S (S1.s_knownCount v) := fun j hj => by
  rw [fs_knownCount, List.getElem?_set_ne (fun e => hj (by rw [← e]; exact hk))]; exact h j hj
theorem mA.knownCount (h : mA Z S S1) (hk : ¬ 64 ∈ Z) : S1.knownCount = S.knownCount := Sum.inl.inj (Sum.inr.inj (Sum.inr.inj (Option.some.inj (show some (.inr (.inr (.inl S1.knownCount)) : MFv) = some (.inr (.inr (.inl S.knownCount))) from h 64 hk))))
theorem fs_saved (S : MS) (v : Nat → Int32) : fls (S.s_saved v) = (fls S).set 65 (.inl v) := rfl
theorem mA.a_saved (h : mA Z S S1) (v : Nat → Int32) (hk : 65 ∈ Z) : mA Z S (S1.s_saved v) := fun j hj => by
  rw [fs_saved, List.getElem?_set_ne (fun e => hj (by rw [← e]; exact hk))]; exact h j hj
theorem mA.saved (h : mA Z S S1) (hk : ¬ 65 ∈ Z) : S1.saved = S.saved := Sum.inl.inj (Option.some.inj (show some (.inl S1.saved : MFv) = some (.inl S.saved) from h 65 hk))
theorem fs_savedCount (S : MS) (v : Nat) : fls (S.s_savedCount v) = (fls S).set 66 (.inr (.inr (.inl v))) := rfl
theorem mA.a_savedCount (h : mA Z S S1) (v : Nat) (hk : 66 ∈ Z) : mA Z S (S1.s_savedCount v) := fun j hj => by
  rw [fs_savedCount, List.getElem?_set_ne (fun e => hj (by rw [← e]; exact hk))]; exact h j hj
theorem mA.savedCount (h : mA Z S S1) (hk : ¬ 66 ∈ Z) : S1.savedCount = S.savedCount := Sum.inl.inj (Sum.inr.inj (Sum.inr.inj (Option.some.inj (show some (.inr (.inr (.inl S1.savedCount)) : MFv) = some (.inr (.inr (.inl S.savedCount))) from h 66 hk))))
theorem fs_askedSince (S : MS) (v : Nat) : fls (S.s_askedSince v) = (fls S).set 67 (.inr (.inr (.inl v))) := rfl
theorem mA.a_askedSince (h : mA Z S S1) (v : Nat) (hk : 67 ∈ Z) : mA Z S (S1.s_askedSince v) := fun j hj => by
  rw [fs_askedSince, List.getElem?_set_ne (fun e => hj (by rw [← e]; exact hk))]; exact h j hj
theorem mA.askedSince (h : mA Z S S1) (hk : ¬ 67 ∈ Z) : S1.askedSince = S.askedSince := Sum.inl.inj (Sum.inr.inj (Sum.inr.inj (Option.some.inj (show some (.inr (.inr (.inl S1.askedSince)) : MFv) = some (.inr (.inr (.inl S.askedSince))) from h 67 hk))))
theorem fs_asked (S : MS) (v : Nat) : fls (S.s_asked v) = (fls S).set 68 (.inr (.inr (.inl v))) := rfl
theorem mA.a_asked (h : mA Z S S1) (v : Nat) (hk : 68 ∈ Z) : mA Z S (S1.s_asked v) := fun j hj => by
  rw [fs_asked, List.getElem?_set_ne (fun e => hj (by rw [← e]; exact hk))]; exact h j hj
theorem mA.asked (h : mA Z S S1) (hk : ¬ 68 ∈ Z) : S1.asked = S.asked := Sum.inl.inj (Sum.inr.inj (Sum.inr.inj (Option.some.inj (show some (.inr (.inr (.inl S1.asked)) : MFv) = some (.inr (.inr (.inl S.asked))) from h 68 hk))))
theorem fs_askedClock (S : MS) (v : Nat → Int32) : fls (S.s_askedClock v) = (fls S).set 69 (.inl v) := rfl
theorem mA.a_askedClock (h : mA Z S S1) (v : Nat → Int32) (hk : 69 ∈ Z) : mA Z S (S1.s_askedClock v) := fun j hj => by
  rw [fs_askedClock, List.getElem?_set_ne (fun e => hj (by rw [← e]; exact hk))]; exact h j hj
theorem mA.askedClock (h : mA Z S S1) (hk : ¬ 69 ∈ Z) : S1.askedClock = S.askedClock := Sum.inl.inj (Option.some.inj (show some (.inl S1.askedClock : MFv) = some (.inl S.askedClock) from h 69 hk))
theorem fs_askedAddress (S : MS) (v : Nat → Int32) : fls (S.s_askedAddress v) = (fls S).set 70 (.inl v) := rfl
theorem mA.a_askedAddress (h : mA Z S S1) (v : Nat → Int32) (hk : 70 ∈ Z) : mA Z S (S1.s_askedAddress v) := fun j hj => by
  rw [fs_askedAddress, List.getElem?_set_ne (fun e => hj (by rw [← e]; exact hk))]; exact h j hj
theorem mA.askedAddress (h : mA Z S S1) (hk : ¬ 70 ∈ Z) : S1.askedAddress = S.askedAddress := Sum.inl.inj (Option.some.inj (show some (.inl S1.askedAddress : MFv) = some (.inl S.askedAddress) from h 70 hk))
theorem fs_siteOf (S : MS) (v : Nat → Int32) : fls (S.s_siteOf v) = (fls S).set 71 (.inl v) := rfl
theorem mA.a_siteOf (h : mA Z S S1) (v : Nat → Int32) (hk : 71 ∈ Z) : mA Z S (S1.s_siteOf v) := fun j hj => by
  rw [fs_siteOf, List.getElem?_set_ne (fun e => hj (by rw [← e]; exact hk))]; exact h j hj
theorem mA.siteOf (h : mA Z S S1) (hk : ¬ 71 ∈ Z) : S1.siteOf = S.siteOf := Sum.inl.inj (Option.some.inj (show some (.inl S1.siteOf : MFv) = some (.inl S.siteOf) from h 71 hk))
theorem fs_siteTime (S : MS) (v : Nat → Int32) : fls (S.s_siteTime v) = (fls S).set 72 (.inl v) := rfl
theorem mA.a_siteTime (h : mA Z S S1) (v : Nat → Int32) (hk : 72 ∈ Z) : mA Z S (S1.s_siteTime v) := fun j hj => by
  rw [fs_siteTime, List.getElem?_set_ne (fun e => hj (by rw [← e]; exact hk))]; exact h j hj
theorem mA.siteTime (h : mA Z S S1) (hk : ¬ 72 ∈ Z) : S1.siteTime = S.siteTime := Sum.inl.inj (Option.some.inj (show some (.inl S1.siteTime : MFv) = some (.inl S.siteTime) from h 72 hk))
theorem fs_siteCount (S : MS) (v : Nat) : fls (S.s_siteCount v) = (fls S).set 73 (.inr (.inr (.inl v))) := rfl
theorem mA.a_siteCount (h : mA Z S S1) (v : Nat) (hk : 73 ∈ Z) : mA Z S (S1.s_siteCount v) := fun j hj => by
  rw [fs_siteCount, List.getElem?_set_ne (fun e => hj (by rw [← e]; exact hk))]; exact h j hj
theorem mA.siteCount (h : mA Z S S1) (hk : ¬ 73 ∈ Z) : S1.siteCount = S.siteCount := Sum.inl.inj (Sum.inr.inj (Sum.inr.inj (Option.some.inj (show some (.inr (.inr (.inl S1.siteCount)) : MFv) = some (.inr (.inr (.inl S.siteCount))) from h 73 hk))))
theorem fs_otherTime (S : MS) (v : Option Nat) : fls (S.s_otherTime v) = (fls S).set 74 (.inr (.inr (.inr (.inl v)))) := rfl
theorem mA.a_otherTime (h : mA Z S S1) (v : Option Nat) (hk : 74 ∈ Z) : mA Z S (S1.s_otherTime v) := fun j hj => by
  rw [fs_otherTime, List.getElem?_set_ne (fun e => hj (by rw [← e]; exact hk))]; exact h j hj
theorem mA.otherTime (h : mA Z S S1) (hk : ¬ 74 ∈ Z) : S1.otherTime = S.otherTime := Sum.inl.inj (Sum.inr.inj (Sum.inr.inj (Sum.inr.inj (Option.some.inj (show some (.inr (.inr (.inr (.inl S1.otherTime))) : MFv) = some (.inr (.inr (.inr (.inl S.otherTime)))) from h 74 hk)))))
theorem fs_documents (S : MS) (v : Nat) : fls (S.s_documents v) = (fls S).set 75 (.inr (.inr (.inl v))) := rfl
theorem mA.a_documents (h : mA Z S S1) (v : Nat) (hk : 75 ∈ Z) : mA Z S (S1.s_documents v) := fun j hj => by
  rw [fs_documents, List.getElem?_set_ne (fun e => hj (by rw [← e]; exact hk))]; exact h j hj
theorem mA.documents (h : mA Z S S1) (hk : ¬ 75 ∈ Z) : S1.documents = S.documents := Sum.inl.inj (Sum.inr.inj (Sum.inr.inj (Option.some.inj (show some (.inr (.inr (.inl S1.documents)) : MFv) = some (.inr (.inr (.inl S.documents))) from h 75 hk))))
theorem fs_documentAddress (S : MS) (v : Nat → Int32) : fls (S.s_documentAddress v) = (fls S).set 76 (.inl v) := rfl
theorem mA.a_documentAddress (h : mA Z S S1) (v : Nat → Int32) (hk : 76 ∈ Z) : mA Z S (S1.s_documentAddress v) := fun j hj => by
  rw [fs_documentAddress, List.getElem?_set_ne (fun e => hj (by rw [← e]; exact hk))]; exact h j hj
theorem mA.documentAddress (h : mA Z S S1) (hk : ¬ 76 ∈ Z) : S1.documentAddress = S.documentAddress := Sum.inl.inj (Option.some.inj (show some (.inl S1.documentAddress : MFv) = some (.inl S.documentAddress) from h 76 hk))
theorem fs_documentText (S : MS) (v : Nat → Int32) : fls (S.s_documentText v) = (fls S).set 77 (.inl v) := rfl
theorem mA.a_documentText (h : mA Z S S1) (v : Nat → Int32) (hk : 77 ∈ Z) : mA Z S (S1.s_documentText v) := fun j hj => by
  rw [fs_documentText, List.getElem?_set_ne (fun e => hj (by rw [← e]; exact hk))]; exact h j hj
theorem mA.documentText (h : mA Z S S1) (hk : ¬ 77 ∈ Z) : S1.documentText = S.documentText := Sum.inl.inj (Option.some.inj (show some (.inl S1.documentText : MFv) = some (.inl S.documentText) from h 77 hk))
theorem fs_documentNumber (S : MS) (v : Nat → Int32) : fls (S.s_documentNumber v) = (fls S).set 78 (.inl v) := rfl
theorem mA.a_documentNumber (h : mA Z S S1) (v : Nat → Int32) (hk : 78 ∈ Z) : mA Z S (S1.s_documentNumber v) := fun j hj => by
  rw [fs_documentNumber, List.getElem?_set_ne (fun e => hj (by rw [← e]; exact hk))]; exact h j hj
theorem mA.documentNumber (h : mA Z S S1) (hk : ¬ 78 ∈ Z) : S1.documentNumber = S.documentNumber := Sum.inl.inj (Option.some.inj (show some (.inl S1.documentNumber : MFv) = some (.inl S.documentNumber) from h 78 hk))
theorem fs_documentCopies (S : MS) (v : Nat → Int32) : fls (S.s_documentCopies v) = (fls S).set 79 (.inl v) := rfl
theorem mA.a_documentCopies (h : mA Z S S1) (v : Nat → Int32) (hk : 79 ∈ Z) : mA Z S (S1.s_documentCopies v) := fun j hj => by
  rw [fs_documentCopies, List.getElem?_set_ne (fun e => hj (by rw [← e]; exact hk))]; exact h j hj
theorem mA.documentCopies (h : mA Z S S1) (hk : ¬ 79 ∈ Z) : S1.documentCopies = S.documentCopies := Sum.inl.inj (Option.some.inj (show some (.inl S1.documentCopies : MFv) = some (.inl S.documentCopies) from h 79 hk))
theorem fs_documentWords (S : MS) (v : Nat → Int32) : fls (S.s_documentWords v) = (fls S).set 80 (.inl v) := rfl
theorem mA.a_documentWords (h : mA Z S S1) (v : Nat → Int32) (hk : 80 ∈ Z) : mA Z S (S1.s_documentWords v) := fun j hj => by
  rw [fs_documentWords, List.getElem?_set_ne (fun e => hj (by rw [← e]; exact hk))]; exact h j hj
theorem mA.documentWords (h : mA Z S S1) (hk : ¬ 80 ∈ Z) : S1.documentWords = S.documentWords := Sum.inl.inj (Option.some.inj (show some (.inl S1.documentWords : MFv) = some (.inl S.documentWords) from h 80 hk))
theorem fs_ranks (S : MS) (v : Nat → Int64) : fls (S.s_ranks v) = (fls S).set 81 (.inr (.inl v)) := rfl
theorem mA.a_ranks (h : mA Z S S1) (v : Nat → Int64) (hk : 81 ∈ Z) : mA Z S (S1.s_ranks v) := fun j hj => by
  rw [fs_ranks, List.getElem?_set_ne (fun e => hj (by rw [← e]; exact hk))]; exact h j hj
theorem mA.ranks (h : mA Z S S1) (hk : ¬ 81 ∈ Z) : S1.ranks = S.ranks := Sum.inl.inj (Sum.inr.inj (Option.some.inj (show some (.inr (.inl S1.ranks) : MFv) = some (.inr (.inl S.ranks)) from h 81 hk)))
theorem fs_nextRanks (S : MS) (v : Nat → Int64) : fls (S.s_nextRanks v) = (fls S).set 82 (.inr (.inl v)) := rfl
theorem mA.a_nextRanks (h : mA Z S S1) (v : Nat → Int64) (hk : 82 ∈ Z) : mA Z S (S1.s_nextRanks v) := fun j hj => by
  rw [fs_nextRanks, List.getElem?_set_ne (fun e => hj (by rw [← e]; exact hk))]; exact h j hj
theorem mA.nextRanks (h : mA Z S S1) (hk : ¬ 82 ∈ Z) : S1.nextRanks = S.nextRanks := Sum.inl.inj (Sum.inr.inj (Option.some.inj (show some (.inr (.inl S1.nextRanks) : MFv) = some (.inr (.inl S.nextRanks)) from h 82 hk)))
theorem fs_leads (S : MS) (v : Nat → Int32) : fls (S.s_leads v) = (fls S).set 83 (.inl v) := rfl
theorem mA.a_leads (h : mA Z S S1) (v : Nat → Int32) (hk : 83 ∈ Z) : mA Z S (S1.s_leads v) := fun j hj => by
  rw [fs_leads, List.getElem?_set_ne (fun e => hj (by rw [← e]; exact hk))]; exact h j hj
theorem mA.leads (h : mA Z S S1) (hk : ¬ 83 ∈ Z) : S1.leads = S.leads := Sum.inl.inj (Option.some.inj (show some (.inl S1.leads : MFv) = some (.inl S.leads) from h 83 hk))
theorem fs_hits (S : MS) (v : Nat) : fls (S.s_hits v) = (fls S).set 84 (.inr (.inr (.inl v))) := rfl
theorem mA.a_hits (h : mA Z S S1) (v : Nat) (hk : 84 ∈ Z) : mA Z S (S1.s_hits v) := fun j hj => by
  rw [fs_hits, List.getElem?_set_ne (fun e => hj (by rw [← e]; exact hk))]; exact h j hj
theorem mA.hits (h : mA Z S S1) (hk : ¬ 84 ∈ Z) : S1.hits = S.hits := Sum.inl.inj (Sum.inr.inj (Sum.inr.inj (Option.some.inj (show some (.inr (.inr (.inl S1.hits)) : MFv) = some (.inr (.inr (.inl S.hits))) from h 84 hk))))
theorem fs_hitDocument (S : MS) (v : Nat → Int32) : fls (S.s_hitDocument v) = (fls S).set 85 (.inl v) := rfl
theorem mA.a_hitDocument (h : mA Z S S1) (v : Nat → Int32) (hk : 85 ∈ Z) : mA Z S (S1.s_hitDocument v) := fun j hj => by
  rw [fs_hitDocument, List.getElem?_set_ne (fun e => hj (by rw [← e]; exact hk))]; exact h j hj
theorem mA.hitDocument (h : mA Z S S1) (hk : ¬ 85 ∈ Z) : S1.hitDocument = S.hitDocument := Sum.inl.inj (Option.some.inj (show some (.inl S1.hitDocument : MFv) = some (.inl S.hitDocument) from h 85 hk))
theorem fs_hitScore (S : MS) (v : Nat → Int64) : fls (S.s_hitScore v) = (fls S).set 86 (.inr (.inl v)) := rfl
theorem mA.a_hitScore (h : mA Z S S1) (v : Nat → Int64) (hk : 86 ∈ Z) : mA Z S (S1.s_hitScore v) := fun j hj => by
  rw [fs_hitScore, List.getElem?_set_ne (fun e => hj (by rw [← e]; exact hk))]; exact h j hj
theorem mA.hitScore (h : mA Z S S1) (hk : ¬ 86 ∈ Z) : S1.hitScore = S.hitScore := Sum.inl.inj (Sum.inr.inj (Option.some.inj (show some (.inr (.inl S1.hitScore) : MFv) = some (.inr (.inl S.hitScore)) from h 86 hk)))
theorem fs_question (S : MS) (v : Nat → Int32) : fls (S.s_question v) = (fls S).set 87 (.inl v) := rfl
theorem mA.a_question (h : mA Z S S1) (v : Nat → Int32) (hk : 87 ∈ Z) : mA Z S (S1.s_question v) := fun j hj => by
  rw [fs_question, List.getElem?_set_ne (fun e => hj (by rw [← e]; exact hk))]; exact h j hj
theorem mA.question (h : mA Z S S1) (hk : ¬ 87 ∈ Z) : S1.question = S.question := Sum.inl.inj (Option.some.inj (show some (.inl S1.question : MFv) = some (.inl S.question) from h 87 hk))
theorem fs_questionLength (S : MS) (v : Nat → Int32) : fls (S.s_questionLength v) = (fls S).set 88 (.inl v) := rfl
theorem mA.a_questionLength (h : mA Z S S1) (v : Nat → Int32) (hk : 88 ∈ Z) : mA Z S (S1.s_questionLength v) := fun j hj => by
  rw [fs_questionLength, List.getElem?_set_ne (fun e => hj (by rw [← e]; exact hk))]; exact h j hj
theorem mA.questionLength (h : mA Z S S1) (hk : ¬ 88 ∈ Z) : S1.questionLength = S.questionLength := Sum.inl.inj (Option.some.inj (show some (.inl S1.questionLength : MFv) = some (.inl S.questionLength) from h 88 hk))
theorem fs_questionCount (S : MS) (v : Nat) : fls (S.s_questionCount v) = (fls S).set 89 (.inr (.inr (.inl v))) := rfl
theorem mA.a_questionCount (h : mA Z S S1) (v : Nat) (hk : 89 ∈ Z) : mA Z S (S1.s_questionCount v) := fun j hj => by
  rw [fs_questionCount, List.getElem?_set_ne (fun e => hj (by rw [← e]; exact hk))]; exact h j hj
theorem mA.questionCount (h : mA Z S S1) (hk : ¬ 89 ∈ Z) : S1.questionCount = S.questionCount := Sum.inl.inj (Sum.inr.inj (Sum.inr.inj (Option.some.inj (show some (.inr (.inr (.inl S1.questionCount)) : MFv) = some (.inr (.inr (.inl S.questionCount))) from h 89 hk))))
end MAS
theorem jvA.m {S S1 : MS} (h : jvA S S1) : mA [27, 28, 29, 30, 31, 32, 33, 34] S S1
  | 0, _ => congrArg (fun z => some (.inl z : MFv)) h.coming
  | 1, _ => congrArg (fun z => some (.inr (.inr (.inl z)) : MFv)) h.size
  | 2, _ => congrArg (fun z => some (.inr (.inr (.inl z)) : MFv)) h.fault
  | 3, _ => congrArg (fun z => some (.inl z : MFv)) h.product
  | 4, _ => congrArg (fun z => some (.inr (.inr (.inl z)) : MFv)) h.productSize
  | 5, _ => congrArg (fun z => some (.inl z : MFv)) h.addresses
  | 6, _ => congrArg (fun z => some (.inl z : MFv)) h.addressAt
  | 7, _ => congrArg (fun z => some (.inl z : MFv)) h.addressLength
  | 8, _ => congrArg (fun z => some (.inr (.inr (.inl z)) : MFv)) h.addressCount
  | 9, _ => congrArg (fun z => some (.inl z : MFv)) h.made
  | 10, _ => congrArg (fun z => some (.inr (.inr (.inl z)) : MFv)) h.madeLength
  | 11, _ => congrArg (fun z => some (.inl z : MFv)) h.host
  | 12, _ => congrArg (fun z => some (.inl z : MFv)) h.path
  | 13, _ => congrArg (fun z => some (.inl z : MFv)) h.query
  | 14, _ => congrArg (fun z => some (.inl z : MFv)) h.neat
  | 15, _ => congrArg (fun z => some (.inl z : MFv)) h.marks
  | 16, _ => congrArg (fun z => some (.inr (.inr (.inl z)) : MFv)) h.hostLength
  | 17, _ => congrArg (fun z => some (.inr (.inr (.inl z)) : MFv)) h.pathLength
  | 18, _ => congrArg (fun z => some (.inr (.inr (.inr (.inl z))) : MFv)) h.queryLength
  | 19, _ => congrArg (fun z => some (.inl z : MFv)) h.texts
  | 20, _ => congrArg (fun z => some (.inr (.inr (.inl z)) : MFv)) h.textsEnd
  | 21, _ => congrArg (fun z => some (.inl z : MFv)) h.textAt
  | 22, _ => congrArg (fun z => some (.inl z : MFv)) h.textEnd
  | 23, _ => congrArg (fun z => some (.inr (.inr (.inl z)) : MFv)) h.textCount
  | 24, _ => congrArg (fun z => some (.inl z : MFv)) h.ruleSite
  | 25, _ => congrArg (fun z => some (.inl z : MFv)) h.ruleText
  | 26, _ => congrArg (fun z => some (.inr (.inr (.inl z)) : MFv)) h.ruleCount
  | 27, hk => absurd (by decide) hk
  | 28, hk => absurd (by decide) hk
  | 29, hk => absurd (by decide) hk
  | 30, hk => absurd (by decide) hk
  | 31, hk => absurd (by decide) hk
  | 32, hk => absurd (by decide) hk
  | 33, hk => absurd (by decide) hk
  | 34, hk => absurd (by decide) hk
  | 35, _ => congrArg (fun z => some (.inl z : MFv)) h.decoded
  | 36, _ => congrArg (fun z => some (.inr (.inr (.inl z)) : MFv)) h.decodedLength
  | 37, _ => congrArg (fun z => some (.inl z : MFv)) h.words
  | 38, _ => congrArg (fun z => some (.inl z : MFv)) h.wordAt
  | 39, _ => congrArg (fun z => some (.inl z : MFv)) h.wordLength
  | 40, _ => congrArg (fun z => some (.inr (.inr (.inl z)) : MFv)) h.wordCount
  | 41, _ => congrArg (fun z => some (.inl z : MFv)) h.values
  | 42, _ => congrArg (fun z => some (.inl z : MFv)) h.valueAt
  | 43, _ => congrArg (fun z => some (.inl z : MFv)) h.valueLength
  | 44, _ => congrArg (fun z => some (.inr (.inr (.inl z)) : MFv)) h.valueCount
  | 45, _ => congrArg (fun z => some (.inr (.inr (.inl z)) : MFv)) h.pageBase
  | 46, _ => congrArg (fun z => some (.inr (.inr (.inr (.inr (.inl z)))) : MFv)) h.hasBase
  | 47, _ => congrArg (fun z => some (.inr (.inr (.inr (.inr (.inr z)))) : MFv)) h.byteValue
  | 48, _ => congrArg (fun z => some (.inr (.inr (.inl z)) : MFv)) h.hrefFrom
  | 49, _ => congrArg (fun z => some (.inr (.inr (.inl z)) : MFv)) h.hrefEnd
  | 50, _ => congrArg (fun z => some (.inr (.inr (.inr (.inr (.inl z)))) : MFv)) h.hasHref
  | 51, _ => congrArg (fun z => some (.inl z : MFv)) h.pageAddress
  | 52, _ => congrArg (fun z => some (.inl z : MFv)) h.pageStatus
  | 53, _ => congrArg (fun z => some (.inl z : MFv)) h.pageText
  | 54, _ => congrArg (fun z => some (.inr (.inr (.inl z)) : MFv)) h.pageCount
  | 55, _ => congrArg (fun z => some (.inl z : MFv)) h.links
  | 56, _ => congrArg (fun z => some (.inr (.inr (.inl z)) : MFv)) h.linkCount
  | 57, _ => congrArg (fun z => some (.inl z : MFv)) h.told
  | 58, _ => congrArg (fun z => some (.inl z : MFv)) h.held
  | 59, _ => congrArg (fun z => some (.inl z : MFv)) h.seeds
  | 60, _ => congrArg (fun z => some (.inr (.inr (.inl z)) : MFv)) h.seedCount
  | 61, _ => congrArg (fun z => some (.inr (.inr (.inr (.inr (.inl z)))) : MFv)) h.isStarted
  | 62, _ => congrArg (fun z => some (.inr (.inr (.inl z)) : MFv)) h.clock
  | 63, _ => congrArg (fun z => some (.inl z : MFv)) h.known
  | 64, _ => congrArg (fun z => some (.inr (.inr (.inl z)) : MFv)) h.knownCount
  | 65, _ => congrArg (fun z => some (.inl z : MFv)) h.saved
  | 66, _ => congrArg (fun z => some (.inr (.inr (.inl z)) : MFv)) h.savedCount
  | 67, _ => congrArg (fun z => some (.inr (.inr (.inl z)) : MFv)) h.askedSince
  | 68, _ => congrArg (fun z => some (.inr (.inr (.inl z)) : MFv)) h.asked
  | 69, _ => congrArg (fun z => some (.inl z : MFv)) h.askedClock
  | 70, _ => congrArg (fun z => some (.inl z : MFv)) h.askedAddress
  | 71, _ => congrArg (fun z => some (.inl z : MFv)) h.siteOf
  | 72, _ => congrArg (fun z => some (.inl z : MFv)) h.siteTime
  | 73, _ => congrArg (fun z => some (.inr (.inr (.inl z)) : MFv)) h.siteCount
  | 74, _ => congrArg (fun z => some (.inr (.inr (.inr (.inl z))) : MFv)) h.otherTime
  | 75, _ => congrArg (fun z => some (.inr (.inr (.inl z)) : MFv)) h.documents
  | 76, _ => congrArg (fun z => some (.inl z : MFv)) h.documentAddress
  | 77, _ => congrArg (fun z => some (.inl z : MFv)) h.documentText
  | 78, _ => congrArg (fun z => some (.inl z : MFv)) h.documentNumber
  | 79, _ => congrArg (fun z => some (.inl z : MFv)) h.documentCopies
  | 80, _ => congrArg (fun z => some (.inl z : MFv)) h.documentWords
  | 81, _ => congrArg (fun z => some (.inr (.inl z) : MFv)) h.ranks
  | 82, _ => congrArg (fun z => some (.inr (.inl z) : MFv)) h.nextRanks
  | 83, _ => congrArg (fun z => some (.inl z : MFv)) h.leads
  | 84, _ => congrArg (fun z => some (.inr (.inr (.inl z)) : MFv)) h.hits
  | 85, _ => congrArg (fun z => some (.inl z : MFv)) h.hitDocument
  | 86, _ => congrArg (fun z => some (.inr (.inl z) : MFv)) h.hitScore
  | 87, _ => congrArg (fun z => some (.inl z : MFv)) h.question
  | 88, _ => congrArg (fun z => some (.inl z : MFv)) h.questionLength
  | 89, _ => congrArg (fun z => some (.inr (.inr (.inl z)) : MFv)) h.questionCount
  | _ + 90, _ => rfl
theorem lkA.m {S S1 : MS} (h : lkA S S1) : mA [5, 6, 7, 8, 9, 10, 11, 12, 13, 14, 15, 16, 17, 18, 35, 36, 37, 38, 39, 40, 41, 42, 43, 44, 45, 46, 47, 48, 49, 50, 55, 56] S S1
  | 0, _ => congrArg (fun z => some (.inl z : MFv)) h.coming
  | 1, _ => congrArg (fun z => some (.inr (.inr (.inl z)) : MFv)) h.size
  | 2, _ => congrArg (fun z => some (.inr (.inr (.inl z)) : MFv)) h.fault
  | 3, _ => congrArg (fun z => some (.inl z : MFv)) h.product
  | 4, _ => congrArg (fun z => some (.inr (.inr (.inl z)) : MFv)) h.productSize
  | 5, hk => absurd (by decide) hk
  | 6, hk => absurd (by decide) hk
  | 7, hk => absurd (by decide) hk
  | 8, hk => absurd (by decide) hk
  | 9, hk => absurd (by decide) hk
  | 10, hk => absurd (by decide) hk
  | 11, hk => absurd (by decide) hk
  | 12, hk => absurd (by decide) hk
  | 13, hk => absurd (by decide) hk
  | 14, hk => absurd (by decide) hk
  | 15, hk => absurd (by decide) hk
  | 16, hk => absurd (by decide) hk
  | 17, hk => absurd (by decide) hk
  | 18, hk => absurd (by decide) hk
  | 19, _ => congrArg (fun z => some (.inl z : MFv)) h.texts
  | 20, _ => congrArg (fun z => some (.inr (.inr (.inl z)) : MFv)) h.textsEnd
  | 21, _ => congrArg (fun z => some (.inl z : MFv)) h.textAt
  | 22, _ => congrArg (fun z => some (.inl z : MFv)) h.textEnd
  | 23, _ => congrArg (fun z => some (.inr (.inr (.inl z)) : MFv)) h.textCount
  | 24, _ => congrArg (fun z => some (.inl z : MFv)) h.ruleSite
  | 25, _ => congrArg (fun z => some (.inl z : MFv)) h.ruleText
  | 26, _ => congrArg (fun z => some (.inr (.inr (.inl z)) : MFv)) h.ruleCount
  | 27, _ => congrArg (fun z => some (.inr (.inr (.inr (.inl z))) : MFv)) h.key
  | 28, _ => congrArg (fun z => some (.inr (.inr (.inl z)) : MFv)) h.valueFrom
  | 29, _ => congrArg (fun z => some (.inr (.inr (.inl z)) : MFv)) h.valueEnd
  | 30, _ => congrArg (fun z => some (.inl z : MFv)) h.pattern
  | 31, _ => congrArg (fun z => some (.inr (.inr (.inl z)) : MFv)) h.patternLength
  | 32, _ => congrArg (fun z => some (.inl z : MFv)) h.reached
  | 33, _ => congrArg (fun z => some (.inr (.inr (.inl z)) : MFv)) h.holding
  | 34, _ => congrArg (fun z => some (.inr (.inr (.inr (.inr (.inl z)))) : MFv)) h.isAllowed
  | 35, hk => absurd (by decide) hk
  | 36, hk => absurd (by decide) hk
  | 37, hk => absurd (by decide) hk
  | 38, hk => absurd (by decide) hk
  | 39, hk => absurd (by decide) hk
  | 40, hk => absurd (by decide) hk
  | 41, hk => absurd (by decide) hk
  | 42, hk => absurd (by decide) hk
  | 43, hk => absurd (by decide) hk
  | 44, hk => absurd (by decide) hk
  | 45, hk => absurd (by decide) hk
  | 46, hk => absurd (by decide) hk
  | 47, hk => absurd (by decide) hk
  | 48, hk => absurd (by decide) hk
  | 49, hk => absurd (by decide) hk
  | 50, hk => absurd (by decide) hk
  | 51, _ => congrArg (fun z => some (.inl z : MFv)) h.pageAddress
  | 52, _ => congrArg (fun z => some (.inl z : MFv)) h.pageStatus
  | 53, _ => congrArg (fun z => some (.inl z : MFv)) h.pageText
  | 54, _ => congrArg (fun z => some (.inr (.inr (.inl z)) : MFv)) h.pageCount
  | 55, hk => absurd (by decide) hk
  | 56, hk => absurd (by decide) hk
  | 57, _ => congrArg (fun z => some (.inl z : MFv)) h.told
  | 58, _ => congrArg (fun z => some (.inl z : MFv)) h.held
  | 59, _ => congrArg (fun z => some (.inl z : MFv)) h.seeds
  | 60, _ => congrArg (fun z => some (.inr (.inr (.inl z)) : MFv)) h.seedCount
  | 61, _ => congrArg (fun z => some (.inr (.inr (.inr (.inr (.inl z)))) : MFv)) h.isStarted
  | 62, _ => congrArg (fun z => some (.inr (.inr (.inl z)) : MFv)) h.clock
  | 63, _ => congrArg (fun z => some (.inl z : MFv)) h.known
  | 64, _ => congrArg (fun z => some (.inr (.inr (.inl z)) : MFv)) h.knownCount
  | 65, _ => congrArg (fun z => some (.inl z : MFv)) h.saved
  | 66, _ => congrArg (fun z => some (.inr (.inr (.inl z)) : MFv)) h.savedCount
  | 67, _ => congrArg (fun z => some (.inr (.inr (.inl z)) : MFv)) h.askedSince
  | 68, _ => congrArg (fun z => some (.inr (.inr (.inl z)) : MFv)) h.asked
  | 69, _ => congrArg (fun z => some (.inl z : MFv)) h.askedClock
  | 70, _ => congrArg (fun z => some (.inl z : MFv)) h.askedAddress
  | 71, _ => congrArg (fun z => some (.inl z : MFv)) h.siteOf
  | 72, _ => congrArg (fun z => some (.inl z : MFv)) h.siteTime
  | 73, _ => congrArg (fun z => some (.inr (.inr (.inl z)) : MFv)) h.siteCount
  | 74, _ => congrArg (fun z => some (.inr (.inr (.inr (.inl z))) : MFv)) h.otherTime
  | 75, _ => congrArg (fun z => some (.inr (.inr (.inl z)) : MFv)) h.documents
  | 76, _ => congrArg (fun z => some (.inl z : MFv)) h.documentAddress
  | 77, _ => congrArg (fun z => some (.inl z : MFv)) h.documentText
  | 78, _ => congrArg (fun z => some (.inl z : MFv)) h.documentNumber
  | 79, _ => congrArg (fun z => some (.inl z : MFv)) h.documentCopies
  | 80, _ => congrArg (fun z => some (.inl z : MFv)) h.documentWords
  | 81, _ => congrArg (fun z => some (.inr (.inl z) : MFv)) h.ranks
  | 82, _ => congrArg (fun z => some (.inr (.inl z) : MFv)) h.nextRanks
  | 83, _ => congrArg (fun z => some (.inl z : MFv)) h.leads
  | 84, _ => congrArg (fun z => some (.inr (.inr (.inl z)) : MFv)) h.hits
  | 85, _ => congrArg (fun z => some (.inl z : MFv)) h.hitDocument
  | 86, _ => congrArg (fun z => some (.inr (.inl z) : MFv)) h.hitScore
  | 87, _ => congrArg (fun z => some (.inl z : MFv)) h.question
  | 88, _ => congrArg (fun z => some (.inl z : MFv)) h.questionLength
  | 89, _ => congrArg (fun z => some (.inr (.inr (.inl z)) : MFv)) h.questionCount
  | _ + 90, _ => rfl
theorem scA.m {S S1 : MS} (h : scA S S1) : mA [9, 10, 11, 12, 13, 14, 15, 16, 17, 18] S S1 := by
  obtain ⟨m, ml, h, hl, p, pl, q, ql, nt, mk, rfl⟩ := h
  unfold sc10
  exact (((((((((((mA.rf S).a_made m (by decide)).a_madeLength ml (by decide)).a_host h (by decide)).a_hostLength hl (by decide)).a_path p (by decide)).a_pathLength pl (by decide)).a_query q (by decide)).a_queryLength ql (by decide)).a_neat nt (by decide)).a_marks mk (by decide))
theorem kept.m {S S1 : MS} {T T1 : List (List Int32)} {D : List Int32} {k : Nat} (h : kept S T D S1 T1 k) : mA [5, 6, 7, 8] S S1 := by
  obtain ⟨-, -, -, -, ⟨-, rfl⟩ | ⟨-, -, f1, f2, f3, rfl⟩⟩ := h
  · exact mA.rf _
  · exact ((((mA.rf S).a_addressAt f1 (by decide)).a_addressLength f2 (by decide)).a_addresses f3 (by decide)).a_addressCount _ (by decide)
