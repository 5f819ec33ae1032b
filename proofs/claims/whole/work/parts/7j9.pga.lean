/-! ===== what reading a page may change of the model ===== -/
def lkK (S : MS) := ((S.coming, S.size, S.fault, S.product, S.productSize), S.texts, S.2.2.1, (S.pattern, S.patternLength, S.reached, S.holding, S.isAllowed), (S.pageAddress, S.pageStatus, S.pageText, S.pageCount), (S.told, S.held, S.seeds), S.2.2.2.2.2.2)
def lkA (S S1 : MS) : Prop := lkK S1 = lkK S
theorem lkA.rf (S : MS) : lkA S S := rfl
theorem lkA.tr {S S1 S2 : MS} (h1 : lkA S S1) (h2 : lkA S1 S2) : lkA S S2 := Eq.trans h2 h1
def lnK (S : MS) := (S.links, S.linkCount)
def adK (S : MS) := (S.addresses, S.addressAt, S.addressLength, S.addressCount)
def vlK (S : MS) := (S.values, S.valueAt, S.valueLength, S.valueCount)
def wdK (S : MS) := (S.words, S.wordAt, S.wordLength, S.wordCount)
def bsK (S : MS) := (S.pageBase, S.hasBase)
theorem lkK_addresses (S : MS) (v : Nat → Int32) : lkK (S.s_addresses v) = lkK S := rfl
theorem lkK_addressAt (S : MS) (v : Nat → Int32) : lkK (S.s_addressAt v) = lkK S := rfl
theorem lkK_addressLength (S : MS) (v : Nat → Int32) : lkK (S.s_addressLength v) = lkK S := rfl
theorem lkK_addressCount (S : MS) (v : Nat) : lkK (S.s_addressCount v) = lkK S := rfl
theorem lkK_made (S : MS) (v : Nat → Int32) : lkK (S.s_made v) = lkK S := rfl
theorem lkK_madeLength (S : MS) (v : Nat) : lkK (S.s_madeLength v) = lkK S := rfl
theorem lkK_host (S : MS) (v : Nat → Int32) : lkK (S.s_host v) = lkK S := rfl
theorem lkK_path (S : MS) (v : Nat → Int32) : lkK (S.s_path v) = lkK S := rfl
theorem lkK_query (S : MS) (v : Nat → Int32) : lkK (S.s_query v) = lkK S := rfl
theorem lkK_neat (S : MS) (v : Nat → Int32) : lkK (S.s_neat v) = lkK S := rfl
theorem lkK_marks (S : MS) (v : Nat → Int32) : lkK (S.s_marks v) = lkK S := rfl
theorem lkK_hostLength (S : MS) (v : Nat) : lkK (S.s_hostLength v) = lkK S := rfl
theorem lkK_pathLength (S : MS) (v : Nat) : lkK (S.s_pathLength v) = lkK S := rfl
theorem lkK_queryLength (S : MS) (v : Option Nat) : lkK (S.s_queryLength v) = lkK S := rfl
theorem lkK_decoded (S : MS) (v : Nat → Int32) : lkK (S.s_decoded v) = lkK S := rfl
theorem lkK_decodedLength (S : MS) (v : Nat) : lkK (S.s_decodedLength v) = lkK S := rfl
theorem lkK_words (S : MS) (v : Nat → Int32) : lkK (S.s_words v) = lkK S := rfl
theorem lkK_wordAt (S : MS) (v : Nat → Int32) : lkK (S.s_wordAt v) = lkK S := rfl
theorem lkK_wordLength (S : MS) (v : Nat → Int32) : lkK (S.s_wordLength v) = lkK S := rfl
theorem lkK_wordCount (S : MS) (v : Nat) : lkK (S.s_wordCount v) = lkK S := rfl
theorem lkK_values (S : MS) (v : Nat → Int32) : lkK (S.s_values v) = lkK S := rfl
theorem lkK_valueAt (S : MS) (v : Nat → Int32) : lkK (S.s_valueAt v) = lkK S := rfl
theorem lkK_valueLength (S : MS) (v : Nat → Int32) : lkK (S.s_valueLength v) = lkK S := rfl
theorem lkK_valueCount (S : MS) (v : Nat) : lkK (S.s_valueCount v) = lkK S := rfl
theorem lkK_pageBase (S : MS) (v : Nat) : lkK (S.s_pageBase v) = lkK S := rfl
theorem lkK_hasBase (S : MS) (v : Bool) : lkK (S.s_hasBase v) = lkK S := rfl
theorem lkK_byteValue (S : MS) (v : Int32) : lkK (S.s_byteValue v) = lkK S := rfl
theorem lkK_hrefFrom (S : MS) (v : Nat) : lkK (S.s_hrefFrom v) = lkK S := rfl
theorem lkK_hrefEnd (S : MS) (v : Nat) : lkK (S.s_hrefEnd v) = lkK S := rfl
theorem lkK_hasHref (S : MS) (v : Bool) : lkK (S.s_hasHref v) = lkK S := rfl
theorem lkK_links (S : MS) (v : Nat → Int32) : lkK (S.s_links v) = lkK S := rfl
theorem lkK_linkCount (S : MS) (v : Nat) : lkK (S.s_linkCount v) = lkK S := rfl
theorem lnK_addresses (S : MS) (v : Nat → Int32) : lnK (S.s_addresses v) = lnK S := rfl
theorem lnK_addressAt (S : MS) (v : Nat → Int32) : lnK (S.s_addressAt v) = lnK S := rfl
theorem lnK_addressLength (S : MS) (v : Nat → Int32) : lnK (S.s_addressLength v) = lnK S := rfl
theorem lnK_addressCount (S : MS) (v : Nat) : lnK (S.s_addressCount v) = lnK S := rfl
theorem lnK_made (S : MS) (v : Nat → Int32) : lnK (S.s_made v) = lnK S := rfl
theorem lnK_madeLength (S : MS) (v : Nat) : lnK (S.s_madeLength v) = lnK S := rfl
theorem lnK_host (S : MS) (v : Nat → Int32) : lnK (S.s_host v) = lnK S := rfl
theorem lnK_path (S : MS) (v : Nat → Int32) : lnK (S.s_path v) = lnK S := rfl
theorem lnK_query (S : MS) (v : Nat → Int32) : lnK (S.s_query v) = lnK S := rfl
theorem lnK_neat (S : MS) (v : Nat → Int32) : lnK (S.s_neat v) = lnK S := rfl
theorem lnK_marks (S : MS) (v : Nat → Int32) : lnK (S.s_marks v) = lnK S := rfl
theorem lnK_hostLength (S : MS) (v : Nat) : lnK (S.s_hostLength v) = lnK S := rfl
theorem lnK_pathLength (S : MS) (v : Nat) : lnK (S.s_pathLength v) = lnK S := rfl
theorem lnK_queryLength (S : MS) (v : Option Nat) : lnK (S.s_queryLength v) = lnK S := rfl
theorem lnK_decoded (S : MS) (v : Nat → Int32) : lnK (S.s_decoded v) = lnK S := rfl
theorem lnK_decodedLength (S : MS) (v : Nat) : lnK (S.s_decodedLength v) = lnK S := rfl
theorem lnK_words (S : MS) (v : Nat → Int32) : lnK (S.s_words v) = lnK S := rfl
theorem lnK_wordAt (S : MS) (v : Nat → Int32) : lnK (S.s_wordAt v) = lnK S := rfl
theorem lnK_wordLength (S : MS) (v : Nat → Int32) : lnK (S.s_wordLength v) = lnK S := rfl
theorem lnK_wordCount (S : MS) (v : Nat) : lnK (S.s_wordCount v) = lnK S := rfl
theorem lnK_values (S : MS) (v : Nat → Int32) : lnK (S.s_values v) = lnK S := rfl
theorem lnK_valueAt (S : MS) (v : Nat → Int32) : lnK (S.s_valueAt v) = lnK S := rfl
theorem lnK_valueLength (S : MS) (v : Nat → Int32) : lnK (S.s_valueLength v) = lnK S := rfl
theorem lnK_valueCount (S : MS) (v : Nat) : lnK (S.s_valueCount v) = lnK S := rfl
theorem lnK_pageBase (S : MS) (v : Nat) : lnK (S.s_pageBase v) = lnK S := rfl
theorem lnK_hasBase (S : MS) (v : Bool) : lnK (S.s_hasBase v) = lnK S := rfl
theorem lnK_byteValue (S : MS) (v : Int32) : lnK (S.s_byteValue v) = lnK S := rfl
theorem lnK_hrefFrom (S : MS) (v : Nat) : lnK (S.s_hrefFrom v) = lnK S := rfl
theorem lnK_hrefEnd (S : MS) (v : Nat) : lnK (S.s_hrefEnd v) = lnK S := rfl
theorem lnK_hasHref (S : MS) (v : Bool) : lnK (S.s_hasHref v) = lnK S := rfl
theorem adK_made (S : MS) (v : Nat → Int32) : adK (S.s_made v) = adK S := rfl
theorem adK_madeLength (S : MS) (v : Nat) : adK (S.s_madeLength v) = adK S := rfl
theorem adK_host (S : MS) (v : Nat → Int32) : adK (S.s_host v) = adK S := rfl
theorem adK_path (S : MS) (v : Nat → Int32) : adK (S.s_path v) = adK S := rfl
theorem adK_query (S : MS) (v : Nat → Int32) : adK (S.s_query v) = adK S := rfl
theorem adK_neat (S : MS) (v : Nat → Int32) : adK (S.s_neat v) = adK S := rfl
theorem adK_marks (S : MS) (v : Nat → Int32) : adK (S.s_marks v) = adK S := rfl
theorem adK_hostLength (S : MS) (v : Nat) : adK (S.s_hostLength v) = adK S := rfl
theorem adK_pathLength (S : MS) (v : Nat) : adK (S.s_pathLength v) = adK S := rfl
theorem adK_queryLength (S : MS) (v : Option Nat) : adK (S.s_queryLength v) = adK S := rfl
theorem adK_decoded (S : MS) (v : Nat → Int32) : adK (S.s_decoded v) = adK S := rfl
theorem adK_decodedLength (S : MS) (v : Nat) : adK (S.s_decodedLength v) = adK S := rfl
theorem adK_words (S : MS) (v : Nat → Int32) : adK (S.s_words v) = adK S := rfl
theorem adK_wordAt (S : MS) (v : Nat → Int32) : adK (S.s_wordAt v) = adK S := rfl
theorem adK_wordLength (S : MS) (v : Nat → Int32) : adK (S.s_wordLength v) = adK S := rfl
theorem adK_wordCount (S : MS) (v : Nat) : adK (S.s_wordCount v) = adK S := rfl
theorem adK_values (S : MS) (v : Nat → Int32) : adK (S.s_values v) = adK S := rfl
theorem adK_valueAt (S : MS) (v : Nat → Int32) : adK (S.s_valueAt v) = adK S := rfl
theorem adK_valueLength (S : MS) (v : Nat → Int32) : adK (S.s_valueLength v) = adK S := rfl
theorem adK_valueCount (S : MS) (v : Nat) : adK (S.s_valueCount v) = adK S := rfl
theorem adK_pageBase (S : MS) (v : Nat) : adK (S.s_pageBase v) = adK S := rfl
theorem adK_hasBase (S : MS) (v : Bool) : adK (S.s_hasBase v) = adK S := rfl
theorem adK_byteValue (S : MS) (v : Int32) : adK (S.s_byteValue v) = adK S := rfl
theorem adK_hrefFrom (S : MS) (v : Nat) : adK (S.s_hrefFrom v) = adK S := rfl
theorem adK_hrefEnd (S : MS) (v : Nat) : adK (S.s_hrefEnd v) = adK S := rfl
theorem adK_hasHref (S : MS) (v : Bool) : adK (S.s_hasHref v) = adK S := rfl
theorem adK_links (S : MS) (v : Nat → Int32) : adK (S.s_links v) = adK S := rfl
theorem adK_linkCount (S : MS) (v : Nat) : adK (S.s_linkCount v) = adK S := rfl
theorem vlK_addresses (S : MS) (v : Nat → Int32) : vlK (S.s_addresses v) = vlK S := rfl
theorem vlK_addressAt (S : MS) (v : Nat → Int32) : vlK (S.s_addressAt v) = vlK S := rfl
theorem vlK_addressLength (S : MS) (v : Nat → Int32) : vlK (S.s_addressLength v) = vlK S := rfl
theorem vlK_addressCount (S : MS) (v : Nat) : vlK (S.s_addressCount v) = vlK S := rfl
theorem vlK_made (S : MS) (v : Nat → Int32) : vlK (S.s_made v) = vlK S := rfl
theorem vlK_madeLength (S : MS) (v : Nat) : vlK (S.s_madeLength v) = vlK S := rfl
theorem vlK_host (S : MS) (v : Nat → Int32) : vlK (S.s_host v) = vlK S := rfl
theorem vlK_path (S : MS) (v : Nat → Int32) : vlK (S.s_path v) = vlK S := rfl
theorem vlK_query (S : MS) (v : Nat → Int32) : vlK (S.s_query v) = vlK S := rfl
theorem vlK_neat (S : MS) (v : Nat → Int32) : vlK (S.s_neat v) = vlK S := rfl
theorem vlK_marks (S : MS) (v : Nat → Int32) : vlK (S.s_marks v) = vlK S := rfl
theorem vlK_hostLength (S : MS) (v : Nat) : vlK (S.s_hostLength v) = vlK S := rfl
theorem vlK_pathLength (S : MS) (v : Nat) : vlK (S.s_pathLength v) = vlK S := rfl
theorem vlK_queryLength (S : MS) (v : Option Nat) : vlK (S.s_queryLength v) = vlK S := rfl
theorem vlK_decoded (S : MS) (v : Nat → Int32) : vlK (S.s_decoded v) = vlK S := rfl
theorem vlK_decodedLength (S : MS) (v : Nat) : vlK (S.s_decodedLength v) = vlK S := rfl
theorem vlK_words (S : MS) (v : Nat → Int32) : vlK (S.s_words v) = vlK S := rfl
theorem vlK_wordAt (S : MS) (v : Nat → Int32) : vlK (S.s_wordAt v) = vlK S := rfl
theorem vlK_wordLength (S : MS) (v : Nat → Int32) : vlK (S.s_wordLength v) = vlK S := rfl
theorem vlK_wordCount (S : MS) (v : Nat) : vlK (S.s_wordCount v) = vlK S := rfl
theorem vlK_pageBase (S : MS) (v : Nat) : vlK (S.s_pageBase v) = vlK S := rfl
theorem vlK_hasBase (S : MS) (v : Bool) : vlK (S.s_hasBase v) = vlK S := rfl
theorem vlK_byteValue (S : MS) (v : Int32) : vlK (S.s_byteValue v) = vlK S := rfl
theorem vlK_hrefFrom (S : MS) (v : Nat) : vlK (S.s_hrefFrom v) = vlK S := rfl
theorem vlK_hrefEnd (S : MS) (v : Nat) : vlK (S.s_hrefEnd v) = vlK S := rfl
theorem vlK_hasHref (S : MS) (v : Bool) : vlK (S.s_hasHref v) = vlK S := rfl
theorem vlK_links (S : MS) (v : Nat → Int32) : vlK (S.s_links v) = vlK S := rfl
theorem vlK_linkCount (S : MS) (v : Nat) : vlK (S.s_linkCount v) = vlK S := rfl
theorem wdK_addresses (S : MS) (v : Nat → Int32) : wdK (S.s_addresses v) = wdK S := rfl
theorem wdK_addressAt (S : MS) (v : Nat → Int32) : wdK (S.s_addressAt v) = wdK S := rfl
theorem wdK_addressLength (S : MS) (v : Nat → Int32) : wdK (S.s_addressLength v) = wdK S := rfl
theorem wdK_addressCount (S : MS) (v : Nat) : wdK (S.s_addressCount v) = wdK S := rfl
theorem wdK_made (S : MS) (v : Nat → Int32) : wdK (S.s_made v) = wdK S := rfl
theorem wdK_madeLength (S : MS) (v : Nat) : wdK (S.s_madeLength v) = wdK S := rfl
theorem wdK_host (S : MS) (v : Nat → Int32) : wdK (S.s_host v) = wdK S := rfl
theorem wdK_path (S : MS) (v : Nat → Int32) : wdK (S.s_path v) = wdK S := rfl
theorem wdK_query (S : MS) (v : Nat → Int32) : wdK (S.s_query v) = wdK S := rfl
theorem wdK_neat (S : MS) (v : Nat → Int32) : wdK (S.s_neat v) = wdK S := rfl
theorem wdK_marks (S : MS) (v : Nat → Int32) : wdK (S.s_marks v) = wdK S := rfl
theorem wdK_hostLength (S : MS) (v : Nat) : wdK (S.s_hostLength v) = wdK S := rfl
theorem wdK_pathLength (S : MS) (v : Nat) : wdK (S.s_pathLength v) = wdK S := rfl
theorem wdK_queryLength (S : MS) (v : Option Nat) : wdK (S.s_queryLength v) = wdK S := rfl
theorem wdK_decoded (S : MS) (v : Nat → Int32) : wdK (S.s_decoded v) = wdK S := rfl
theorem wdK_decodedLength (S : MS) (v : Nat) : wdK (S.s_decodedLength v) = wdK S := rfl
theorem wdK_values (S : MS) (v : Nat → Int32) : wdK (S.s_values v) = wdK S := rfl
theorem wdK_valueAt (S : MS) (v : Nat → Int32) : wdK (S.s_valueAt v) = wdK S := rfl
theorem wdK_valueLength (S : MS) (v : Nat → Int32) : wdK (S.s_valueLength v) = wdK S := rfl
theorem wdK_valueCount (S : MS) (v : Nat) : wdK (S.s_valueCount v) = wdK S := rfl
theorem wdK_pageBase (S : MS) (v : Nat) : wdK (S.s_pageBase v) = wdK S := rfl
theorem wdK_hasBase (S : MS) (v : Bool) : wdK (S.s_hasBase v) = wdK S := rfl
theorem wdK_byteValue (S : MS) (v : Int32) : wdK (S.s_byteValue v) = wdK S := rfl
theorem wdK_hrefFrom (S : MS) (v : Nat) : wdK (S.s_hrefFrom v) = wdK S := rfl
theorem wdK_hrefEnd (S : MS) (v : Nat) : wdK (S.s_hrefEnd v) = wdK S := rfl
theorem wdK_hasHref (S : MS) (v : Bool) : wdK (S.s_hasHref v) = wdK S := rfl
theorem wdK_links (S : MS) (v : Nat → Int32) : wdK (S.s_links v) = wdK S := rfl
theorem wdK_linkCount (S : MS) (v : Nat) : wdK (S.s_linkCount v) = wdK S := rfl
theorem bsK_addresses (S : MS) (v : Nat → Int32) : bsK (S.s_addresses v) = bsK S := rfl
theorem bsK_addressAt (S : MS) (v : Nat → Int32) : bsK (S.s_addressAt v) = bsK S := rfl
theorem bsK_addressLength (S : MS) (v : Nat → Int32) : bsK (S.s_addressLength v) = bsK S := rfl
theorem bsK_addressCount (S : MS) (v : Nat) : bsK (S.s_addressCount v) = bsK S := rfl
theorem bsK_made (S : MS) (v : Nat → Int32) : bsK (S.s_made v) = bsK S := rfl
theorem bsK_madeLength (S : MS) (v : Nat) : bsK (S.s_madeLength v) = bsK S := rfl
theorem bsK_host (S : MS) (v : Nat → Int32) : bsK (S.s_host v) = bsK S := rfl
theorem bsK_path (S : MS) (v : Nat → Int32) : bsK (S.s_path v) = bsK S := rfl
theorem bsK_query (S : MS) (v : Nat → Int32) : bsK (S.s_query v) = bsK S := rfl
theorem bsK_neat (S : MS) (v : Nat → Int32) : bsK (S.s_neat v) = bsK S := rfl
theorem bsK_marks (S : MS) (v : Nat → Int32) : bsK (S.s_marks v) = bsK S := rfl
theorem bsK_hostLength (S : MS) (v : Nat) : bsK (S.s_hostLength v) = bsK S := rfl
theorem bsK_pathLength (S : MS) (v : Nat) : bsK (S.s_pathLength v) = bsK S := rfl
theorem bsK_queryLength (S : MS) (v : Option Nat) : bsK (S.s_queryLength v) = bsK S := rfl
theorem bsK_decoded (S : MS) (v : Nat → Int32) : bsK (S.s_decoded v) = bsK S := rfl
theorem bsK_decodedLength (S : MS) (v : Nat) : bsK (S.s_decodedLength v) = bsK S := rfl
theorem bsK_words (S : MS) (v : Nat → Int32) : bsK (S.s_words v) = bsK S := rfl
theorem bsK_wordAt (S : MS) (v : Nat → Int32) : bsK (S.s_wordAt v) = bsK S := rfl
theorem bsK_wordLength (S : MS) (v : Nat → Int32) : bsK (S.s_wordLength v) = bsK S := rfl
theorem bsK_wordCount (S : MS) (v : Nat) : bsK (S.s_wordCount v) = bsK S := rfl
theorem bsK_values (S : MS) (v : Nat → Int32) : bsK (S.s_values v) = bsK S := rfl
theorem bsK_valueAt (S : MS) (v : Nat → Int32) : bsK (S.s_valueAt v) = bsK S := rfl
theorem bsK_valueLength (S : MS) (v : Nat → Int32) : bsK (S.s_valueLength v) = bsK S := rfl
theorem bsK_valueCount (S : MS) (v : Nat) : bsK (S.s_valueCount v) = bsK S := rfl
theorem bsK_byteValue (S : MS) (v : Int32) : bsK (S.s_byteValue v) = bsK S := rfl
theorem bsK_hrefFrom (S : MS) (v : Nat) : bsK (S.s_hrefFrom v) = bsK S := rfl
theorem bsK_hrefEnd (S : MS) (v : Nat) : bsK (S.s_hrefEnd v) = bsK S := rfl
theorem bsK_hasHref (S : MS) (v : Bool) : bsK (S.s_hasHref v) = bsK S := rfl
theorem bsK_links (S : MS) (v : Nat → Int32) : bsK (S.s_links v) = bsK S := rfl
theorem bsK_linkCount (S : MS) (v : Nat) : bsK (S.s_linkCount v) = bsK S := rfl
theorem lkA.coming {S S1 : MS} (h : lkA S S1) : S1.coming = S.coming := congrArg (fun z => z.1.1) h
theorem lkA.size {S S1 : MS} (h : lkA S S1) : S1.size = S.size := congrArg (fun z => z.1.2.1) h
theorem lkA.fault {S S1 : MS} (h : lkA S S1) : S1.fault = S.fault := congrArg (fun z => z.1.2.2.1) h
theorem lkA.product {S S1 : MS} (h : lkA S S1) : S1.product = S.product := congrArg (fun z => z.1.2.2.2.1) h
theorem lkA.productSize {S S1 : MS} (h : lkA S S1) : S1.productSize = S.productSize := congrArg (fun z => z.1.2.2.2.2) h
theorem lkA.texts {S S1 : MS} (h : lkA S S1) : S1.texts = S.texts := congrArg (fun z => z.2.1) h
theorem lkA.textsEnd {S S1 : MS} (h : lkA S S1) : S1.textsEnd = S.textsEnd := congrArg (fun z => z.2.2.1.1) h
theorem lkA.textAt {S S1 : MS} (h : lkA S S1) : S1.textAt = S.textAt := congrArg (fun z => z.2.2.1.2.1) h
theorem lkA.textEnd {S S1 : MS} (h : lkA S S1) : S1.textEnd = S.textEnd := congrArg (fun z => z.2.2.1.2.2.1) h
theorem lkA.textCount {S S1 : MS} (h : lkA S S1) : S1.textCount = S.textCount := congrArg (fun z => z.2.2.1.2.2.2.1) h
theorem lkA.ruleSite {S S1 : MS} (h : lkA S S1) : S1.ruleSite = S.ruleSite := congrArg (fun z => z.2.2.1.2.2.2.2.1) h
theorem lkA.ruleText {S S1 : MS} (h : lkA S S1) : S1.ruleText = S.ruleText := congrArg (fun z => z.2.2.1.2.2.2.2.2.1) h
theorem lkA.ruleCount {S S1 : MS} (h : lkA S S1) : S1.ruleCount = S.ruleCount := congrArg (fun z => z.2.2.1.2.2.2.2.2.2.1) h
theorem lkA.key {S S1 : MS} (h : lkA S S1) : S1.key = S.key := congrArg (fun z => z.2.2.1.2.2.2.2.2.2.2.1) h
theorem lkA.valueFrom {S S1 : MS} (h : lkA S S1) : S1.valueFrom = S.valueFrom := congrArg (fun z => z.2.2.1.2.2.2.2.2.2.2.2.1) h
theorem lkA.valueEnd {S S1 : MS} (h : lkA S S1) : S1.valueEnd = S.valueEnd := congrArg (fun z => z.2.2.1.2.2.2.2.2.2.2.2.2) h
theorem lkA.pattern {S S1 : MS} (h : lkA S S1) : S1.pattern = S.pattern := congrArg (fun z => z.2.2.2.1.1) h
theorem lkA.patternLength {S S1 : MS} (h : lkA S S1) : S1.patternLength = S.patternLength := congrArg (fun z => z.2.2.2.1.2.1) h
theorem lkA.reached {S S1 : MS} (h : lkA S S1) : S1.reached = S.reached := congrArg (fun z => z.2.2.2.1.2.2.1) h
theorem lkA.holding {S S1 : MS} (h : lkA S S1) : S1.holding = S.holding := congrArg (fun z => z.2.2.2.1.2.2.2.1) h
theorem lkA.isAllowed {S S1 : MS} (h : lkA S S1) : S1.isAllowed = S.isAllowed := congrArg (fun z => z.2.2.2.1.2.2.2.2) h
theorem lkA.pageAddress {S S1 : MS} (h : lkA S S1) : S1.pageAddress = S.pageAddress := congrArg (fun z => z.2.2.2.2.1.1) h
theorem lkA.pageStatus {S S1 : MS} (h : lkA S S1) : S1.pageStatus = S.pageStatus := congrArg (fun z => z.2.2.2.2.1.2.1) h
theorem lkA.pageText {S S1 : MS} (h : lkA S S1) : S1.pageText = S.pageText := congrArg (fun z => z.2.2.2.2.1.2.2.1) h
theorem lkA.pageCount {S S1 : MS} (h : lkA S S1) : S1.pageCount = S.pageCount := congrArg (fun z => z.2.2.2.2.1.2.2.2) h
theorem lkA.told {S S1 : MS} (h : lkA S S1) : S1.told = S.told := congrArg (fun z => z.2.2.2.2.2.1.1) h
theorem lkA.held {S S1 : MS} (h : lkA S S1) : S1.held = S.held := congrArg (fun z => z.2.2.2.2.2.1.2.1) h
theorem lkA.seeds {S S1 : MS} (h : lkA S S1) : S1.seeds = S.seeds := congrArg (fun z => z.2.2.2.2.2.1.2.2) h
theorem lkA.seedCount {S S1 : MS} (h : lkA S S1) : S1.seedCount = S.seedCount := congrArg (fun z => z.2.2.2.2.2.2.1.1) h
theorem lkA.isStarted {S S1 : MS} (h : lkA S S1) : S1.isStarted = S.isStarted := congrArg (fun z => z.2.2.2.2.2.2.1.2.1) h
theorem lkA.clock {S S1 : MS} (h : lkA S S1) : S1.clock = S.clock := congrArg (fun z => z.2.2.2.2.2.2.1.2.2.1) h
theorem lkA.known {S S1 : MS} (h : lkA S S1) : S1.known = S.known := congrArg (fun z => z.2.2.2.2.2.2.1.2.2.2.1) h
theorem lkA.knownCount {S S1 : MS} (h : lkA S S1) : S1.knownCount = S.knownCount := congrArg (fun z => z.2.2.2.2.2.2.1.2.2.2.2.1) h
theorem lkA.saved {S S1 : MS} (h : lkA S S1) : S1.saved = S.saved := congrArg (fun z => z.2.2.2.2.2.2.1.2.2.2.2.2.1) h
theorem lkA.savedCount {S S1 : MS} (h : lkA S S1) : S1.savedCount = S.savedCount := congrArg (fun z => z.2.2.2.2.2.2.1.2.2.2.2.2.2.1) h
theorem lkA.askedSince {S S1 : MS} (h : lkA S S1) : S1.askedSince = S.askedSince := congrArg (fun z => z.2.2.2.2.2.2.1.2.2.2.2.2.2.2.1) h
theorem lkA.asked {S S1 : MS} (h : lkA S S1) : S1.asked = S.asked := congrArg (fun z => z.2.2.2.2.2.2.1.2.2.2.2.2.2.2.2.1) h
theorem lkA.askedClock {S S1 : MS} (h : lkA S S1) : S1.askedClock = S.askedClock := congrArg (fun z => z.2.2.2.2.2.2.1.2.2.2.2.2.2.2.2.2) h
theorem lkA.askedAddress {S S1 : MS} (h : lkA S S1) : S1.askedAddress = S.askedAddress := congrArg (fun z => z.2.2.2.2.2.2.2.1.1) h
theorem lkA.siteOf {S S1 : MS} (h : lkA S S1) : S1.siteOf = S.siteOf := congrArg (fun z => z.2.2.2.2.2.2.2.1.2.1) h
theorem lkA.siteTime {S S1 : MS} (h : lkA S S1) : S1.siteTime = S.siteTime := congrArg (fun z => z.2.2.2.2.2.2.2.1.2.2.1) h
theorem lkA.siteCount {S S1 : MS} (h : lkA S S1) : S1.siteCount = S.siteCount := congrArg (fun z => z.2.2.2.2.2.2.2.1.2.2.2.1) h
theorem lkA.otherTime {S S1 : MS} (h : lkA S S1) : S1.otherTime = S.otherTime := congrArg (fun z => z.2.2.2.2.2.2.2.1.2.2.2.2.1) h
theorem lkA.documents {S S1 : MS} (h : lkA S S1) : S1.documents = S.documents := congrArg (fun z => z.2.2.2.2.2.2.2.1.2.2.2.2.2.1) h
theorem lkA.documentAddress {S S1 : MS} (h : lkA S S1) : S1.documentAddress = S.documentAddress := congrArg (fun z => z.2.2.2.2.2.2.2.1.2.2.2.2.2.2.1) h
theorem lkA.documentText {S S1 : MS} (h : lkA S S1) : S1.documentText = S.documentText := congrArg (fun z => z.2.2.2.2.2.2.2.1.2.2.2.2.2.2.2.1) h
theorem lkA.documentNumber {S S1 : MS} (h : lkA S S1) : S1.documentNumber = S.documentNumber := congrArg (fun z => z.2.2.2.2.2.2.2.1.2.2.2.2.2.2.2.2.1) h
theorem lkA.documentCopies {S S1 : MS} (h : lkA S S1) : S1.documentCopies = S.documentCopies := congrArg (fun z => z.2.2.2.2.2.2.2.1.2.2.2.2.2.2.2.2.2) h
theorem lkA.documentWords {S S1 : MS} (h : lkA S S1) : S1.documentWords = S.documentWords := congrArg (fun z => z.2.2.2.2.2.2.2.2.1) h
theorem lkA.ranks {S S1 : MS} (h : lkA S S1) : S1.ranks = S.ranks := congrArg (fun z => z.2.2.2.2.2.2.2.2.2.1) h
theorem lkA.nextRanks {S S1 : MS} (h : lkA S S1) : S1.nextRanks = S.nextRanks := congrArg (fun z => z.2.2.2.2.2.2.2.2.2.2.1) h
theorem lkA.leads {S S1 : MS} (h : lkA S S1) : S1.leads = S.leads := congrArg (fun z => z.2.2.2.2.2.2.2.2.2.2.2.1) h
theorem lkA.hits {S S1 : MS} (h : lkA S S1) : S1.hits = S.hits := congrArg (fun z => z.2.2.2.2.2.2.2.2.2.2.2.2.1) h
theorem lkA.hitDocument {S S1 : MS} (h : lkA S S1) : S1.hitDocument = S.hitDocument := congrArg (fun z => z.2.2.2.2.2.2.2.2.2.2.2.2.2.1) h
theorem lkA.hitScore {S S1 : MS} (h : lkA S S1) : S1.hitScore = S.hitScore := congrArg (fun z => z.2.2.2.2.2.2.2.2.2.2.2.2.2.2.1) h
theorem lkA.question {S S1 : MS} (h : lkA S S1) : S1.question = S.question := congrArg (fun z => z.2.2.2.2.2.2.2.2.2.2.2.2.2.2.2.1) h
theorem lkA.questionLength {S S1 : MS} (h : lkA S S1) : S1.questionLength = S.questionLength := congrArg (fun z => z.2.2.2.2.2.2.2.2.2.2.2.2.2.2.2.2.1) h
theorem lkA.questionCount {S S1 : MS} (h : lkA S S1) : S1.questionCount = S.questionCount := congrArg (fun z => z.2.2.2.2.2.2.2.2.2.2.2.2.2.2.2.2.2) h
/-- nothing has changed but what is scribbled while reading -/
def rkA (S S1 : MS) : Prop := lkK S1 = lkK S ∧ lnK S1 = lnK S ∧ adK S1 = adK S ∧ vlK S1 = vlK S ∧ wdK S1 = wdK S ∧ bsK S1 = bsK S
theorem rkA.rf (S : MS) : rkA S S := ⟨rfl, rfl, rfl, rfl, rfl, rfl⟩
theorem rkA.tr {S S1 S2 : MS} (h1 : rkA S S1) (h2 : rkA S1 S2) : rkA S S2 := ⟨h2.1.trans h1.1, h2.2.1.trans h1.2.1, h2.2.2.1.trans h1.2.2.1, h2.2.2.2.1.trans h1.2.2.2.1, h2.2.2.2.2.1.trans h1.2.2.2.2.1, h2.2.2.2.2.2.trans h1.2.2.2.2.2⟩
theorem rkA.lk {S S1 : MS} (h : rkA S S1) : lkA S S1 := h.1
theorem rkA.s_made (S : MS) (v : Nat → Int32) : rkA S (S.s_made v) := ⟨lkK_made S v, lnK_made S v, adK_made S v, vlK_made S v, wdK_made S v, bsK_made S v⟩
theorem rkA.s_madeLength (S : MS) (v : Nat) : rkA S (S.s_madeLength v) := ⟨lkK_madeLength S v, lnK_madeLength S v, adK_madeLength S v, vlK_madeLength S v, wdK_madeLength S v, bsK_madeLength S v⟩
theorem rkA.s_host (S : MS) (v : Nat → Int32) : rkA S (S.s_host v) := ⟨lkK_host S v, lnK_host S v, adK_host S v, vlK_host S v, wdK_host S v, bsK_host S v⟩
theorem rkA.s_hostLength (S : MS) (v : Nat) : rkA S (S.s_hostLength v) := ⟨lkK_hostLength S v, lnK_hostLength S v, adK_hostLength S v, vlK_hostLength S v, wdK_hostLength S v, bsK_hostLength S v⟩
theorem rkA.s_path (S : MS) (v : Nat → Int32) : rkA S (S.s_path v) := ⟨lkK_path S v, lnK_path S v, adK_path S v, vlK_path S v, wdK_path S v, bsK_path S v⟩
theorem rkA.s_pathLength (S : MS) (v : Nat) : rkA S (S.s_pathLength v) := ⟨lkK_pathLength S v, lnK_pathLength S v, adK_pathLength S v, vlK_pathLength S v, wdK_pathLength S v, bsK_pathLength S v⟩
theorem rkA.s_query (S : MS) (v : Nat → Int32) : rkA S (S.s_query v) := ⟨lkK_query S v, lnK_query S v, adK_query S v, vlK_query S v, wdK_query S v, bsK_query S v⟩
theorem rkA.s_queryLength (S : MS) (v : Option Nat) : rkA S (S.s_queryLength v) := ⟨lkK_queryLength S v, lnK_queryLength S v, adK_queryLength S v, vlK_queryLength S v, wdK_queryLength S v, bsK_queryLength S v⟩
theorem rkA.s_neat (S : MS) (v : Nat → Int32) : rkA S (S.s_neat v) := ⟨lkK_neat S v, lnK_neat S v, adK_neat S v, vlK_neat S v, wdK_neat S v, bsK_neat S v⟩
theorem rkA.s_marks (S : MS) (v : Nat → Int32) : rkA S (S.s_marks v) := ⟨lkK_marks S v, lnK_marks S v, adK_marks S v, vlK_marks S v, wdK_marks S v, bsK_marks S v⟩
theorem rkA.s_decoded (S : MS) (v : Nat → Int32) : rkA S (S.s_decoded v) := ⟨lkK_decoded S v, lnK_decoded S v, adK_decoded S v, vlK_decoded S v, wdK_decoded S v, bsK_decoded S v⟩
theorem rkA.s_decodedLength (S : MS) (v : Nat) : rkA S (S.s_decodedLength v) := ⟨lkK_decodedLength S v, lnK_decodedLength S v, adK_decodedLength S v, vlK_decodedLength S v, wdK_decodedLength S v, bsK_decodedLength S v⟩
theorem rkA.s_byteValue (S : MS) (v : Int32) : rkA S (S.s_byteValue v) := ⟨lkK_byteValue S v, lnK_byteValue S v, adK_byteValue S v, vlK_byteValue S v, wdK_byteValue S v, bsK_byteValue S v⟩
theorem rkA.s_hrefFrom (S : MS) (v : Nat) : rkA S (S.s_hrefFrom v) := ⟨lkK_hrefFrom S v, lnK_hrefFrom S v, adK_hrefFrom S v, vlK_hrefFrom S v, wdK_hrefFrom S v, bsK_hrefFrom S v⟩
theorem rkA.s_hrefEnd (S : MS) (v : Nat) : rkA S (S.s_hrefEnd v) := ⟨lkK_hrefEnd S v, lnK_hrefEnd S v, adK_hrefEnd S v, vlK_hrefEnd S v, wdK_hrefEnd S v, bsK_hrefEnd S v⟩
theorem rkA.s_hasHref (S : MS) (v : Bool) : rkA S (S.s_hasHref v) := ⟨lkK_hasHref S v, lnK_hasHref S v, adK_hasHref S v, vlK_hasHref S v, wdK_hasHref S v, bsK_hasHref S v⟩
theorem rkA.sc {S S1 : MS} (h : scA S S1) : rkA S S1 := by
  obtain ⟨m, ml, hh, hl, p, pl, q, ql, nt, mk, e⟩ := h
  rw [e]
  exact ((((((((((rkA.s_made _ _).tr (rkA.s_madeLength _ _)).tr (rkA.s_host _ _)).tr (rkA.s_hostLength _ _)).tr (rkA.s_path _ _)).tr (rkA.s_pathLength _ _)).tr (rkA.s_query _ _)).tr (rkA.s_queryLength _ _)).tr (rkA.s_neat _ _)).tr (rkA.s_marks _ _))
/-- nothing but the words -/
def wkA (S S1 : MS) : Prop := lkK S1 = lkK S ∧ lnK S1 = lnK S ∧ adK S1 = adK S ∧ vlK S1 = vlK S ∧ bsK S1 = bsK S ∧ S1.decoded = S.decoded
theorem wkA.rf (S : MS) : wkA S S := ⟨rfl, rfl, rfl, rfl, rfl, rfl⟩
theorem wkA.tr {S S1 S2 : MS} (h1 : wkA S S1) (h2 : wkA S1 S2) : wkA S S2 := ⟨h2.1.trans h1.1, h2.2.1.trans h1.2.1, h2.2.2.1.trans h1.2.2.1, h2.2.2.2.1.trans h1.2.2.2.1, h2.2.2.2.2.1.trans h1.2.2.2.2.1, h2.2.2.2.2.2.trans h1.2.2.2.2.2⟩
theorem wkA.s_words (S : MS) (v : Nat → Int32) : wkA S (S.s_words v) := ⟨lkK_words S v, lnK_words S v, adK_words S v, vlK_words S v, bsK_words S v, rfl⟩
theorem wkA.s_wordAt (S : MS) (v : Nat → Int32) : wkA S (S.s_wordAt v) := ⟨lkK_wordAt S v, lnK_wordAt S v, adK_wordAt S v, vlK_wordAt S v, bsK_wordAt S v, rfl⟩
theorem wkA.s_wordLength (S : MS) (v : Nat → Int32) : wkA S (S.s_wordLength v) := ⟨lkK_wordLength S v, lnK_wordLength S v, adK_wordLength S v, vlK_wordLength S v, bsK_wordLength S v, rfl⟩
theorem wkA.s_wordCount (S : MS) (v : Nat) : wkA S (S.s_wordCount v) := ⟨lkK_wordCount S v, lnK_wordCount S v, adK_wordCount S v, vlK_wordCount S v, bsK_wordCount S v, rfl⟩
theorem adK_f {S S1 : MS} (h : adK S1 = adK S) : S1.addresses = S.addresses ∧ S1.addressAt = S.addressAt ∧ S1.addressLength = S.addressLength ∧ S1.addressCount = S.addressCount := ⟨congrArg (fun z => z.1) h, congrArg (fun z => z.2.1) h, congrArg (fun z => z.2.2.1) h, congrArg (fun z => z.2.2.2) h⟩
theorem vlK_f {S S1 : MS} (h : vlK S1 = vlK S) : S1.values = S.values ∧ S1.valueAt = S.valueAt ∧ S1.valueLength = S.valueLength ∧ S1.valueCount = S.valueCount := ⟨congrArg (fun z => z.1) h, congrArg (fun z => z.2.1) h, congrArg (fun z => z.2.2.1) h, congrArg (fun z => z.2.2.2) h⟩
theorem wdK_f {S S1 : MS} (h : wdK S1 = wdK S) : S1.words = S.words ∧ S1.wordAt = S.wordAt ∧ S1.wordLength = S.wordLength ∧ S1.wordCount = S.wordCount := ⟨congrArg (fun z => z.1) h, congrArg (fun z => z.2.1) h, congrArg (fun z => z.2.2.1) h, congrArg (fun z => z.2.2.2) h⟩
theorem bsK_f {S S1 : MS} (h : bsK S1 = bsK S) : S1.pageBase = S.pageBase ∧ S1.hasBase = S.hasBase := ⟨congrArg (fun z => z.1) h, congrArg (fun z => z.2) h⟩
theorem lnK_f {S S1 : MS} (h : lnK S1 = lnK S) : S1.links = S.links ∧ S1.linkCount = S.linkCount := ⟨congrArg (fun z => z.1) h, congrArg (fun z => z.2) h⟩
/-- the state while a page is read: addresses, values, words, the base -/
def vlS (S : MS) (V : List (List Int32)) : Prop := S.valueCount = V.length ∧ rws S.values S.valueAt S.valueLength V
def wdS (S : MS) (Wd : List (List Int32)) : Prop := S.wordCount = Wd.length ∧ rws S.words S.wordAt S.wordLength Wd
def bsS (S : MS) (T : List (List Int32)) (D : List Int32) (bo : Option (List Int32)) : Prop := S.hasBase = bo.isSome ∧ S.pageBase < T.length ∧ gT T S.pageBase = bo.getD D
def rdS (S : MS) (T V Wd : List (List Int32)) (D : List Int32) (bo : Option (List Int32)) : Prop := adT S T ∧ (∀ x, x ∈ T → okD x) ∧ vlS S V ∧ wdS S Wd ∧ bsS S T D bo
section RDS
variable {S S1 : MS} {T T1 V Wd : List (List Int32)} {D E M : List Int32} {bo : Option (List Int32)}
theorem adT.k (h : adT S T) (e : adK S1 = adK S) : adT S1 T := by
  obtain ⟨e1, e2, e3, e4⟩ := adK_f e
  unfold adT at h ⊢
  rw [e1, e2, e3, e4]
  exact h
theorem vlS.k (h : vlS S V) (e : vlK S1 = vlK S) : vlS S1 V := by
  obtain ⟨e1, e2, e3, e4⟩ := vlK_f e
  unfold vlS at h ⊢
  rw [e1, e2, e3, e4]
  exact h
theorem wdS.k (h : wdS S Wd) (e : wdK S1 = wdK S) : wdS S1 Wd := by
  obtain ⟨e1, e2, e3, e4⟩ := wdK_f e
  unfold wdS at h ⊢
  rw [e1, e2, e3, e4]
  exact h
theorem bsS.k (h : bsS S T D bo) (e : bsK S1 = bsK S) : bsS S1 T D bo := by
  obtain ⟨e1, e2⟩ := bsK_f e
  unfold bsS at h ⊢
  rw [e1, e2]
  exact h
theorem rdS.rk (h : rdS S T V Wd D bo) (e : rkA S S1) : rdS S1 T V Wd D bo := ⟨h.1.k e.2.2.1, h.2.1, h.2.2.1.k e.2.2.2.1, h.2.2.2.1.k e.2.2.2.2.1, h.2.2.2.2.k e.2.2.2.2.2⟩
theorem rdS.wk {Wd' : List (List Int32)} (h : rdS S T V Wd D bo) (e : wkA S S1) (hw : wdS S1 Wd') : rdS S1 T V Wd' D bo := ⟨h.1.k e.2.2.1, h.2.1, h.2.2.1.k e.2.2.2.1, hw, h.2.2.2.2.k e.2.2.2.2.1⟩
/-- what reading a page may change: not the links -/
def pgA (S S1 : MS) : Prop := lkK S1 = lkK S ∧ lnK S1 = lnK S
theorem pgA.rf (S : MS) : pgA S S := ⟨rfl, rfl⟩
theorem pgA.tr {S S1 S2 : MS} (h1 : pgA S S1) (h2 : pgA S1 S2) : pgA S S2 := ⟨h2.1.trans h1.1, h2.2.trans h1.2⟩
theorem pgA.lk {S S1 : MS} (h : pgA S S1) : lkA S S1 := h.1
theorem pgA.texts {S S1 : MS} (h : pgA S S1) : S1.texts = S.texts := h.lk.texts
theorem rkA.pg {S S1 : MS} (h : rkA S S1) : pgA S S1 := ⟨h.1, h.2.1⟩
theorem wkA.pg {S S1 : MS} (h : wkA S S1) : pgA S S1 := ⟨h.1, h.2.1⟩
theorem gT_mem {k : Nat} (h : k < T.length) : gT T k ∈ T := by rw [gT_eq h]; exact List.getElem_mem h
theorem okT_of (h : ∀ x, x ∈ T → okD x) : okT T := fun k hk => by
  obtain ⟨-, h2, h3, h4, -, h6, -⟩ := h _ (gT_mem hk)
  exact ⟨h6, h2, h3, h4⟩
theorem kept.mem {S' : MS} {T' : List (List Int32)} {k : Nat} (h : kept S T D S' T' k) : ∀ x, x ∈ T' → x ∈ T ∨ x = D := by
  intro x hx
  rcases h.2.2.2.2 with q | q
  · rw [q.1] at hx; exact Or.inl hx
  · rw [q.1] at hx
    rcases List.mem_append.mp hx with z | z
    · exact Or.inl z
    · exact Or.inr (List.mem_singleton.mp z)
theorem kept.pre {S' : MS} {T' : List (List Int32)} {k : Nat} (h : kept S T D S' T' k) : T <+: T' := by
  rcases h.2.2.2.2 with q | q
  · rw [q.1]; exact List.prefix_rfl
  · rw [q.1]; exact List.prefix_append _ _
theorem gT_pre {k : Nat} (h : T <+: T1) (hk : k < T.length) : gT T1 k = gT T k := by
  obtain ⟨Y, rfl⟩ := h
  rw [gT_eq hk, gT_eq (by rw [List.length_append]; omega), List.getElem_append_left hk]
theorem pre_len (h : T <+: T1) : T.length ≤ T1.length := h.length_le
/-- nothing but the addresses -/
def akA (S S1 : MS) : Prop := lkK S1 = lkK S ∧ lnK S1 = lnK S ∧ vlK S1 = vlK S ∧ wdK S1 = wdK S ∧ bsK S1 = bsK S
theorem akA.pg {S S1 : MS} (h : akA S S1) : pgA S S1 := ⟨h.1, h.2.1⟩
theorem akA.s_addresses (S : MS) (v : Nat → Int32) : akA S (S.s_addresses v) := ⟨lkK_addresses S v, lnK_addresses S v, vlK_addresses S v, wdK_addresses S v, bsK_addresses S v⟩
theorem akA.s_addressAt (S : MS) (v : Nat → Int32) : akA S (S.s_addressAt v) := ⟨lkK_addressAt S v, lnK_addressAt S v, vlK_addressAt S v, wdK_addressAt S v, bsK_addressAt S v⟩
theorem akA.s_addressLength (S : MS) (v : Nat → Int32) : akA S (S.s_addressLength v) := ⟨lkK_addressLength S v, lnK_addressLength S v, vlK_addressLength S v, wdK_addressLength S v, bsK_addressLength S v⟩
theorem akA.s_addressCount (S : MS) (v : Nat) : akA S (S.s_addressCount v) := ⟨lkK_addressCount S v, lnK_addressCount S v, vlK_addressCount S v, wdK_addressCount S v, bsK_addressCount S v⟩
theorem akA.tr {S S1 S2 : MS} (h1 : akA S S1) (h2 : akA S1 S2) : akA S S2 := ⟨h2.1.trans h1.1, h2.2.1.trans h1.2.1, h2.2.2.1.trans h1.2.2.1, h2.2.2.2.1.trans h1.2.2.2.1, h2.2.2.2.2.trans h1.2.2.2.2⟩
theorem kept.ak {k : Nat} (h : kept S T D S1 T1 k) : akA S S1 := by
  rcases h.2.2.2.2 with q | ⟨-, -, f1, f2, f3, q⟩
  · rw [q.2]; exact ⟨rfl, rfl, rfl, rfl, rfl⟩
  · rw [q]; exact (((akA.s_addressAt _ _).tr (akA.s_addressLength _ _)).tr (akA.s_addresses _ _)).tr (akA.s_addressCount _ _)
theorem kept.rd {k : Nat} (h : rdS S T V Wd D bo) (hk : kept S T E S1 T1 k) (hE : okD E) : rdS S1 T1 V Wd D bo := by
  have ha := hk.ak
  have hm := hk.mem
  have hp := hk.pre
  obtain ⟨h1, h2, h3, h4, h5⟩ := h
  refine ⟨hk.1, fun x hx => ?_, h3.k ha.2.2.1, h4.k ha.2.2.2.1, ?_⟩
  · rcases hm x hx with q | q
    · exact h2 x q
    · rw [q]; exact hE
  · obtain ⟨e1, e2⟩ := bsK_f ha.2.2.2.2
    unfold bsS at h5 ⊢
    rw [e1, e2]
    exact ⟨h5.1, Nat.lt_of_lt_of_le h5.2.1 (pre_len hp), by rw [gT_pre hp h5.2.1]; exact h5.2.2⟩
theorem s_valS (S : MS) (a : Nat → Int32) (v : Int32) (b c : Nat → Int32) (n : Nat) : lkK (((((S.s_valueAt a).s_byteValue v).s_values b).s_valueLength c).s_valueCount n) = lkK S ∧ lnK (((((S.s_valueAt a).s_byteValue v).s_values b).s_valueLength c).s_valueCount n) = lnK S ∧ adK (((((S.s_valueAt a).s_byteValue v).s_values b).s_valueLength c).s_valueCount n) = adK S ∧ wdK (((((S.s_valueAt a).s_byteValue v).s_values b).s_valueLength c).s_valueCount n) = wdK S ∧ bsK (((((S.s_valueAt a).s_byteValue v).s_values b).s_valueLength c).s_valueCount n) = bsK S := by
  refine ⟨?_, ?_, ?_, ?_, ?_⟩
  · rw [lkK_valueCount, lkK_valueLength, lkK_values, lkK_byteValue, lkK_valueAt]
  · rw [lnK_valueCount, lnK_valueLength, lnK_values, lnK_byteValue, lnK_valueAt]
  · rw [adK_valueCount, adK_valueLength, adK_values, adK_byteValue, adK_valueAt]
  · rw [wdK_valueCount, wdK_valueLength, wdK_values, wdK_byteValue, wdK_valueAt]
  · rw [bsK_valueCount, bsK_valueLength, bsK_values, bsK_byteValue, bsK_valueAt]
theorem rdS.val (h : rdS S T V Wd D bo) {v : Int32} {q : Nat} (hq : q = M.length) : rdS (((((S.s_valueAt (upd S.valueAt V.length (nI (ofs V V.length)))).s_byteValue v).s_values (wrt S.values (ofs V V.length) M)).s_valueLength (upd S.valueLength V.length (nI q))).s_valueCount (V.length + 1)) T (V ++ [M]) Wd D bo := by
  subst hq
  obtain ⟨h1, h2, h3, h4, h5⟩ := h
  obtain ⟨-, -, e3, e4, e5⟩ := s_valS S (upd S.valueAt V.length (nI (ofs V V.length))) v (wrt S.values (ofs V V.length) M) (upd S.valueLength V.length (nI M.length)) (V.length + 1)
  exact ⟨h1.k e3, h2, ⟨by show V.length + 1 = _; rw [List.length_append]; rfl, rws_new h3.2⟩, h4.k e4, h5.k e5⟩
/-- the base was kept -/
theorem rdS.bas {S3 : MS} {T3 : List (List Int32)} {k : Nat} (h : rdS S T V Wd D none) (hk : kept (S.s_hasBase true) T E S3 T3 k) (hE : okD E) : rdS (S3.s_pageBase k) T3 V Wd D (some E) ∧ pgA S (S3.s_pageBase k) := by
  have ha := hk.ak
  have hm := hk.mem
  obtain ⟨h1, h2, h3, h4, h5⟩ := h
  refine ⟨⟨hk.1.k (adK_pageBase _ _), fun x hx => ?_, ?_, ?_, ?_, hk.2.2.1, hk.2.2.2.1⟩, ?_, ?_⟩
  · rcases hm x hx with q | q
    · exact h2 x q
    · rw [q]; exact hE
  · exact h3.k ((vlK_pageBase _ _).trans (ha.2.2.1.trans (vlK_hasBase _ _)))
  · exact h4.k ((wdK_pageBase _ _).trans (ha.2.2.2.1.trans (wdK_hasBase _ _)))
  · show S3.hasBase = true
    exact (bsK_f ha.2.2.2.2).2
  · exact (lkK_pageBase _ _).trans (ha.1.trans (lkK_hasBase _ _))
  · exact (lnK_pageBase _ _).trans (ha.2.1.trans (lnK_hasBase _ _))
end RDS
theorem isw_cg {i j : Nat} {L : List Int32} {f t : Nat} (h : cb i = cb j) : isw i L f t = isw j L f t := by
  unfold isw
  have e1 : cln i = cln j := congrArg List.length h
  have e2 : ∀ k, ch i k = ch j k := fun k => congrFun (congrArg (fun l : List Int32 => fun k => l.getD k 0) h) k
  simp only [e1, e2]
theorem isw_38 {L : List Int32} {f t : Nat} : isw 38 L f t = isw 28 L f t := isw_cg rfl
theorem isw_39 {L : List Int32} {f t : Nat} : isw 39 L f t = isw 22 L f t := isw_cg rfl
theorem isw_40 {L : List Int32} {f t : Nat} : isw 40 L f t = isw 16 L f t := isw_cg rfl
theorem isw_41 {L : List Int32} {f t : Nat} : isw 41 L f t = isw 17 L f t := isw_cg rfl
/-- a text, and scribbling -/
theorem txO.wk {A B : List va_E} {S S1 : MS} {ca s : Nat} {L : List Int32} (h : txO A B S ca s L) (e : wkA S S1) : txO A B S1 ca s L := fun S2 a1 a2 a3 a4 a5 => h S2 (a1.trans e.pg.lk.coming) (a2.trans (adK_f e.2.2.1).1) (a3.trans e.pg.texts) (a4.trans (vlK_f e.2.2.2.1).1) (a5.trans e.2.2.2.2.2)
