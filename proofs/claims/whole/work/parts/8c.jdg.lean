/-! ===== the model judges ===== -/
def lgz (o : Option Nat) : Nat := o.getD 0
theorem lgs_z {D P : List Int32} {lo : Option Nat} (hP : 1 ≤ P.length) : lgz (lgs D lo P) = if mch D P = true ∧ lgz lo < P.length then P.length else lgz lo := by
  cases lo with
  | none =>
    show lgz (if mch D P = true then some P.length else none) = if mch D P = true ∧ 0 < P.length then P.length else 0
    by_cases h : mch D P = true
    · rw [if_pos h, if_pos ⟨h, by omega⟩]; rfl
    · rw [if_neg h, if_neg (fun h9 => h h9.1)]; rfl
  | some l =>
    show lgz (if l < P.length ∧ mch D P = true then some P.length else some l) = if mch D P = true ∧ l < P.length then P.length else l
    by_cases h : l < P.length ∧ mch D P = true
    · rw [if_pos h, if_pos ⟨h.2, h.1⟩]; rfl
    · rw [if_neg h, if_neg (fun h9 => h ⟨h9.2, h9.1⟩)]; rfl
theorem lgm_app {D P : List Int32} {A : List (List Int32)} : lgm D (A ++ [P]) = lgs D (lgm D A) P := by
  unfold lgm
  rw [List.foldl_append]
  rfl
theorem lgm_1 {D : List Int32} : ∀ (A : List (List Int32)) (lo : Option Nat), (∀ x, x ∈ A → 1 ≤ x.length) → (∀ k, lo = some k → 1 ≤ k) → ∀ k, A.foldl (lgs D) lo = some k → 1 ≤ k
  | [], lo, _, h2, k, h => h2 k h
  | P :: A, lo, h1, h2, k, h => by
    refine lgm_1 A (lgs D lo P) (fun x hx => h1 x (List.mem_cons_of_mem _ hx)) (fun j hj => ?_) k h
    have hP := h1 P (List.mem_cons_self ..)
    have e := lgs_z (D := D) (P := P) (lo := lo) hP
    rw [hj] at e
    cases lo with
    | none =>
      have e2 : lgs D none P = some j := hj
      unfold lgs at e2
      dsimp only at e2
      split at e2
      · injection e2 with e3; omega
      · cases e2
    | some l =>
      have := h2 l rfl
      have e9 : lgz (some j) = j := rfl
      have e8 : lgz (some l) = l := rfl
      rw [e9, e8] at e
      split at e <;> omega
theorem alw_z {D : List Int32} {A Dd : List (List Int32)} (h1 : ∀ x, x ∈ A → 1 ≤ x.length) (h2 : ∀ x, x ∈ Dd → 1 ≤ x.length) : alw D A Dd = decide (lgz (lgm D Dd) ≤ lgz (lgm D A)) := by
  unfold alw
  have k1 := lgm_1 (D := D) A none h1 (fun k hk => by cases hk)
  have k2 := lgm_1 (D := D) Dd none h2 (fun k hk => by cases hk)
  refine decide_eq_decide.mpr ?_
  cases e1 : lgm D A with
  | none =>
    cases e2 : lgm D Dd with
    | none => exact Iff.rfl
    | some l => have := k2 l e2; show l + 1 ≤ 0 ↔ l ≤ 0; omega
  | some k =>
    cases e2 : lgm D Dd with
    | none => show 0 ≤ k + 1 ↔ 0 ≤ k; omega
    | some l => show l + 1 ≤ k + 1 ↔ l ≤ k; omega
theorem us_1 {L : List Int32} {f t : Nat} (h : f < t) : 1 ≤ (uf L f t).length := by
  rw [uf_step h, List.length_append]
  have : 1 ≤ (us L f t).length := by
    unfold us
    repeat' split
    all_goals simp
  omega
def okQ (q : ClS) : Prop := (∀ x, x ∈ q.2.2.2.1 → 1 ≤ x.length) ∧ ∀ x, x ∈ q.2.2.2.2 → 1 ≤ x.length
theorem rpt_1 {ho : Bool} {L : List Int32} {p : Nat} {T : List (List Int32)} (h : ∀ x, x ∈ T → 1 ≤ x.length) : ∀ x, x ∈ rpt ho L p T → 1 ≤ x.length := by
  unfold rpt
  split
  · rename_i h9
    intro x hx
    rcases List.mem_append.mp hx with e | e
    · exact h x e
    · rw [List.mem_singleton.mp e]; exact us_1 h9.2
  · exact h
theorem rlK_4 (L : List Int32) (p : Nat) : rlK L p = 0 ∨ rlK L p = 1 ∨ rlK L p = 2 ∨ rlK L p = 3 := by
  have := rlK_b L p
  omega
theorem rlT_ok {ag p : Nat} {L : List Int32} {q : ClS} (h : okQ q) : okQ (rlT ag L q p) := by
  rcases rlK_4 L p with e | e | e | e
  · rw [rlT_0 e]; exact h
  · rw [rlT_1 e]; exact ⟨rpt_1 h.1, h.2⟩
  · rw [rlT_2 e]; exact ⟨h.1, rpt_1 h.2⟩
  · rw [rlT_3 e]; exact h
theorem rlT_okf {ag : Nat} {L : List Int32} : ∀ (l : List Nat) (q : ClS), okQ q → okQ (l.foldl (rlT ag L) q)
  | [], q, h => h
  | p :: l, q, h => rlT_okf l _ (rlT_ok h)
theorem okQ_0 : okQ (false, false, false, [], []) := ⟨fun x hx => absurd hx List.not_mem_nil, fun x hx => absurd hx List.not_mem_nil⟩
/-- all but what judging changes -/
def jvK (S : MS) := (S.1, S.2.1, (S.textsEnd, S.textAt, S.textEnd, S.textCount, S.ruleSite, S.ruleText, S.ruleCount), S.2.2.2.1.2.2.2.2.2, S.2.2.2.2)
def jvA (S S1 : MS) : Prop := jvK S1 = jvK S
theorem jvA.rf (S : MS) : jvA S S := rfl
theorem jvA.tr {S S1 S2 : MS} (h1 : jvA S S1) (h2 : jvA S1 S2) : jvA S S2 := Eq.trans h2 h1
theorem jkA.v {S S1 : MS} (h : jkA S S1) : jvA S S1 := by
  unfold jkA jgK at h
  unfold jvA jvK
  simp only [Prod.mk.injEq] at h ⊢
  exact ⟨h.1, h.2.1, ⟨h.2.2.1.1, h.2.2.1.2.1, h.2.2.1.2.2.1, h.2.2.1.2.2.2.1, h.2.2.1.2.2.2.2.1, h.2.2.1.2.2.2.2.2.1, h.2.2.1.2.2.2.2.2.2.1⟩, h.2.2.2.1, h.2.2.2.2⟩
theorem jvA.s_key (S : MS) (v : Option Nat) : jvA S (S.s_key v) := rfl
theorem jvA.s_valueFrom (S : MS) (v : Nat) : jvA S (S.s_valueFrom v) := rfl
theorem jvA.s_valueEnd (S : MS) (v : Nat) : jvA S (S.s_valueEnd v) := rfl
theorem jvA.s_pattern (S : MS) (v : Nat → Int32) : jvA S (S.s_pattern v) := rfl
theorem jvA.s_patternLength (S : MS) (v : Nat) : jvA S (S.s_patternLength v) := rfl
theorem jvA.s_reached (S : MS) (v : Nat → Int32) : jvA S (S.s_reached v) := rfl
theorem jvA.s_holding (S : MS) (v : Nat) : jvA S (S.s_holding v) := rfl
theorem jvA.s_isAllowed (S : MS) (v : Bool) : jvA S (S.s_isAllowed v) := rfl
theorem jvA.coming {S S1 : MS} (h : jvA S S1) : S1.coming = S.coming := congrArg (fun z => z.1.1) h
theorem jvA.size {S S1 : MS} (h : jvA S S1) : S1.size = S.size := congrArg (fun z => z.1.2.1) h
theorem jvA.fault {S S1 : MS} (h : jvA S S1) : S1.fault = S.fault := congrArg (fun z => z.1.2.2.1) h
theorem jvA.product {S S1 : MS} (h : jvA S S1) : S1.product = S.product := congrArg (fun z => z.1.2.2.2.1) h
theorem jvA.productSize {S S1 : MS} (h : jvA S S1) : S1.productSize = S.productSize := congrArg (fun z => z.1.2.2.2.2.1) h
theorem jvA.addresses {S S1 : MS} (h : jvA S S1) : S1.addresses = S.addresses := congrArg (fun z => z.1.2.2.2.2.2.1) h
theorem jvA.addressAt {S S1 : MS} (h : jvA S S1) : S1.addressAt = S.addressAt := congrArg (fun z => z.1.2.2.2.2.2.2.1) h
theorem jvA.addressLength {S S1 : MS} (h : jvA S S1) : S1.addressLength = S.addressLength := congrArg (fun z => z.1.2.2.2.2.2.2.2.1) h
theorem jvA.addressCount {S S1 : MS} (h : jvA S S1) : S1.addressCount = S.addressCount := congrArg (fun z => z.1.2.2.2.2.2.2.2.2.1) h
theorem jvA.made {S S1 : MS} (h : jvA S S1) : S1.made = S.made := congrArg (fun z => z.1.2.2.2.2.2.2.2.2.2) h
theorem jvA.madeLength {S S1 : MS} (h : jvA S S1) : S1.madeLength = S.madeLength := congrArg (fun z => z.2.1.1) h
theorem jvA.host {S S1 : MS} (h : jvA S S1) : S1.host = S.host := congrArg (fun z => z.2.1.2.1) h
theorem jvA.path {S S1 : MS} (h : jvA S S1) : S1.path = S.path := congrArg (fun z => z.2.1.2.2.1) h
theorem jvA.query {S S1 : MS} (h : jvA S S1) : S1.query = S.query := congrArg (fun z => z.2.1.2.2.2.1) h
theorem jvA.neat {S S1 : MS} (h : jvA S S1) : S1.neat = S.neat := congrArg (fun z => z.2.1.2.2.2.2.1) h
theorem jvA.marks {S S1 : MS} (h : jvA S S1) : S1.marks = S.marks := congrArg (fun z => z.2.1.2.2.2.2.2.1) h
theorem jvA.hostLength {S S1 : MS} (h : jvA S S1) : S1.hostLength = S.hostLength := congrArg (fun z => z.2.1.2.2.2.2.2.2.1) h
theorem jvA.pathLength {S S1 : MS} (h : jvA S S1) : S1.pathLength = S.pathLength := congrArg (fun z => z.2.1.2.2.2.2.2.2.2.1) h
theorem jvA.queryLength {S S1 : MS} (h : jvA S S1) : S1.queryLength = S.queryLength := congrArg (fun z => z.2.1.2.2.2.2.2.2.2.2.1) h
theorem jvA.texts {S S1 : MS} (h : jvA S S1) : S1.texts = S.texts := congrArg (fun z => z.2.1.2.2.2.2.2.2.2.2.2) h
theorem jvA.textsEnd {S S1 : MS} (h : jvA S S1) : S1.textsEnd = S.textsEnd := congrArg (fun z => z.2.2.1.1) h
theorem jvA.textAt {S S1 : MS} (h : jvA S S1) : S1.textAt = S.textAt := congrArg (fun z => z.2.2.1.2.1) h
theorem jvA.textEnd {S S1 : MS} (h : jvA S S1) : S1.textEnd = S.textEnd := congrArg (fun z => z.2.2.1.2.2.1) h
theorem jvA.textCount {S S1 : MS} (h : jvA S S1) : S1.textCount = S.textCount := congrArg (fun z => z.2.2.1.2.2.2.1) h
theorem jvA.ruleSite {S S1 : MS} (h : jvA S S1) : S1.ruleSite = S.ruleSite := congrArg (fun z => z.2.2.1.2.2.2.2.1) h
theorem jvA.ruleText {S S1 : MS} (h : jvA S S1) : S1.ruleText = S.ruleText := congrArg (fun z => z.2.2.1.2.2.2.2.2.1) h
theorem jvA.ruleCount {S S1 : MS} (h : jvA S S1) : S1.ruleCount = S.ruleCount := congrArg (fun z => z.2.2.1.2.2.2.2.2.2) h
theorem jvA.decoded {S S1 : MS} (h : jvA S S1) : S1.decoded = S.decoded := congrArg (fun z => z.2.2.2.1.1) h
theorem jvA.decodedLength {S S1 : MS} (h : jvA S S1) : S1.decodedLength = S.decodedLength := congrArg (fun z => z.2.2.2.1.2.1) h
theorem jvA.words {S S1 : MS} (h : jvA S S1) : S1.words = S.words := congrArg (fun z => z.2.2.2.1.2.2.1) h
theorem jvA.wordAt {S S1 : MS} (h : jvA S S1) : S1.wordAt = S.wordAt := congrArg (fun z => z.2.2.2.1.2.2.2.1) h
theorem jvA.wordLength {S S1 : MS} (h : jvA S S1) : S1.wordLength = S.wordLength := congrArg (fun z => z.2.2.2.1.2.2.2.2) h
theorem jvA.wordCount {S S1 : MS} (h : jvA S S1) : S1.wordCount = S.wordCount := congrArg (fun z => z.2.2.2.2.1.1) h
theorem jvA.values {S S1 : MS} (h : jvA S S1) : S1.values = S.values := congrArg (fun z => z.2.2.2.2.1.2.1) h
theorem jvA.valueAt {S S1 : MS} (h : jvA S S1) : S1.valueAt = S.valueAt := congrArg (fun z => z.2.2.2.2.1.2.2.1) h
theorem jvA.valueLength {S S1 : MS} (h : jvA S S1) : S1.valueLength = S.valueLength := congrArg (fun z => z.2.2.2.2.1.2.2.2.1) h
theorem jvA.valueCount {S S1 : MS} (h : jvA S S1) : S1.valueCount = S.valueCount := congrArg (fun z => z.2.2.2.2.1.2.2.2.2.1) h
theorem jvA.pageBase {S S1 : MS} (h : jvA S S1) : S1.pageBase = S.pageBase := congrArg (fun z => z.2.2.2.2.1.2.2.2.2.2.1) h
theorem jvA.hasBase {S S1 : MS} (h : jvA S S1) : S1.hasBase = S.hasBase := congrArg (fun z => z.2.2.2.2.1.2.2.2.2.2.2.1) h
theorem jvA.byteValue {S S1 : MS} (h : jvA S S1) : S1.byteValue = S.byteValue := congrArg (fun z => z.2.2.2.2.1.2.2.2.2.2.2.2.1) h
theorem jvA.hrefFrom {S S1 : MS} (h : jvA S S1) : S1.hrefFrom = S.hrefFrom := congrArg (fun z => z.2.2.2.2.1.2.2.2.2.2.2.2.2.1) h
theorem jvA.hrefEnd {S S1 : MS} (h : jvA S S1) : S1.hrefEnd = S.hrefEnd := congrArg (fun z => z.2.2.2.2.1.2.2.2.2.2.2.2.2.2) h
theorem jvA.hasHref {S S1 : MS} (h : jvA S S1) : S1.hasHref = S.hasHref := congrArg (fun z => z.2.2.2.2.2.1.1) h
theorem jvA.pageAddress {S S1 : MS} (h : jvA S S1) : S1.pageAddress = S.pageAddress := congrArg (fun z => z.2.2.2.2.2.1.2.1) h
theorem jvA.pageStatus {S S1 : MS} (h : jvA S S1) : S1.pageStatus = S.pageStatus := congrArg (fun z => z.2.2.2.2.2.1.2.2.1) h
theorem jvA.pageText {S S1 : MS} (h : jvA S S1) : S1.pageText = S.pageText := congrArg (fun z => z.2.2.2.2.2.1.2.2.2.1) h
theorem jvA.pageCount {S S1 : MS} (h : jvA S S1) : S1.pageCount = S.pageCount := congrArg (fun z => z.2.2.2.2.2.1.2.2.2.2.1) h
theorem jvA.links {S S1 : MS} (h : jvA S S1) : S1.links = S.links := congrArg (fun z => z.2.2.2.2.2.1.2.2.2.2.2.1) h
theorem jvA.linkCount {S S1 : MS} (h : jvA S S1) : S1.linkCount = S.linkCount := congrArg (fun z => z.2.2.2.2.2.1.2.2.2.2.2.2.1) h
theorem jvA.told {S S1 : MS} (h : jvA S S1) : S1.told = S.told := congrArg (fun z => z.2.2.2.2.2.1.2.2.2.2.2.2.2.1) h
theorem jvA.held {S S1 : MS} (h : jvA S S1) : S1.held = S.held := congrArg (fun z => z.2.2.2.2.2.1.2.2.2.2.2.2.2.2.1) h
theorem jvA.seeds {S S1 : MS} (h : jvA S S1) : S1.seeds = S.seeds := congrArg (fun z => z.2.2.2.2.2.1.2.2.2.2.2.2.2.2.2) h
theorem jvA.seedCount {S S1 : MS} (h : jvA S S1) : S1.seedCount = S.seedCount := congrArg (fun z => z.2.2.2.2.2.2.1.1) h
theorem jvA.isStarted {S S1 : MS} (h : jvA S S1) : S1.isStarted = S.isStarted := congrArg (fun z => z.2.2.2.2.2.2.1.2.1) h
theorem jvA.clock {S S1 : MS} (h : jvA S S1) : S1.clock = S.clock := congrArg (fun z => z.2.2.2.2.2.2.1.2.2.1) h
theorem jvA.known {S S1 : MS} (h : jvA S S1) : S1.known = S.known := congrArg (fun z => z.2.2.2.2.2.2.1.2.2.2.1) h
theorem jvA.knownCount {S S1 : MS} (h : jvA S S1) : S1.knownCount = S.knownCount := congrArg (fun z => z.2.2.2.2.2.2.1.2.2.2.2.1) h
theorem jvA.saved {S S1 : MS} (h : jvA S S1) : S1.saved = S.saved := congrArg (fun z => z.2.2.2.2.2.2.1.2.2.2.2.2.1) h
theorem jvA.savedCount {S S1 : MS} (h : jvA S S1) : S1.savedCount = S.savedCount := congrArg (fun z => z.2.2.2.2.2.2.1.2.2.2.2.2.2.1) h
theorem jvA.askedSince {S S1 : MS} (h : jvA S S1) : S1.askedSince = S.askedSince := congrArg (fun z => z.2.2.2.2.2.2.1.2.2.2.2.2.2.2.1) h
theorem jvA.asked {S S1 : MS} (h : jvA S S1) : S1.asked = S.asked := congrArg (fun z => z.2.2.2.2.2.2.1.2.2.2.2.2.2.2.2.1) h
theorem jvA.askedClock {S S1 : MS} (h : jvA S S1) : S1.askedClock = S.askedClock := congrArg (fun z => z.2.2.2.2.2.2.1.2.2.2.2.2.2.2.2.2) h
theorem jvA.askedAddress {S S1 : MS} (h : jvA S S1) : S1.askedAddress = S.askedAddress := congrArg (fun z => z.2.2.2.2.2.2.2.1.1) h
theorem jvA.siteOf {S S1 : MS} (h : jvA S S1) : S1.siteOf = S.siteOf := congrArg (fun z => z.2.2.2.2.2.2.2.1.2.1) h
theorem jvA.siteTime {S S1 : MS} (h : jvA S S1) : S1.siteTime = S.siteTime := congrArg (fun z => z.2.2.2.2.2.2.2.1.2.2.1) h
theorem jvA.siteCount {S S1 : MS} (h : jvA S S1) : S1.siteCount = S.siteCount := congrArg (fun z => z.2.2.2.2.2.2.2.1.2.2.2.1) h
theorem jvA.otherTime {S S1 : MS} (h : jvA S S1) : S1.otherTime = S.otherTime := congrArg (fun z => z.2.2.2.2.2.2.2.1.2.2.2.2.1) h
theorem jvA.documents {S S1 : MS} (h : jvA S S1) : S1.documents = S.documents := congrArg (fun z => z.2.2.2.2.2.2.2.1.2.2.2.2.2.1) h
theorem jvA.documentAddress {S S1 : MS} (h : jvA S S1) : S1.documentAddress = S.documentAddress := congrArg (fun z => z.2.2.2.2.2.2.2.1.2.2.2.2.2.2.1) h
theorem jvA.documentText {S S1 : MS} (h : jvA S S1) : S1.documentText = S.documentText := congrArg (fun z => z.2.2.2.2.2.2.2.1.2.2.2.2.2.2.2.1) h
theorem jvA.documentNumber {S S1 : MS} (h : jvA S S1) : S1.documentNumber = S.documentNumber := congrArg (fun z => z.2.2.2.2.2.2.2.1.2.2.2.2.2.2.2.2.1) h
theorem jvA.documentCopies {S S1 : MS} (h : jvA S S1) : S1.documentCopies = S.documentCopies := congrArg (fun z => z.2.2.2.2.2.2.2.1.2.2.2.2.2.2.2.2.2) h
theorem jvA.documentWords {S S1 : MS} (h : jvA S S1) : S1.documentWords = S.documentWords := congrArg (fun z => z.2.2.2.2.2.2.2.2.1) h
theorem jvA.ranks {S S1 : MS} (h : jvA S S1) : S1.ranks = S.ranks := congrArg (fun z => z.2.2.2.2.2.2.2.2.2.1) h
theorem jvA.nextRanks {S S1 : MS} (h : jvA S S1) : S1.nextRanks = S.nextRanks := congrArg (fun z => z.2.2.2.2.2.2.2.2.2.2.1) h
theorem jvA.leads {S S1 : MS} (h : jvA S S1) : S1.leads = S.leads := congrArg (fun z => z.2.2.2.2.2.2.2.2.2.2.2.1) h
theorem jvA.hits {S S1 : MS} (h : jvA S S1) : S1.hits = S.hits := congrArg (fun z => z.2.2.2.2.2.2.2.2.2.2.2.2.1) h
theorem jvA.hitDocument {S S1 : MS} (h : jvA S S1) : S1.hitDocument = S.hitDocument := congrArg (fun z => z.2.2.2.2.2.2.2.2.2.2.2.2.2.1) h
theorem jvA.hitScore {S S1 : MS} (h : jvA S S1) : S1.hitScore = S.hitScore := congrArg (fun z => z.2.2.2.2.2.2.2.2.2.2.2.2.2.2.1) h
theorem jvA.question {S S1 : MS} (h : jvA S S1) : S1.question = S.question := congrArg (fun z => z.2.2.2.2.2.2.2.2.2.2.2.2.2.2.2.1) h
theorem jvA.questionLength {S S1 : MS} (h : jvA S S1) : S1.questionLength = S.questionLength := congrArg (fun z => z.2.2.2.2.2.2.2.2.2.2.2.2.2.2.2.2.1) h
theorem jvA.questionCount {S S1 : MS} (h : jvA S S1) : S1.questionCount = S.questionCount := congrArg (fun z => z.2.2.2.2.2.2.2.2.2.2.2.2.2.2.2.2.2) h
theorem adT.v {S S1 : MS} {T : List (List Int32)} (h : adT S T) (e : jvA S S1) : adT S1 T := by
  unfold adT at h ⊢
  rw [e.addresses, e.addressAt, e.addressLength, e.addressCount]
  exact h
theorem tyT.v {S S1 : MS} {j s : Nat} {L : List Int32} (h : tyT S j s L) (e : jvA S S1) : tyT S1 j s L := by
  unfold tyT at h ⊢
  rw [e.texts, e.textAt, e.textEnd]
  exact h
theorem adT.j {S S1 : MS} {T : List (List Int32)} (h : adT S T) (e : jkA S S1) : adT S1 T := by
  unfold adT at h ⊢
  rw [e.addresses, e.addressAt, e.addressLength, e.addressCount]
  exact h
/-- how many rules are held, and whether the address is allowed -/
def hoQ (S : MS) (q : ClS) : Prop := S.holding = q.2.2.2.1.length + q.2.2.2.2.length
section JDG
variable {X : am_X} {d s j ka : Nat} {A B : List va_E} {L D : List Int32} {T : List (List Int32)}
theorem l1_M_judge (hA : A.length = 84) (hs : s + L.length ≤ 24000) (hj : j < 1100) (hbL : btg L) (hL8 : L.length ≤ 8000) (hka : ka < T.length) (hD : gT T ka = D) (ho : okD D) : ∀ (n p : Nat) (S : MS) (q : ClS), L.length - p ≤ n → p ≤ L.length + 1 → tyT S j s L → adT S T → okQ q → hoQ S q → max (lgz (lgm D q.2.2.2.1)) (lgz (lgm D q.2.2.2.2)) ≤ 8000 → am_G X mt_M_judge (d + 7) 63 [some (.ref 84), some (.int (nI ka)), none, some (.int (nI j)), some (.int 1), some (.int (b1 q.2.1)), some (.int (b1 q.2.2.1)), some (.int (nI (max (lgz (lgm D q.2.2.2.1)) (lgz (lgm D q.2.2.2.2))))), some (.int (b1 (decide (lgz (lgm D q.2.2.2.2) ≤ lgz (lgm D q.2.2.2.1))))), some (.int (nI (s + p)))] [] (mput A S B) (fun r h1 => r = none ∧ ∃ S1, h1 = mput A S1 B ∧ jvA S S1 ∧ hoQ S1 ((lns L n p).foldl (rlT 15 L) q) ∧ S1.isAllowed = alw D ((lns L n p).foldl (rlT 15 L) q).2.2.2.1 ((lns L n p).foldl (rlT 15 L) q).2.2.2.2)
  | 0, p, S, q, hm, hp1, hX, hT, hk, hq, hlg => by
    refine g_iload (pc := 63) dc_M_judge_63 rfl ?_
    refine g_aload_n (pc := 65) dc_M_judge_65 rfl ?_
    refine g_getfield (pc := 66) dc_M_judge_66 fl_M_146 (mp_o hA) rfl ?_
    refine g_iload_n (pc := 69) dc_M_judge_69 rfl ?_
    refine q_ialoadV (pc := 70) j dc_M_judge_70 (mp_a hA 14 rfl) (by omega) (by omega) (v := (nI (s + L.length))) hX.2.2 ?_
    refine q_icmp_ge (pc := 71) (tgt := 254) (s + p) (s + L.length) dc_M_judge_71 (by omega) (by omega) rfl (fun hc71 => ?_) (fun hc => absurd hc (by omega))
    refine g_aload_n (pc := 254) dc_M_judge_254 rfl ?_
    refine g_iload (pc := 255) dc_M_judge_255 rfl ?_
    refine pf_isAllowed (pc := 257) (v := decide (lgz (lgm D q.2.2.2.2) ≤ lgz (lgm D q.2.2.2.1))) hA dc_M_judge_257 fp_M_judge_197 ?_
    exact g_return dc_M_judge_260 rfl ⟨rfl, _, rfl, jvA.s_isAllowed _ _, by rw [show lns L 0 p = [] from rfl, List.foldl_nil]; exact hq, by rw [show lns L 0 p = [] from rfl, List.foldl_nil]; exact (alw_z hk.1 hk.2).symm⟩
  | n + 1, p, S, q, hm, hp1, hX, hT, hk, hq, hlg => by
    by_cases hp : p < L.length
    · have hrb := rl_bd (L := L) (p := p) (by omega)
      rw [lns_s hp, List.foldl_cons]
      refine g_iload (pc := 63) dc_M_judge_63 rfl ?_
      refine g_aload_n (pc := 65) dc_M_judge_65 rfl ?_
      refine g_getfield (pc := 66) dc_M_judge_66 fl_M_146 (mp_o hA) rfl ?_
      refine g_iload_n (pc := 69) dc_M_judge_69 rfl ?_
      refine q_ialoadV (pc := 70) j dc_M_judge_70 (mp_a hA 14 rfl) (by omega) (by omega) (v := (nI (s + L.length))) hX.2.2 ?_
      refine q_icmp_ge (pc := 71) (tgt := 254) (s + p) (s + L.length) dc_M_judge_71 (by omega) (by omega) rfl (fun hc => absurd hc (by omega)) (fun hc71 => ?_)
      refine g_aload_n (pc := 74) dc_M_judge_74 rfl ?_
      refine g_iload (pc := 75) dc_M_judge_75 rfl ?_
      refine g_aload_n (pc := 77) dc_M_judge_77 rfl ?_
      refine g_getfield (pc := 78) dc_M_judge_78 fl_M_146 (mp_o hA) rfl ?_
      refine g_iload_n (pc := 81) dc_M_judge_81 rfl ?_
      refine q_ialoadV (pc := 82) j dc_M_judge_82 (mp_a hA 14 rfl) (by omega) (by omega) (v := (nI (s + L.length))) hX.2.2 ?_
      refine g_v2 (pc := 83) (M' := mt_M_readLine) dc_M_judge_83 mo_M_readLine im_M_readLine se_M_readLine ln_M_176 (mp_o hA) rfl rfl (Nat.le_of_ble_eq_true rfl) (Nat.le_of_ble_eq_true rfl) (am_G.mono (c_M_readLine (d := d + 1) hA hs hX.1 (show p ≤ L.length by omega)) ?_)
      intro r h1 hz
      obtain ⟨hz1, S2, hz2, hz3, hz4⟩ := hz
      rw [hz1, hz2]
      clear hz1 hz2 h1 r
      have hX2 := hX.j hz3
      have hT2 := hT.j hz3
      have hq2 : hoQ S2 q := hz3.holding.trans hq
      refine ⟨am_nti _, ?_⟩
      refine g_istore (pc := 86) dc_M_judge_86 (by decide) ?_
      show am_G X mt_M_judge _ 88 [some (.ref 84), some (.int (nI ka)), none, some (.int (nI j)), some (.int 1), some (.int (b1 q.2.1)), some (.int (b1 q.2.2.1)), some (.int (nI (max (lgz (lgm D q.2.2.2.1)) (lgz (lgm D q.2.2.2.2))))), some (.int (b1 (decide (lgz (lgm D q.2.2.2.2) ≤ lgz (lgm D q.2.2.2.1))))), some (.int (nI (s + (rlE L p + 1))))] [] _ _
      rcases rlK_4 L p with hk9 | hk9 | hk9 | hk9
      · have hko : S2.key = some 0 := by rw [hz4.1]; unfold rlO; rw [hk9]; rfl
        have hcs := rlK_c (L := L) (p := p) (by rw [hk9]; decide)
        have hvw := rl_vw (L := L) (p := p) (by omega)
        have hul := uf_len (L := L) (t := rlW L p) (rlW L p - rlV L p) (rlV L p) (Nat.le_refl _)
        refine g_aload_n (pc := 88) dc_M_judge_88 rfl ?_
        refine g_getfield (pc := 89) (v := .int 0) dc_M_judge_89 fl_M_159 (mp_o hA) (congrArg (fun z => some (Value.int (er z))) hko) ?_
        refine g_if_ne (pc := 92) (tgt := 127) dc_M_judge_92 rfl (fun hc => absurd hc (by decide)) (fun _ => ?_)
        refine g_iload (pc := 95) dc_M_judge_95 rfl ?_
        refine q_ifb_eq (pc := 97) (tgt := 105) dc_M_judge_97 rfl (fun hc97 => ?_) (fun hc97 => ?_)
        · refine g_aload_n (pc := 105) dc_M_judge_105 rfl ?_
          refine g_iload (pc := 106) dc_M_judge_106 rfl ?_
          refine g_v1 (pc := 108) (M' := mt_M_isAgent) dc_M_judge_108 mo_M_isAgent im_M_isAgent se_M_isAgent ln_M_180 (mp_o hA) rfl rfl (Nat.le_of_ble_eq_true rfl) (Nat.le_of_ble_eq_true rfl) (am_G.mono (c1_M_isAgent (d := d + 1) (f := rlV L p) (t := rlW L p) hA hs hX2.1 (hz4.2 hcs).1 (hz4.2 hcs).2 (by omega) (by omega)) ?_)
          intro r h1 hq
          rw [hq.1, hq.2]
          clear hq h1 r
          refine ⟨am_nti _, ?_⟩
          refine q_ifb_eq (pc := 111) (tgt := 118) dc_M_judge_111 rfl (fun hc111 => ?_) (fun hc111 => ?_)
          · refine g_iconst (pc := 118) (v := 0) dc_M_judge_118 rfl ?_
            refine g_istore (pc := 119) dc_M_judge_119 (by decide) ?_
            show am_G X mt_M_judge _ 121 [some (.ref 84), some (.int (nI ka)), none, some (.int (nI j)), some (.int 1), some (.int (b1 q.2.1)), some (.int 0), some (.int (nI (max (lgz (lgm D q.2.2.2.1)) (lgz (lgm D q.2.2.2.2))))), some (.int (b1 (decide (lgz (lgm D q.2.2.2.2) ≤ lgz (lgm D q.2.2.2.1))))), some (.int (nI (s + (rlE L p + 1))))] [] _ _
            refine g_iconst (pc := 121) (v := 1) dc_M_judge_121 rfl ?_
            refine g_istore (pc := 122) dc_M_judge_122 (by decide) ?_
            show am_G X mt_M_judge _ 124 [some (.ref 84), some (.int (nI ka)), none, some (.int (nI j)), some (.int 1), some (.int 1), some (.int 0), some (.int (nI (max (lgz (lgm D q.2.2.2.1)) (lgz (lgm D q.2.2.2.2))))), some (.int (b1 (decide (lgz (lgm D q.2.2.2.2) ≤ lgz (lgm D q.2.2.2.1))))), some (.int (nI (s + (rlE L p + 1))))] [] _ _
            refine g_goto (pc := 124) (tgt := 63) dc_M_judge_124 rfl ?_
            have e5 : b1 (rlT 15 L q p).2.1 = 1 := by rw [rlT_0 hk9]; rfl
            have e6 : b1 (rlT 15 L q p).2.2.1 = 0 := by rw [rlT_0 hk9]; show b1 (isw 15 L (rlV L p) (rlW L p) || (q.2.1 && q.2.2.1)) = _; simp [hc97, hc111, b1]
            have e7 : nI (max (lgz (lgm D (rlT 15 L q p).2.2.2.1)) (lgz (lgm D (rlT 15 L q p).2.2.2.2))) = (nI (max (lgz (lgm D q.2.2.2.1)) (lgz (lgm D q.2.2.2.2)))) := by rw [rlT_0 hk9]
            have e8 : b1 (decide (lgz (lgm D (rlT 15 L q p).2.2.2.2) ≤ lgz (lgm D (rlT 15 L q p).2.2.2.1))) = (b1 (decide (lgz (lgm D q.2.2.2.2) ≤ lgz (lgm D q.2.2.2.1)))) := by rw [rlT_0 hk9]
            have hj9 : jvA S S2 := hz3.v
            have hq9 : hoQ S2 (rlT 15 L q p) := by rw [rlT_0 hk9]; exact hq2
            have hl9 : max (lgz (lgm D (rlT 15 L q p).2.2.2.1)) (lgz (lgm D (rlT 15 L q p).2.2.2.2)) ≤ 8000 := by rw [rlT_0 hk9]; exact hlg
            have h9 := l1_M_judge hA hs hj hbL hL8 hka hD ho n (rlE L p + 1) S2 (rlT 15 L q p) (by omega) (by omega) (hX.v hj9) (hT.v hj9) (rlT_ok hk) hq9 hl9
            rw [e5, e6, e7, e8] at h9
            refine am_G.mono h9 (fun r h1 hz => ?_)
            obtain ⟨y1, S1, y2, y3, y4⟩ := hz
            exact ⟨y1, S1, y2, jvA.tr hj9 y3, y4⟩
          · refine g_iconst (pc := 114) (v := 1) dc_M_judge_114 rfl ?_
            refine g_goto (pc := 115) (tgt := 119) dc_M_judge_115 rfl ?_
            refine g_istore (pc := 119) dc_M_judge_119 (by decide) ?_
            show am_G X mt_M_judge _ 121 [some (.ref 84), some (.int (nI ka)), none, some (.int (nI j)), some (.int 1), some (.int (b1 q.2.1)), some (.int 1), some (.int (nI (max (lgz (lgm D q.2.2.2.1)) (lgz (lgm D q.2.2.2.2))))), some (.int (b1 (decide (lgz (lgm D q.2.2.2.2) ≤ lgz (lgm D q.2.2.2.1))))), some (.int (nI (s + (rlE L p + 1))))] [] _ _
            refine g_iconst (pc := 121) (v := 1) dc_M_judge_121 rfl ?_
            refine g_istore (pc := 122) dc_M_judge_122 (by decide) ?_
            show am_G X mt_M_judge _ 124 [some (.ref 84), some (.int (nI ka)), none, some (.int (nI j)), some (.int 1), some (.int 1), some (.int 1), some (.int (nI (max (lgz (lgm D q.2.2.2.1)) (lgz (lgm D q.2.2.2.2))))), some (.int (b1 (decide (lgz (lgm D q.2.2.2.2) ≤ lgz (lgm D q.2.2.2.1))))), some (.int (nI (s + (rlE L p + 1))))] [] _ _
            refine g_goto (pc := 124) (tgt := 63) dc_M_judge_124 rfl ?_
            have e5 : b1 (rlT 15 L q p).2.1 = 1 := by rw [rlT_0 hk9]; rfl
            have e6 : b1 (rlT 15 L q p).2.2.1 = 1 := by rw [rlT_0 hk9]; show b1 (isw 15 L (rlV L p) (rlW L p) || (q.2.1 && q.2.2.1)) = _; simp [hc97, hc111, b1]
            have e7 : nI (max (lgz (lgm D (rlT 15 L q p).2.2.2.1)) (lgz (lgm D (rlT 15 L q p).2.2.2.2))) = (nI (max (lgz (lgm D q.2.2.2.1)) (lgz (lgm D q.2.2.2.2)))) := by rw [rlT_0 hk9]
            have e8 : b1 (decide (lgz (lgm D (rlT 15 L q p).2.2.2.2) ≤ lgz (lgm D (rlT 15 L q p).2.2.2.1))) = (b1 (decide (lgz (lgm D q.2.2.2.2) ≤ lgz (lgm D q.2.2.2.1)))) := by rw [rlT_0 hk9]
            have hj9 : jvA S S2 := hz3.v
            have hq9 : hoQ S2 (rlT 15 L q p) := by rw [rlT_0 hk9]; exact hq2
            have hl9 : max (lgz (lgm D (rlT 15 L q p).2.2.2.1)) (lgz (lgm D (rlT 15 L q p).2.2.2.2)) ≤ 8000 := by rw [rlT_0 hk9]; exact hlg
            have h9 := l1_M_judge hA hs hj hbL hL8 hka hD ho n (rlE L p + 1) S2 (rlT 15 L q p) (by omega) (by omega) (hX.v hj9) (hT.v hj9) (rlT_ok hk) hq9 hl9
            rw [e5, e6, e7, e8] at h9
            refine am_G.mono h9 (fun r h1 hz => ?_)
            obtain ⟨y1, S1, y2, y3, y4⟩ := hz
            exact ⟨y1, S1, y2, jvA.tr hj9 y3, y4⟩
        · refine g_iload (pc := 100) dc_M_judge_100 rfl ?_
          refine q_ifb_ne (pc := 102) (tgt := 114) dc_M_judge_102 rfl (fun hc102 => ?_) (fun hc102 => ?_)
          · refine g_iconst (pc := 114) (v := 1) dc_M_judge_114 rfl ?_
            refine g_goto (pc := 115) (tgt := 119) dc_M_judge_115 rfl ?_
            refine g_istore (pc := 119) dc_M_judge_119 (by decide) ?_
            show am_G X mt_M_judge _ 121 [some (.ref 84), some (.int (nI ka)), none, some (.int (nI j)), some (.int 1), some (.int (b1 q.2.1)), some (.int 1), some (.int (nI (max (lgz (lgm D q.2.2.2.1)) (lgz (lgm D q.2.2.2.2))))), some (.int (b1 (decide (lgz (lgm D q.2.2.2.2) ≤ lgz (lgm D q.2.2.2.1))))), some (.int (nI (s + (rlE L p + 1))))] [] _ _
            refine g_iconst (pc := 121) (v := 1) dc_M_judge_121 rfl ?_
            refine g_istore (pc := 122) dc_M_judge_122 (by decide) ?_
            show am_G X mt_M_judge _ 124 [some (.ref 84), some (.int (nI ka)), none, some (.int (nI j)), some (.int 1), some (.int 1), some (.int 1), some (.int (nI (max (lgz (lgm D q.2.2.2.1)) (lgz (lgm D q.2.2.2.2))))), some (.int (b1 (decide (lgz (lgm D q.2.2.2.2) ≤ lgz (lgm D q.2.2.2.1))))), some (.int (nI (s + (rlE L p + 1))))] [] _ _
            refine g_goto (pc := 124) (tgt := 63) dc_M_judge_124 rfl ?_
            have e5 : b1 (rlT 15 L q p).2.1 = 1 := by rw [rlT_0 hk9]; rfl
            have e6 : b1 (rlT 15 L q p).2.2.1 = 1 := by rw [rlT_0 hk9]; show b1 (isw 15 L (rlV L p) (rlW L p) || (q.2.1 && q.2.2.1)) = _; simp [hc97, hc102, b1]
            have e7 : nI (max (lgz (lgm D (rlT 15 L q p).2.2.2.1)) (lgz (lgm D (rlT 15 L q p).2.2.2.2))) = (nI (max (lgz (lgm D q.2.2.2.1)) (lgz (lgm D q.2.2.2.2)))) := by rw [rlT_0 hk9]
            have e8 : b1 (decide (lgz (lgm D (rlT 15 L q p).2.2.2.2) ≤ lgz (lgm D (rlT 15 L q p).2.2.2.1))) = (b1 (decide (lgz (lgm D q.2.2.2.2) ≤ lgz (lgm D q.2.2.2.1)))) := by rw [rlT_0 hk9]
            have hj9 : jvA S S2 := hz3.v
            have hq9 : hoQ S2 (rlT 15 L q p) := by rw [rlT_0 hk9]; exact hq2
            have hl9 : max (lgz (lgm D (rlT 15 L q p).2.2.2.1)) (lgz (lgm D (rlT 15 L q p).2.2.2.2)) ≤ 8000 := by rw [rlT_0 hk9]; exact hlg
            have h9 := l1_M_judge hA hs hj hbL hL8 hka hD ho n (rlE L p + 1) S2 (rlT 15 L q p) (by omega) (by omega) (hX.v hj9) (hT.v hj9) (rlT_ok hk) hq9 hl9
            rw [e5, e6, e7, e8] at h9
            refine am_G.mono h9 (fun r h1 hz => ?_)
            obtain ⟨y1, S1, y2, y3, y4⟩ := hz
            exact ⟨y1, S1, y2, jvA.tr hj9 y3, y4⟩
          · refine g_aload_n (pc := 105) dc_M_judge_105 rfl ?_
            refine g_iload (pc := 106) dc_M_judge_106 rfl ?_
            refine g_v1 (pc := 108) (M' := mt_M_isAgent) dc_M_judge_108 mo_M_isAgent im_M_isAgent se_M_isAgent ln_M_180 (mp_o hA) rfl rfl (Nat.le_of_ble_eq_true rfl) (Nat.le_of_ble_eq_true rfl) (am_G.mono (c1_M_isAgent (d := d + 1) (f := rlV L p) (t := rlW L p) hA hs hX2.1 (hz4.2 hcs).1 (hz4.2 hcs).2 (by omega) (by omega)) ?_)
            intro r h1 hq
            rw [hq.1, hq.2]
            clear hq h1 r
            refine ⟨am_nti _, ?_⟩
            refine q_ifb_eq (pc := 111) (tgt := 118) dc_M_judge_111 rfl (fun hc111 => ?_) (fun hc111 => ?_)
            · refine g_iconst (pc := 118) (v := 0) dc_M_judge_118 rfl ?_
              refine g_istore (pc := 119) dc_M_judge_119 (by decide) ?_
              show am_G X mt_M_judge _ 121 [some (.ref 84), some (.int (nI ka)), none, some (.int (nI j)), some (.int 1), some (.int (b1 q.2.1)), some (.int 0), some (.int (nI (max (lgz (lgm D q.2.2.2.1)) (lgz (lgm D q.2.2.2.2))))), some (.int (b1 (decide (lgz (lgm D q.2.2.2.2) ≤ lgz (lgm D q.2.2.2.1))))), some (.int (nI (s + (rlE L p + 1))))] [] _ _
              refine g_iconst (pc := 121) (v := 1) dc_M_judge_121 rfl ?_
              refine g_istore (pc := 122) dc_M_judge_122 (by decide) ?_
              show am_G X mt_M_judge _ 124 [some (.ref 84), some (.int (nI ka)), none, some (.int (nI j)), some (.int 1), some (.int 1), some (.int 0), some (.int (nI (max (lgz (lgm D q.2.2.2.1)) (lgz (lgm D q.2.2.2.2))))), some (.int (b1 (decide (lgz (lgm D q.2.2.2.2) ≤ lgz (lgm D q.2.2.2.1))))), some (.int (nI (s + (rlE L p + 1))))] [] _ _
              refine g_goto (pc := 124) (tgt := 63) dc_M_judge_124 rfl ?_
              have e5 : b1 (rlT 15 L q p).2.1 = 1 := by rw [rlT_0 hk9]; rfl
              have e6 : b1 (rlT 15 L q p).2.2.1 = 0 := by rw [rlT_0 hk9]; show b1 (isw 15 L (rlV L p) (rlW L p) || (q.2.1 && q.2.2.1)) = _; simp [hc97, hc102, hc111, b1]
              have e7 : nI (max (lgz (lgm D (rlT 15 L q p).2.2.2.1)) (lgz (lgm D (rlT 15 L q p).2.2.2.2))) = (nI (max (lgz (lgm D q.2.2.2.1)) (lgz (lgm D q.2.2.2.2)))) := by rw [rlT_0 hk9]
              have e8 : b1 (decide (lgz (lgm D (rlT 15 L q p).2.2.2.2) ≤ lgz (lgm D (rlT 15 L q p).2.2.2.1))) = (b1 (decide (lgz (lgm D q.2.2.2.2) ≤ lgz (lgm D q.2.2.2.1)))) := by rw [rlT_0 hk9]
              have hj9 : jvA S S2 := hz3.v
              have hq9 : hoQ S2 (rlT 15 L q p) := by rw [rlT_0 hk9]; exact hq2
              have hl9 : max (lgz (lgm D (rlT 15 L q p).2.2.2.1)) (lgz (lgm D (rlT 15 L q p).2.2.2.2)) ≤ 8000 := by rw [rlT_0 hk9]; exact hlg
              have h9 := l1_M_judge hA hs hj hbL hL8 hka hD ho n (rlE L p + 1) S2 (rlT 15 L q p) (by omega) (by omega) (hX.v hj9) (hT.v hj9) (rlT_ok hk) hq9 hl9
              rw [e5, e6, e7, e8] at h9
              refine am_G.mono h9 (fun r h1 hz => ?_)
              obtain ⟨y1, S1, y2, y3, y4⟩ := hz
              exact ⟨y1, S1, y2, jvA.tr hj9 y3, y4⟩
            · refine g_iconst (pc := 114) (v := 1) dc_M_judge_114 rfl ?_
              refine g_goto (pc := 115) (tgt := 119) dc_M_judge_115 rfl ?_
              refine g_istore (pc := 119) dc_M_judge_119 (by decide) ?_
              show am_G X mt_M_judge _ 121 [some (.ref 84), some (.int (nI ka)), none, some (.int (nI j)), some (.int 1), some (.int (b1 q.2.1)), some (.int 1), some (.int (nI (max (lgz (lgm D q.2.2.2.1)) (lgz (lgm D q.2.2.2.2))))), some (.int (b1 (decide (lgz (lgm D q.2.2.2.2) ≤ lgz (lgm D q.2.2.2.1))))), some (.int (nI (s + (rlE L p + 1))))] [] _ _
              refine g_iconst (pc := 121) (v := 1) dc_M_judge_121 rfl ?_
              refine g_istore (pc := 122) dc_M_judge_122 (by decide) ?_
              show am_G X mt_M_judge _ 124 [some (.ref 84), some (.int (nI ka)), none, some (.int (nI j)), some (.int 1), some (.int 1), some (.int 1), some (.int (nI (max (lgz (lgm D q.2.2.2.1)) (lgz (lgm D q.2.2.2.2))))), some (.int (b1 (decide (lgz (lgm D q.2.2.2.2) ≤ lgz (lgm D q.2.2.2.1))))), some (.int (nI (s + (rlE L p + 1))))] [] _ _
              refine g_goto (pc := 124) (tgt := 63) dc_M_judge_124 rfl ?_
              have e5 : b1 (rlT 15 L q p).2.1 = 1 := by rw [rlT_0 hk9]; rfl
              have e6 : b1 (rlT 15 L q p).2.2.1 = 1 := by rw [rlT_0 hk9]; show b1 (isw 15 L (rlV L p) (rlW L p) || (q.2.1 && q.2.2.1)) = _; simp [hc97, hc102, hc111, b1]
              have e7 : nI (max (lgz (lgm D (rlT 15 L q p).2.2.2.1)) (lgz (lgm D (rlT 15 L q p).2.2.2.2))) = (nI (max (lgz (lgm D q.2.2.2.1)) (lgz (lgm D q.2.2.2.2)))) := by rw [rlT_0 hk9]
              have e8 : b1 (decide (lgz (lgm D (rlT 15 L q p).2.2.2.2) ≤ lgz (lgm D (rlT 15 L q p).2.2.2.1))) = (b1 (decide (lgz (lgm D q.2.2.2.2) ≤ lgz (lgm D q.2.2.2.1)))) := by rw [rlT_0 hk9]
              have hj9 : jvA S S2 := hz3.v
              have hq9 : hoQ S2 (rlT 15 L q p) := by rw [rlT_0 hk9]; exact hq2
              have hl9 : max (lgz (lgm D (rlT 15 L q p).2.2.2.1)) (lgz (lgm D (rlT 15 L q p).2.2.2.2)) ≤ 8000 := by rw [rlT_0 hk9]; exact hlg
              have h9 := l1_M_judge hA hs hj hbL hL8 hka hD ho n (rlE L p + 1) S2 (rlT 15 L q p) (by omega) (by omega) (hX.v hj9) (hT.v hj9) (rlT_ok hk) hq9 hl9
              rw [e5, e6, e7, e8] at h9
              refine am_G.mono h9 (fun r h1 hz => ?_)
              obtain ⟨y1, S1, y2, y3, y4⟩ := hz
              exact ⟨y1, S1, y2, jvA.tr hj9 y3, y4⟩
      · have hko : S2.key = some 1 := by rw [hz4.1]; unfold rlO; rw [hk9]; rfl
        have hcs := rlK_c (L := L) (p := p) (by rw [hk9]; decide)
        have hvw := rl_vw (L := L) (p := p) (by omega)
        have hul := uf_len (L := L) (t := rlW L p) (rlW L p - rlV L p) (rlV L p) (Nat.le_refl _)
        refine g_aload_n (pc := 88) dc_M_judge_88 rfl ?_
        refine g_getfield (pc := 89) (v := .int 1) dc_M_judge_89 fl_M_159 (mp_o hA) (congrArg (fun z => some (Value.int (er z))) hko) ?_
        refine g_if_ne (pc := 92) (tgt := 127) dc_M_judge_92 rfl (fun _ => ?_) (fun hc => absurd hc (by decide))
        refine g_aload_n (pc := 127) dc_M_judge_127 rfl ?_
        refine g_getfield (pc := 128) (v := .int 1) dc_M_judge_128 fl_M_159 (mp_o hA) (congrArg (fun z => some (Value.int (er z))) hko) ?_
        refine g_if_le (pc := 131) (tgt := 63) dc_M_judge_131 rfl (fun hc => absurd hc (by decide)) (fun _ => ?_)
        refine g_iconst (pc := 134) (v := 0) dc_M_judge_134 rfl ?_
        refine g_istore (pc := 135) dc_M_judge_135 (by decide) ?_
        show am_G X mt_M_judge _ 137 [some (.ref 84), some (.int (nI ka)), none, some (.int (nI j)), some (.int 1), some (.int 0), some (.int (b1 q.2.2.1)), some (.int (nI (max (lgz (lgm D q.2.2.2.1)) (lgz (lgm D q.2.2.2.2))))), some (.int (b1 (decide (lgz (lgm D q.2.2.2.2) ≤ lgz (lgm D q.2.2.2.1))))), some (.int (nI (s + (rlE L p + 1))))] [] _ _
        refine g_aload_n (pc := 137) dc_M_judge_137 rfl ?_
        refine g_aload_n (pc := 138) dc_M_judge_138 rfl ?_
        refine g_getfield (pc := 139) dc_M_judge_139 fl_M_140 (mp_o hA) rfl ?_
        refine g_aload_n (pc := 142) dc_M_judge_142 rfl ?_
        refine g_getfield (pc := 143) (v := .int (nI (s + rlV L p))) dc_M_judge_143 fl_M_168 (mp_o hA) (congrArg (fun z => some (Value.int (nI z))) (hz4.2 hcs).1) ?_
        refine g_aload_n (pc := 146) dc_M_judge_146 rfl ?_
        refine g_getfield (pc := 147) (v := .int (nI (s + rlW L p))) dc_M_judge_147 fl_M_171 (mp_o hA) (congrArg (fun z => some (Value.int (nI z))) (hz4.2 hcs).2) ?_
        refine g_aload_n (pc := 150) dc_M_judge_150 rfl ?_
        refine g_getfield (pc := 151) dc_M_judge_151 fl_M_191 (mp_o hA) rfl ?_
        refine g_iconst (pc := 154) (v := 0) dc_M_judge_154 rfl ?_
        refine g_s5 (pc := 155) (M' := mt_M_unfold) dc_M_judge_155 mo_M_unfold st_M_unfold ln_M_94 (Nat.le_of_ble_eq_true rfl) (Nat.le_of_ble_eq_true rfl) (am_G.mono (c_M_unfold_pattern (d := d + 4) (S := S2) (L := L) (f := rlV L p) (t := rlW L p) (n := 0) (a := 96) (s := s) hA hbL (by omega) (by omega) (by omega) (tt_txt hA hX2.1 hs) (by omega)) ?_)
        intro r h1 hq
        rw [hq.1, hq.2]
        clear hq h1 r
        refine ⟨am_nti _, ?_⟩
        rw [Nat.zero_add]
        refine pf_patternLength (pc := 158) (v := (uf L (rlV L p) (rlW L p)).length) hA dc_M_judge_158 fp_M_judge_188 ?_
        refine g_iload (pc := 161) dc_M_judge_161 rfl ?_
        refine q_ifb_eq (pc := 163) (tgt := 63) dc_M_judge_163 rfl (fun hc163 => ?_) (fun hc163 => ?_)
        · have hrp : rpt q.2.2.1 L p q.2.2.2.1 = q.2.2.2.1 := if_neg (fun h9 => by rw [hc163] at h9; exact absurd h9.1 (by decide))
          have e5 : b1 (rlT 15 L q p).2.1 = 0 := by rw [rlT_1 hk9]; rfl
          have e6 : b1 (rlT 15 L q p).2.2.1 = (b1 q.2.2.1) := by rw [rlT_1 hk9]
          have e7 : nI (max (lgz (lgm D (rlT 15 L q p).2.2.2.1)) (lgz (lgm D (rlT 15 L q p).2.2.2.2))) = (nI (max (lgz (lgm D q.2.2.2.1)) (lgz (lgm D q.2.2.2.2)))) := by rw [rlT_1 hk9, hrp]
          have e8 : b1 (decide (lgz (lgm D (rlT 15 L q p).2.2.2.2) ≤ lgz (lgm D (rlT 15 L q p).2.2.2.1))) = (b1 (decide (lgz (lgm D q.2.2.2.2) ≤ lgz (lgm D q.2.2.2.1)))) := by rw [rlT_1 hk9, hrp]
          have hj9 : jvA S ((S2.s_pattern (wrt S2.pattern 0 (uf L (rlV L p) (rlW L p)))).s_patternLength (uf L (rlV L p) (rlW L p)).length) := ((hz3.v.tr (jvA.s_pattern _ _)).tr (jvA.s_patternLength _ _))
          have hq9 : hoQ ((S2.s_pattern (wrt S2.pattern 0 (uf L (rlV L p) (rlW L p)))).s_patternLength (uf L (rlV L p) (rlW L p)).length) (rlT 15 L q p) := by rw [rlT_1 hk9, hrp]; exact hq2
          have hl9 : max (lgz (lgm D (rlT 15 L q p).2.2.2.1)) (lgz (lgm D (rlT 15 L q p).2.2.2.2)) ≤ 8000 := by rw [rlT_1 hk9, hrp]; exact hlg
          have h9 := l1_M_judge hA hs hj hbL hL8 hka hD ho n (rlE L p + 1) ((S2.s_pattern (wrt S2.pattern 0 (uf L (rlV L p) (rlW L p)))).s_patternLength (uf L (rlV L p) (rlW L p)).length) (rlT 15 L q p) (by omega) (by omega) (hX.v hj9) (hT.v hj9) (rlT_ok hk) hq9 hl9
          rw [e5, e6, e7, e8] at h9
          refine am_G.mono h9 (fun r h1 hz => ?_)
          obtain ⟨y1, S1, y2, y3, y4⟩ := hz
          exact ⟨y1, S1, y2, jvA.tr hj9 y3, y4⟩
        · refine g_aload_n (pc := 166) dc_M_judge_166 rfl ?_
          refine g_getfield (pc := 167) dc_M_judge_167 fl_M_188 (mp_o hA) rfl ?_
          refine q_if_le (pc := 170) (tgt := 63) ((uf L (rlV L p) (rlW L p)).length) dc_M_judge_170 (by omega) rfl (fun hc170 => ?_) (fun hc170 => ?_)
          · have hrp : rpt q.2.2.1 L p q.2.2.2.1 = q.2.2.2.1 := if_neg (fun h9 => by have h8 := us_1 (L := L) h9.2; omega)
            have e5 : b1 (rlT 15 L q p).2.1 = 0 := by rw [rlT_1 hk9]; rfl
            have e6 : b1 (rlT 15 L q p).2.2.1 = (b1 q.2.2.1) := by rw [rlT_1 hk9]
            have e7 : nI (max (lgz (lgm D (rlT 15 L q p).2.2.2.1)) (lgz (lgm D (rlT 15 L q p).2.2.2.2))) = (nI (max (lgz (lgm D q.2.2.2.1)) (lgz (lgm D q.2.2.2.2)))) := by rw [rlT_1 hk9, hrp]
            have e8 : b1 (decide (lgz (lgm D (rlT 15 L q p).2.2.2.2) ≤ lgz (lgm D (rlT 15 L q p).2.2.2.1))) = (b1 (decide (lgz (lgm D q.2.2.2.2) ≤ lgz (lgm D q.2.2.2.1)))) := by rw [rlT_1 hk9, hrp]
            have hj9 : jvA S ((S2.s_pattern (wrt S2.pattern 0 (uf L (rlV L p) (rlW L p)))).s_patternLength (uf L (rlV L p) (rlW L p)).length) := ((hz3.v.tr (jvA.s_pattern _ _)).tr (jvA.s_patternLength _ _))
            have hq9 : hoQ ((S2.s_pattern (wrt S2.pattern 0 (uf L (rlV L p) (rlW L p)))).s_patternLength (uf L (rlV L p) (rlW L p)).length) (rlT 15 L q p) := by rw [rlT_1 hk9, hrp]; exact hq2
            have hl9 : max (lgz (lgm D (rlT 15 L q p).2.2.2.1)) (lgz (lgm D (rlT 15 L q p).2.2.2.2)) ≤ 8000 := by rw [rlT_1 hk9, hrp]; exact hlg
            have h9 := l1_M_judge hA hs hj hbL hL8 hka hD ho n (rlE L p + 1) ((S2.s_pattern (wrt S2.pattern 0 (uf L (rlV L p) (rlW L p)))).s_patternLength (uf L (rlV L p) (rlW L p)).length) (rlT 15 L q p) (by omega) (by omega) (hX.v hj9) (hT.v hj9) (rlT_ok hk) hq9 hl9
            rw [e5, e6, e7, e8] at h9
            refine am_G.mono h9 (fun r h1 hz => ?_)
            obtain ⟨y1, S1, y2, y3, y4⟩ := hz
            exact ⟨y1, S1, y2, jvA.tr hj9 y3, y4⟩
          · refine g_aload_n (pc := 173) dc_M_judge_173 rfl ?_
            refine g_dup (pc := 174) dc_M_judge_174 rfl ?_
            refine g_getfield (pc := 175) dc_M_judge_175 fl_M_194 (mp_o hA) rfl ?_
            refine g_iconst (pc := 178) (v := 1) dc_M_judge_178 rfl ?_
            refine g_iadd (pc := 179) (v := (nI (S2.holding + 1))) dc_M_judge_179 (nI_add S2.holding 1) ?_
            refine pf_holding (pc := 180) (v := S2.holding + 1) hA dc_M_judge_180 fp_M_judge_194 ?_
            refine g_aload_n (pc := 183) dc_M_judge_183 rfl ?_
            refine g_iload_n (pc := 184) dc_M_judge_184 rfl ?_
            have hj3 : jvA S2 (((S2.s_pattern (wrt S2.pattern 0 (uf L (rlV L p) (rlW L p)))).s_patternLength (uf L (rlV L p) (rlW L p)).length).s_holding (S2.holding + 1)) := ((jvA.s_pattern _ _).tr (jvA.s_patternLength _ _)).tr (jvA.s_holding _ _)
            refine g_v1 (pc := 185) (M' := mt_M_matches) dc_M_judge_185 mo_M_matches im_M_matches se_M_matches ln_M_210 (mp_o hA) rfl rfl (Nat.le_of_ble_eq_true rfl) (Nat.le_of_ble_eq_true rfl) (am_G.mono (c_M_matches (d := d + 4) (S := (((S2.s_pattern (wrt S2.pattern 0 (uf L (rlV L p) (rlW L p)))).s_patternLength (uf L (rlV L p) (rlW L p)).length).s_holding (S2.holding + 1))) (P := (uf L (rlV L p) (rlW L p))) hA (hT2.v hj3) hka (by rw [hD]; exact ho) (wrt_tx _ _ _) rfl (by omega)) ?_)
            intro r h1 hz
            obtain ⟨hz5, S4, hz6, hz7, hk4⟩ := hz
            rw [hz5, hz6, hD]
            clear hz5 hz6 h1 r
            have hm4 : S4.key = S2.key ∧ S4.patternLength = (uf L (rlV L p) (rlW L p)).length ∧ True ∧ S4.holding = S2.holding + 1 := ⟨hk4.1, hk4.2.1, trivial, hk4.2.2⟩
            have hko4 : S4.key = some 1 := hm4.1.trans hko
            have hj4 : jvA S S4 := (hz3.v.tr hj3).tr hz7.v
            refine ⟨am_nti _, ?_⟩
            refine q_ifb_eq (pc := 188) (tgt := 63) dc_M_judge_188 rfl (fun hc188 => ?_) (fun hc188 => ?_)
            · have hrp : rpt q.2.2.1 L p q.2.2.2.1 = q.2.2.2.1 ++ [(uf L (rlV L p) (rlW L p))] := if_pos ⟨hc163, by omega⟩
              have ez : lgz (lgm D (q.2.2.2.1 ++ [(uf L (rlV L p) (rlW L p))])) = lgz (lgm D q.2.2.2.1) := by rw [lgm_app, lgs_z (by omega), if_neg (fun h9 => by rw [hc188] at h9; exact absurd h9.1 (by decide))]
              have e5 : b1 (rlT 15 L q p).2.1 = 0 := by rw [rlT_1 hk9]; rfl
              have e6 : b1 (rlT 15 L q p).2.2.1 = (b1 q.2.2.1) := by rw [rlT_1 hk9]
              have em : max (lgz (lgm D (q.2.2.2.1 ++ [(uf L (rlV L p) (rlW L p))]))) (lgz (lgm D q.2.2.2.2)) = max (lgz (lgm D q.2.2.2.1)) (lgz (lgm D q.2.2.2.2)) := by rw [ez]
              have e7 : nI (max (lgz (lgm D (rlT 15 L q p).2.2.2.1)) (lgz (lgm D (rlT 15 L q p).2.2.2.2))) = (nI (max (lgz (lgm D q.2.2.2.1)) (lgz (lgm D q.2.2.2.2)))) := by rw [rlT_1 hk9]; show nI (max (lgz (lgm D (rpt q.2.2.1 L p q.2.2.2.1))) (lgz (lgm D q.2.2.2.2))) = _; rw [hrp, em]
              have ed : decide (lgz (lgm D q.2.2.2.2) ≤ lgz (lgm D (q.2.2.2.1 ++ [(uf L (rlV L p) (rlW L p))]))) = decide (lgz (lgm D q.2.2.2.2) ≤ lgz (lgm D q.2.2.2.1)) := decide_eq_decide.mpr (by rw [ez])
              have e8 : b1 (decide (lgz (lgm D (rlT 15 L q p).2.2.2.2) ≤ lgz (lgm D (rlT 15 L q p).2.2.2.1))) = (b1 (decide (lgz (lgm D q.2.2.2.2) ≤ lgz (lgm D q.2.2.2.1)))) := by rw [rlT_1 hk9]; show b1 (decide (lgz (lgm D q.2.2.2.2) ≤ lgz (lgm D (rpt q.2.2.1 L p q.2.2.2.1)))) = _; rw [hrp, ed]
              have hj9 : jvA S S4 := hj4
              have hq9 : hoQ S4 (rlT 15 L q p) := by rw [rlT_1 hk9]; show S4.holding = (rpt q.2.2.1 L p q.2.2.2.1).length + q.2.2.2.2.length; rw [hm4.2.2.2, hrp, List.length_append]; show S2.holding + 1 = _; rw [hq2]; show _ + 1 = _; simp; omega
              have hl9 : max (lgz (lgm D (rlT 15 L q p).2.2.2.1)) (lgz (lgm D (rlT 15 L q p).2.2.2.2)) ≤ 8000 := by rw [rlT_1 hk9]; show max (lgz (lgm D (rpt q.2.2.1 L p q.2.2.2.1))) (lgz (lgm D q.2.2.2.2)) ≤ 8000; rw [hrp, em]; omega
              have h9 := l1_M_judge hA hs hj hbL hL8 hka hD ho n (rlE L p + 1) S4 (rlT 15 L q p) (by omega) (by omega) (hX.v hj9) (hT.v hj9) (rlT_ok hk) hq9 hl9
              rw [e5, e6, e7, e8] at h9
              refine am_G.mono h9 (fun r h1 hz => ?_)
              obtain ⟨y1, S1, y2, y3, y4⟩ := hz
              exact ⟨y1, S1, y2, jvA.tr hj9 y3, y4⟩
            · refine g_aload_n (pc := 191) dc_M_judge_191 rfl ?_
              refine g_getfield (pc := 192) (v := .int (nI ((uf L (rlV L p) (rlW L p)).length))) dc_M_judge_192 fl_M_188 (mp_o hA) (congrArg (fun z => some (Value.int (nI z))) hm4.2.1) ?_
              refine g_iload (pc := 195) dc_M_judge_195 rfl ?_
              refine q_icmp_lt (pc := 197) (tgt := 63) ((uf L (rlV L p) (rlW L p)).length) (max (lgz (lgm D q.2.2.2.1)) (lgz (lgm D q.2.2.2.2))) dc_M_judge_197 (by omega) (by omega) rfl (fun hc197 => ?_) (fun hc197 => ?_)
              · have hrp : rpt q.2.2.1 L p q.2.2.2.1 = q.2.2.2.1 ++ [(uf L (rlV L p) (rlW L p))] := if_pos ⟨hc163, by omega⟩
                have ez : lgz (lgm D (q.2.2.2.1 ++ [(uf L (rlV L p) (rlW L p))])) = if lgz (lgm D q.2.2.2.1) < (uf L (rlV L p) (rlW L p)).length then (uf L (rlV L p) (rlW L p)).length else lgz (lgm D q.2.2.2.1) := by rw [lgm_app, lgs_z (by omega)]; simp [hc188]
                have e5 : b1 (rlT 15 L q p).2.1 = 0 := by rw [rlT_1 hk9]; rfl
                have e6 : b1 (rlT 15 L q p).2.2.1 = (b1 q.2.2.1) := by rw [rlT_1 hk9]
                have em : max (lgz (lgm D (q.2.2.2.1 ++ [(uf L (rlV L p) (rlW L p))]))) (lgz (lgm D q.2.2.2.2)) = max (lgz (lgm D q.2.2.2.1)) (lgz (lgm D q.2.2.2.2)) := by rw [ez]; (try split) <;> omega
                have e7 : nI (max (lgz (lgm D (rlT 15 L q p).2.2.2.1)) (lgz (lgm D (rlT 15 L q p).2.2.2.2))) = (nI (max (lgz (lgm D q.2.2.2.1)) (lgz (lgm D q.2.2.2.2)))) := by rw [rlT_1 hk9]; show nI (max (lgz (lgm D (rpt q.2.2.1 L p q.2.2.2.1))) (lgz (lgm D q.2.2.2.2))) = _; rw [hrp, em]
                have ed : decide (lgz (lgm D q.2.2.2.2) ≤ lgz (lgm D (q.2.2.2.1 ++ [(uf L (rlV L p) (rlW L p))]))) = decide (lgz (lgm D q.2.2.2.2) ≤ lgz (lgm D q.2.2.2.1)) := decide_eq_decide.mpr (by rw [ez]; (try split) <;> omega)
                have e8 : b1 (decide (lgz (lgm D (rlT 15 L q p).2.2.2.2) ≤ lgz (lgm D (rlT 15 L q p).2.2.2.1))) = (b1 (decide (lgz (lgm D q.2.2.2.2) ≤ lgz (lgm D q.2.2.2.1)))) := by rw [rlT_1 hk9]; show b1 (decide (lgz (lgm D q.2.2.2.2) ≤ lgz (lgm D (rpt q.2.2.1 L p q.2.2.2.1)))) = _; rw [hrp, ed]
                have hj9 : jvA S S4 := hj4
                have hq9 : hoQ S4 (rlT 15 L q p) := by rw [rlT_1 hk9]; show S4.holding = (rpt q.2.2.1 L p q.2.2.2.1).length + q.2.2.2.2.length; rw [hm4.2.2.2, hrp, List.length_append]; show S2.holding + 1 = _; rw [hq2]; show _ + 1 = _; simp; omega
                have hl9 : max (lgz (lgm D (rlT 15 L q p).2.2.2.1)) (lgz (lgm D (rlT 15 L q p).2.2.2.2)) ≤ 8000 := by rw [rlT_1 hk9]; show max (lgz (lgm D (rpt q.2.2.1 L p q.2.2.2.1))) (lgz (lgm D q.2.2.2.2)) ≤ 8000; rw [hrp, em]; omega
                have h9 := l1_M_judge hA hs hj hbL hL8 hka hD ho n (rlE L p + 1) S4 (rlT 15 L q p) (by omega) (by omega) (hX.v hj9) (hT.v hj9) (rlT_ok hk) hq9 hl9
                rw [e5, e6, e7, e8] at h9
                refine am_G.mono h9 (fun r h1 hz => ?_)
                obtain ⟨y1, S1, y2, y3, y4⟩ := hz
                exact ⟨y1, S1, y2, jvA.tr hj9 y3, y4⟩
              · refine g_aload_n (pc := 200) dc_M_judge_200 rfl ?_
                refine g_getfield (pc := 201) (v := .int (nI ((uf L (rlV L p) (rlW L p)).length))) dc_M_judge_201 fl_M_188 (mp_o hA) (congrArg (fun z => some (Value.int (nI z))) hm4.2.1) ?_
                refine g_iload (pc := 204) dc_M_judge_204 rfl ?_
                refine q_icmp_le (pc := 206) (tgt := 225) ((uf L (rlV L p) (rlW L p)).length) (max (lgz (lgm D q.2.2.2.1)) (lgz (lgm D q.2.2.2.2))) dc_M_judge_206 (by omega) (by omega) rfl (fun hc206 => ?_) (fun hc206 => ?_)
                · refine g_iload (pc := 225) dc_M_judge_225 rfl ?_
                  refine q_ifb_ne (pc := 227) (tgt := 238) dc_M_judge_227 rfl (fun hc227 => ?_) (fun hc227 => ?_)
                  · refine g_iconst (pc := 238) (v := 1) dc_M_judge_238 rfl ?_
                    refine g_goto (pc := 239) (tgt := 243) dc_M_judge_239 rfl ?_
                    refine g_istore (pc := 243) dc_M_judge_243 (by decide) ?_
                    show am_G X mt_M_judge _ 245 [some (.ref 84), some (.int (nI ka)), none, some (.int (nI j)), some (.int 1), some (.int 0), some (.int (b1 q.2.2.1)), some (.int (nI (max (lgz (lgm D q.2.2.2.1)) (lgz (lgm D q.2.2.2.2))))), some (.int 1), some (.int (nI (s + (rlE L p + 1))))] [] _ _
                    refine g_aload_n (pc := 245) dc_M_judge_245 rfl ?_
                    refine g_getfield (pc := 246) (v := .int (nI ((uf L (rlV L p) (rlW L p)).length))) dc_M_judge_246 fl_M_188 (mp_o hA) (congrArg (fun z => some (Value.int (nI z))) hm4.2.1) ?_
                    refine g_istore (pc := 249) dc_M_judge_249 (by decide) ?_
                    show am_G X mt_M_judge _ 251 [some (.ref 84), some (.int (nI ka)), none, some (.int (nI j)), some (.int 1), some (.int 0), some (.int (b1 q.2.2.1)), some (.int (nI ((uf L (rlV L p) (rlW L p)).length))), some (.int 1), some (.int (nI (s + (rlE L p + 1))))] [] _ _
                    refine g_goto (pc := 251) (tgt := 63) dc_M_judge_251 rfl ?_
                    have hrp : rpt q.2.2.1 L p q.2.2.2.1 = q.2.2.2.1 ++ [(uf L (rlV L p) (rlW L p))] := if_pos ⟨hc163, by omega⟩
                    have ez : lgz (lgm D (q.2.2.2.1 ++ [(uf L (rlV L p) (rlW L p))])) = if lgz (lgm D q.2.2.2.1) < (uf L (rlV L p) (rlW L p)).length then (uf L (rlV L p) (rlW L p)).length else lgz (lgm D q.2.2.2.1) := by rw [lgm_app, lgs_z (by omega)]; simp [hc188]
                    have e5 : b1 (rlT 15 L q p).2.1 = 0 := by rw [rlT_1 hk9]; rfl
                    have e6 : b1 (rlT 15 L q p).2.2.1 = (b1 q.2.2.1) := by rw [rlT_1 hk9]
                    have em : max (lgz (lgm D (q.2.2.2.1 ++ [(uf L (rlV L p) (rlW L p))]))) (lgz (lgm D q.2.2.2.2)) = (uf L (rlV L p) (rlW L p)).length := by rw [ez]; (try split) <;> omega
                    have e7 : nI (max (lgz (lgm D (rlT 15 L q p).2.2.2.1)) (lgz (lgm D (rlT 15 L q p).2.2.2.2))) = (nI ((uf L (rlV L p) (rlW L p)).length)) := by rw [rlT_1 hk9]; show nI (max (lgz (lgm D (rpt q.2.2.1 L p q.2.2.2.1))) (lgz (lgm D q.2.2.2.2))) = _; rw [hrp, em]
                    have ed : decide (lgz (lgm D q.2.2.2.2) ≤ lgz (lgm D (q.2.2.2.1 ++ [(uf L (rlV L p) (rlW L p))]))) = true := decide_eq_true (by rw [ez]; (try split) <;> omega)
                    have e8 : b1 (decide (lgz (lgm D (rlT 15 L q p).2.2.2.2) ≤ lgz (lgm D (rlT 15 L q p).2.2.2.1))) = 1 := by rw [rlT_1 hk9]; show b1 (decide (lgz (lgm D q.2.2.2.2) ≤ lgz (lgm D (rpt q.2.2.1 L p q.2.2.2.1)))) = _; rw [hrp, ed]; rfl
                    have hj9 : jvA S S4 := hj4
                    have hq9 : hoQ S4 (rlT 15 L q p) := by rw [rlT_1 hk9]; show S4.holding = (rpt q.2.2.1 L p q.2.2.2.1).length + q.2.2.2.2.length; rw [hm4.2.2.2, hrp, List.length_append]; show S2.holding + 1 = _; rw [hq2]; show _ + 1 = _; simp; omega
                    have hl9 : max (lgz (lgm D (rlT 15 L q p).2.2.2.1)) (lgz (lgm D (rlT 15 L q p).2.2.2.2)) ≤ 8000 := by rw [rlT_1 hk9]; show max (lgz (lgm D (rpt q.2.2.1 L p q.2.2.2.1))) (lgz (lgm D q.2.2.2.2)) ≤ 8000; rw [hrp, em]; omega
                    have h9 := l1_M_judge hA hs hj hbL hL8 hka hD ho n (rlE L p + 1) S4 (rlT 15 L q p) (by omega) (by omega) (hX.v hj9) (hT.v hj9) (rlT_ok hk) hq9 hl9
                    rw [e5, e6, e7, e8] at h9
                    refine am_G.mono h9 (fun r h1 hz => ?_)
                    obtain ⟨y1, S1, y2, y3, y4⟩ := hz
                    exact ⟨y1, S1, y2, jvA.tr hj9 y3, y4⟩
                  · refine g_aload_n (pc := 230) dc_M_judge_230 rfl ?_
                    refine g_getfield (pc := 231) (v := .int 1) dc_M_judge_231 fl_M_159 (mp_o hA) (congrArg (fun z => some (Value.int (er z))) hko4) ?_
                    refine g_iconst (pc := 234) (v := 1) dc_M_judge_234 rfl ?_
                    refine g_icmp_ne (pc := 235) (tgt := 242) dc_M_judge_235 rfl (fun hc => absurd hc (by decide)) (fun _ => ?_)
                    refine g_iconst (pc := 238) (v := 1) dc_M_judge_238 rfl ?_
                    refine g_goto (pc := 239) (tgt := 243) dc_M_judge_239 rfl ?_
                    refine g_istore (pc := 243) dc_M_judge_243 (by decide) ?_
                    show am_G X mt_M_judge _ 245 [some (.ref 84), some (.int (nI ka)), none, some (.int (nI j)), some (.int 1), some (.int 0), some (.int (b1 q.2.2.1)), some (.int (nI (max (lgz (lgm D q.2.2.2.1)) (lgz (lgm D q.2.2.2.2))))), some (.int 1), some (.int (nI (s + (rlE L p + 1))))] [] _ _
                    refine g_aload_n (pc := 245) dc_M_judge_245 rfl ?_
                    refine g_getfield (pc := 246) (v := .int (nI ((uf L (rlV L p) (rlW L p)).length))) dc_M_judge_246 fl_M_188 (mp_o hA) (congrArg (fun z => some (Value.int (nI z))) hm4.2.1) ?_
                    refine g_istore (pc := 249) dc_M_judge_249 (by decide) ?_
                    show am_G X mt_M_judge _ 251 [some (.ref 84), some (.int (nI ka)), none, some (.int (nI j)), some (.int 1), some (.int 0), some (.int (b1 q.2.2.1)), some (.int (nI ((uf L (rlV L p) (rlW L p)).length))), some (.int 1), some (.int (nI (s + (rlE L p + 1))))] [] _ _
                    refine g_goto (pc := 251) (tgt := 63) dc_M_judge_251 rfl ?_
                    have hrp : rpt q.2.2.1 L p q.2.2.2.1 = q.2.2.2.1 ++ [(uf L (rlV L p) (rlW L p))] := if_pos ⟨hc163, by omega⟩
                    have ez : lgz (lgm D (q.2.2.2.1 ++ [(uf L (rlV L p) (rlW L p))])) = if lgz (lgm D q.2.2.2.1) < (uf L (rlV L p) (rlW L p)).length then (uf L (rlV L p) (rlW L p)).length else lgz (lgm D q.2.2.2.1) := by rw [lgm_app, lgs_z (by omega)]; simp [hc188]
                    have e5 : b1 (rlT 15 L q p).2.1 = 0 := by rw [rlT_1 hk9]; rfl
                    have e6 : b1 (rlT 15 L q p).2.2.1 = (b1 q.2.2.1) := by rw [rlT_1 hk9]
                    have em : max (lgz (lgm D (q.2.2.2.1 ++ [(uf L (rlV L p) (rlW L p))]))) (lgz (lgm D q.2.2.2.2)) = (uf L (rlV L p) (rlW L p)).length := by rw [ez]; (try split) <;> omega
                    have e7 : nI (max (lgz (lgm D (rlT 15 L q p).2.2.2.1)) (lgz (lgm D (rlT 15 L q p).2.2.2.2))) = (nI ((uf L (rlV L p) (rlW L p)).length)) := by rw [rlT_1 hk9]; show nI (max (lgz (lgm D (rpt q.2.2.1 L p q.2.2.2.1))) (lgz (lgm D q.2.2.2.2))) = _; rw [hrp, em]
                    have ed : decide (lgz (lgm D q.2.2.2.2) ≤ lgz (lgm D (q.2.2.2.1 ++ [(uf L (rlV L p) (rlW L p))]))) = true := decide_eq_true (by rw [ez]; (try split) <;> omega)
                    have e8 : b1 (decide (lgz (lgm D (rlT 15 L q p).2.2.2.2) ≤ lgz (lgm D (rlT 15 L q p).2.2.2.1))) = 1 := by rw [rlT_1 hk9]; show b1 (decide (lgz (lgm D q.2.2.2.2) ≤ lgz (lgm D (rpt q.2.2.1 L p q.2.2.2.1)))) = _; rw [hrp, ed]; rfl
                    have hj9 : jvA S S4 := hj4
                    have hq9 : hoQ S4 (rlT 15 L q p) := by rw [rlT_1 hk9]; show S4.holding = (rpt q.2.2.1 L p q.2.2.2.1).length + q.2.2.2.2.length; rw [hm4.2.2.2, hrp, List.length_append]; show S2.holding + 1 = _; rw [hq2]; show _ + 1 = _; simp; omega
                    have hl9 : max (lgz (lgm D (rlT 15 L q p).2.2.2.1)) (lgz (lgm D (rlT 15 L q p).2.2.2.2)) ≤ 8000 := by rw [rlT_1 hk9]; show max (lgz (lgm D (rpt q.2.2.1 L p q.2.2.2.1))) (lgz (lgm D q.2.2.2.2)) ≤ 8000; rw [hrp, em]; omega
                    have h9 := l1_M_judge hA hs hj hbL hL8 hka hD ho n (rlE L p + 1) S4 (rlT 15 L q p) (by omega) (by omega) (hX.v hj9) (hT.v hj9) (rlT_ok hk) hq9 hl9
                    rw [e5, e6, e7, e8] at h9
                    refine am_G.mono h9 (fun r h1 hz => ?_)
                    obtain ⟨y1, S1, y2, y3, y4⟩ := hz
                    exact ⟨y1, S1, y2, jvA.tr hj9 y3, y4⟩
                · refine g_aload_n (pc := 209) dc_M_judge_209 rfl ?_
                  refine g_getfield (pc := 210) (v := .int 1) dc_M_judge_210 fl_M_159 (mp_o hA) (congrArg (fun z => some (Value.int (er z))) hko4) ?_
                  refine g_iconst (pc := 213) (v := 1) dc_M_judge_213 rfl ?_
                  refine g_icmp_ne (pc := 214) (tgt := 221) dc_M_judge_214 rfl (fun hc => absurd hc (by decide)) (fun _ => ?_)
                  refine g_iconst (pc := 217) (v := 1) dc_M_judge_217 rfl ?_
                  refine g_goto (pc := 218) (tgt := 243) dc_M_judge_218 rfl ?_
                  refine g_istore (pc := 243) dc_M_judge_243 (by decide) ?_
                  show am_G X mt_M_judge _ 245 [some (.ref 84), some (.int (nI ka)), none, some (.int (nI j)), some (.int 1), some (.int 0), some (.int (b1 q.2.2.1)), some (.int (nI (max (lgz (lgm D q.2.2.2.1)) (lgz (lgm D q.2.2.2.2))))), some (.int 1), some (.int (nI (s + (rlE L p + 1))))] [] _ _
                  refine g_aload_n (pc := 245) dc_M_judge_245 rfl ?_
                  refine g_getfield (pc := 246) (v := .int (nI ((uf L (rlV L p) (rlW L p)).length))) dc_M_judge_246 fl_M_188 (mp_o hA) (congrArg (fun z => some (Value.int (nI z))) hm4.2.1) ?_
                  refine g_istore (pc := 249) dc_M_judge_249 (by decide) ?_
                  show am_G X mt_M_judge _ 251 [some (.ref 84), some (.int (nI ka)), none, some (.int (nI j)), some (.int 1), some (.int 0), some (.int (b1 q.2.2.1)), some (.int (nI ((uf L (rlV L p) (rlW L p)).length))), some (.int 1), some (.int (nI (s + (rlE L p + 1))))] [] _ _
                  refine g_goto (pc := 251) (tgt := 63) dc_M_judge_251 rfl ?_
                  have hrp : rpt q.2.2.1 L p q.2.2.2.1 = q.2.2.2.1 ++ [(uf L (rlV L p) (rlW L p))] := if_pos ⟨hc163, by omega⟩
                  have ez : lgz (lgm D (q.2.2.2.1 ++ [(uf L (rlV L p) (rlW L p))])) = if lgz (lgm D q.2.2.2.1) < (uf L (rlV L p) (rlW L p)).length then (uf L (rlV L p) (rlW L p)).length else lgz (lgm D q.2.2.2.1) := by rw [lgm_app, lgs_z (by omega)]; simp [hc188]
                  have e5 : b1 (rlT 15 L q p).2.1 = 0 := by rw [rlT_1 hk9]; rfl
                  have e6 : b1 (rlT 15 L q p).2.2.1 = (b1 q.2.2.1) := by rw [rlT_1 hk9]
                  have em : max (lgz (lgm D (q.2.2.2.1 ++ [(uf L (rlV L p) (rlW L p))]))) (lgz (lgm D q.2.2.2.2)) = (uf L (rlV L p) (rlW L p)).length := by rw [ez]; (try split) <;> omega
                  have e7 : nI (max (lgz (lgm D (rlT 15 L q p).2.2.2.1)) (lgz (lgm D (rlT 15 L q p).2.2.2.2))) = (nI ((uf L (rlV L p) (rlW L p)).length)) := by rw [rlT_1 hk9]; show nI (max (lgz (lgm D (rpt q.2.2.1 L p q.2.2.2.1))) (lgz (lgm D q.2.2.2.2))) = _; rw [hrp, em]
                  have ed : decide (lgz (lgm D q.2.2.2.2) ≤ lgz (lgm D (q.2.2.2.1 ++ [(uf L (rlV L p) (rlW L p))]))) = true := decide_eq_true (by rw [ez]; (try split) <;> omega)
                  have e8 : b1 (decide (lgz (lgm D (rlT 15 L q p).2.2.2.2) ≤ lgz (lgm D (rlT 15 L q p).2.2.2.1))) = 1 := by rw [rlT_1 hk9]; show b1 (decide (lgz (lgm D q.2.2.2.2) ≤ lgz (lgm D (rpt q.2.2.1 L p q.2.2.2.1)))) = _; rw [hrp, ed]; rfl
                  have hj9 : jvA S S4 := hj4
                  have hq9 : hoQ S4 (rlT 15 L q p) := by rw [rlT_1 hk9]; show S4.holding = (rpt q.2.2.1 L p q.2.2.2.1).length + q.2.2.2.2.length; rw [hm4.2.2.2, hrp, List.length_append]; show S2.holding + 1 = _; rw [hq2]; show _ + 1 = _; simp; omega
                  have hl9 : max (lgz (lgm D (rlT 15 L q p).2.2.2.1)) (lgz (lgm D (rlT 15 L q p).2.2.2.2)) ≤ 8000 := by rw [rlT_1 hk9]; show max (lgz (lgm D (rpt q.2.2.1 L p q.2.2.2.1))) (lgz (lgm D q.2.2.2.2)) ≤ 8000; rw [hrp, em]; omega
                  have h9 := l1_M_judge hA hs hj hbL hL8 hka hD ho n (rlE L p + 1) S4 (rlT 15 L q p) (by omega) (by omega) (hX.v hj9) (hT.v hj9) (rlT_ok hk) hq9 hl9
                  rw [e5, e6, e7, e8] at h9
                  refine am_G.mono h9 (fun r h1 hz => ?_)
                  obtain ⟨y1, S1, y2, y3, y4⟩ := hz
                  exact ⟨y1, S1, y2, jvA.tr hj9 y3, y4⟩
      · have hko : S2.key = some 2 := by rw [hz4.1]; unfold rlO; rw [hk9]; rfl
        have hcs := rlK_c (L := L) (p := p) (by rw [hk9]; decide)
        have hvw := rl_vw (L := L) (p := p) (by omega)
        have hul := uf_len (L := L) (t := rlW L p) (rlW L p - rlV L p) (rlV L p) (Nat.le_refl _)
        refine g_aload_n (pc := 88) dc_M_judge_88 rfl ?_
        refine g_getfield (pc := 89) (v := .int 2) dc_M_judge_89 fl_M_159 (mp_o hA) (congrArg (fun z => some (Value.int (er z))) hko) ?_
        refine g_if_ne (pc := 92) (tgt := 127) dc_M_judge_92 rfl (fun _ => ?_) (fun hc => absurd hc (by decide))
        refine g_aload_n (pc := 127) dc_M_judge_127 rfl ?_
        refine g_getfield (pc := 128) (v := .int 2) dc_M_judge_128 fl_M_159 (mp_o hA) (congrArg (fun z => some (Value.int (er z))) hko) ?_
        refine g_if_le (pc := 131) (tgt := 63) dc_M_judge_131 rfl (fun hc => absurd hc (by decide)) (fun _ => ?_)
        refine g_iconst (pc := 134) (v := 0) dc_M_judge_134 rfl ?_
        refine g_istore (pc := 135) dc_M_judge_135 (by decide) ?_
        show am_G X mt_M_judge _ 137 [some (.ref 84), some (.int (nI ka)), none, some (.int (nI j)), some (.int 1), some (.int 0), some (.int (b1 q.2.2.1)), some (.int (nI (max (lgz (lgm D q.2.2.2.1)) (lgz (lgm D q.2.2.2.2))))), some (.int (b1 (decide (lgz (lgm D q.2.2.2.2) ≤ lgz (lgm D q.2.2.2.1))))), some (.int (nI (s + (rlE L p + 1))))] [] _ _
        refine g_aload_n (pc := 137) dc_M_judge_137 rfl ?_
        refine g_aload_n (pc := 138) dc_M_judge_138 rfl ?_
        refine g_getfield (pc := 139) dc_M_judge_139 fl_M_140 (mp_o hA) rfl ?_
        refine g_aload_n (pc := 142) dc_M_judge_142 rfl ?_
        refine g_getfield (pc := 143) (v := .int (nI (s + rlV L p))) dc_M_judge_143 fl_M_168 (mp_o hA) (congrArg (fun z => some (Value.int (nI z))) (hz4.2 hcs).1) ?_
        refine g_aload_n (pc := 146) dc_M_judge_146 rfl ?_
        refine g_getfield (pc := 147) (v := .int (nI (s + rlW L p))) dc_M_judge_147 fl_M_171 (mp_o hA) (congrArg (fun z => some (Value.int (nI z))) (hz4.2 hcs).2) ?_
        refine g_aload_n (pc := 150) dc_M_judge_150 rfl ?_
        refine g_getfield (pc := 151) dc_M_judge_151 fl_M_191 (mp_o hA) rfl ?_
        refine g_iconst (pc := 154) (v := 0) dc_M_judge_154 rfl ?_
        refine g_s5 (pc := 155) (M' := mt_M_unfold) dc_M_judge_155 mo_M_unfold st_M_unfold ln_M_94 (Nat.le_of_ble_eq_true rfl) (Nat.le_of_ble_eq_true rfl) (am_G.mono (c_M_unfold_pattern (d := d + 4) (S := S2) (L := L) (f := rlV L p) (t := rlW L p) (n := 0) (a := 96) (s := s) hA hbL (by omega) (by omega) (by omega) (tt_txt hA hX2.1 hs) (by omega)) ?_)
        intro r h1 hq
        rw [hq.1, hq.2]
        clear hq h1 r
        refine ⟨am_nti _, ?_⟩
        rw [Nat.zero_add]
        refine pf_patternLength (pc := 158) (v := (uf L (rlV L p) (rlW L p)).length) hA dc_M_judge_158 fp_M_judge_188 ?_
        refine g_iload (pc := 161) dc_M_judge_161 rfl ?_
        refine q_ifb_eq (pc := 163) (tgt := 63) dc_M_judge_163 rfl (fun hc163 => ?_) (fun hc163 => ?_)
        · have hrp : rpt q.2.2.1 L p q.2.2.2.2 = q.2.2.2.2 := if_neg (fun h9 => by rw [hc163] at h9; exact absurd h9.1 (by decide))
          have e5 : b1 (rlT 15 L q p).2.1 = 0 := by rw [rlT_2 hk9]; rfl
          have e6 : b1 (rlT 15 L q p).2.2.1 = (b1 q.2.2.1) := by rw [rlT_2 hk9]
          have e7 : nI (max (lgz (lgm D (rlT 15 L q p).2.2.2.1)) (lgz (lgm D (rlT 15 L q p).2.2.2.2))) = (nI (max (lgz (lgm D q.2.2.2.1)) (lgz (lgm D q.2.2.2.2)))) := by rw [rlT_2 hk9, hrp]
          have e8 : b1 (decide (lgz (lgm D (rlT 15 L q p).2.2.2.2) ≤ lgz (lgm D (rlT 15 L q p).2.2.2.1))) = (b1 (decide (lgz (lgm D q.2.2.2.2) ≤ lgz (lgm D q.2.2.2.1)))) := by rw [rlT_2 hk9, hrp]
          have hj9 : jvA S ((S2.s_pattern (wrt S2.pattern 0 (uf L (rlV L p) (rlW L p)))).s_patternLength (uf L (rlV L p) (rlW L p)).length) := ((hz3.v.tr (jvA.s_pattern _ _)).tr (jvA.s_patternLength _ _))
          have hq9 : hoQ ((S2.s_pattern (wrt S2.pattern 0 (uf L (rlV L p) (rlW L p)))).s_patternLength (uf L (rlV L p) (rlW L p)).length) (rlT 15 L q p) := by rw [rlT_2 hk9, hrp]; exact hq2
          have hl9 : max (lgz (lgm D (rlT 15 L q p).2.2.2.1)) (lgz (lgm D (rlT 15 L q p).2.2.2.2)) ≤ 8000 := by rw [rlT_2 hk9, hrp]; exact hlg
          have h9 := l1_M_judge hA hs hj hbL hL8 hka hD ho n (rlE L p + 1) ((S2.s_pattern (wrt S2.pattern 0 (uf L (rlV L p) (rlW L p)))).s_patternLength (uf L (rlV L p) (rlW L p)).length) (rlT 15 L q p) (by omega) (by omega) (hX.v hj9) (hT.v hj9) (rlT_ok hk) hq9 hl9
          rw [e5, e6, e7, e8] at h9
          refine am_G.mono h9 (fun r h1 hz => ?_)
          obtain ⟨y1, S1, y2, y3, y4⟩ := hz
          exact ⟨y1, S1, y2, jvA.tr hj9 y3, y4⟩
        · refine g_aload_n (pc := 166) dc_M_judge_166 rfl ?_
          refine g_getfield (pc := 167) dc_M_judge_167 fl_M_188 (mp_o hA) rfl ?_
          refine q_if_le (pc := 170) (tgt := 63) ((uf L (rlV L p) (rlW L p)).length) dc_M_judge_170 (by omega) rfl (fun hc170 => ?_) (fun hc170 => ?_)
          · have hrp : rpt q.2.2.1 L p q.2.2.2.2 = q.2.2.2.2 := if_neg (fun h9 => by have h8 := us_1 (L := L) h9.2; omega)
            have e5 : b1 (rlT 15 L q p).2.1 = 0 := by rw [rlT_2 hk9]; rfl
            have e6 : b1 (rlT 15 L q p).2.2.1 = (b1 q.2.2.1) := by rw [rlT_2 hk9]
            have e7 : nI (max (lgz (lgm D (rlT 15 L q p).2.2.2.1)) (lgz (lgm D (rlT 15 L q p).2.2.2.2))) = (nI (max (lgz (lgm D q.2.2.2.1)) (lgz (lgm D q.2.2.2.2)))) := by rw [rlT_2 hk9, hrp]
            have e8 : b1 (decide (lgz (lgm D (rlT 15 L q p).2.2.2.2) ≤ lgz (lgm D (rlT 15 L q p).2.2.2.1))) = (b1 (decide (lgz (lgm D q.2.2.2.2) ≤ lgz (lgm D q.2.2.2.1)))) := by rw [rlT_2 hk9, hrp]
            have hj9 : jvA S ((S2.s_pattern (wrt S2.pattern 0 (uf L (rlV L p) (rlW L p)))).s_patternLength (uf L (rlV L p) (rlW L p)).length) := ((hz3.v.tr (jvA.s_pattern _ _)).tr (jvA.s_patternLength _ _))
            have hq9 : hoQ ((S2.s_pattern (wrt S2.pattern 0 (uf L (rlV L p) (rlW L p)))).s_patternLength (uf L (rlV L p) (rlW L p)).length) (rlT 15 L q p) := by rw [rlT_2 hk9, hrp]; exact hq2
            have hl9 : max (lgz (lgm D (rlT 15 L q p).2.2.2.1)) (lgz (lgm D (rlT 15 L q p).2.2.2.2)) ≤ 8000 := by rw [rlT_2 hk9, hrp]; exact hlg
            have h9 := l1_M_judge hA hs hj hbL hL8 hka hD ho n (rlE L p + 1) ((S2.s_pattern (wrt S2.pattern 0 (uf L (rlV L p) (rlW L p)))).s_patternLength (uf L (rlV L p) (rlW L p)).length) (rlT 15 L q p) (by omega) (by omega) (hX.v hj9) (hT.v hj9) (rlT_ok hk) hq9 hl9
            rw [e5, e6, e7, e8] at h9
            refine am_G.mono h9 (fun r h1 hz => ?_)
            obtain ⟨y1, S1, y2, y3, y4⟩ := hz
            exact ⟨y1, S1, y2, jvA.tr hj9 y3, y4⟩
          · refine g_aload_n (pc := 173) dc_M_judge_173 rfl ?_
            refine g_dup (pc := 174) dc_M_judge_174 rfl ?_
            refine g_getfield (pc := 175) dc_M_judge_175 fl_M_194 (mp_o hA) rfl ?_
            refine g_iconst (pc := 178) (v := 1) dc_M_judge_178 rfl ?_
            refine g_iadd (pc := 179) (v := (nI (S2.holding + 1))) dc_M_judge_179 (nI_add S2.holding 1) ?_
            refine pf_holding (pc := 180) (v := S2.holding + 1) hA dc_M_judge_180 fp_M_judge_194 ?_
            refine g_aload_n (pc := 183) dc_M_judge_183 rfl ?_
            refine g_iload_n (pc := 184) dc_M_judge_184 rfl ?_
            have hj3 : jvA S2 (((S2.s_pattern (wrt S2.pattern 0 (uf L (rlV L p) (rlW L p)))).s_patternLength (uf L (rlV L p) (rlW L p)).length).s_holding (S2.holding + 1)) := ((jvA.s_pattern _ _).tr (jvA.s_patternLength _ _)).tr (jvA.s_holding _ _)
            refine g_v1 (pc := 185) (M' := mt_M_matches) dc_M_judge_185 mo_M_matches im_M_matches se_M_matches ln_M_210 (mp_o hA) rfl rfl (Nat.le_of_ble_eq_true rfl) (Nat.le_of_ble_eq_true rfl) (am_G.mono (c_M_matches (d := d + 4) (S := (((S2.s_pattern (wrt S2.pattern 0 (uf L (rlV L p) (rlW L p)))).s_patternLength (uf L (rlV L p) (rlW L p)).length).s_holding (S2.holding + 1))) (P := (uf L (rlV L p) (rlW L p))) hA (hT2.v hj3) hka (by rw [hD]; exact ho) (wrt_tx _ _ _) rfl (by omega)) ?_)
            intro r h1 hz
            obtain ⟨hz5, S4, hz6, hz7, hk4⟩ := hz
            rw [hz5, hz6, hD]
            clear hz5 hz6 h1 r
            have hm4 : S4.key = S2.key ∧ S4.patternLength = (uf L (rlV L p) (rlW L p)).length ∧ True ∧ S4.holding = S2.holding + 1 := ⟨hk4.1, hk4.2.1, trivial, hk4.2.2⟩
            have hko4 : S4.key = some 2 := hm4.1.trans hko
            have hj4 : jvA S S4 := (hz3.v.tr hj3).tr hz7.v
            refine ⟨am_nti _, ?_⟩
            refine q_ifb_eq (pc := 188) (tgt := 63) dc_M_judge_188 rfl (fun hc188 => ?_) (fun hc188 => ?_)
            · have hrp : rpt q.2.2.1 L p q.2.2.2.2 = q.2.2.2.2 ++ [(uf L (rlV L p) (rlW L p))] := if_pos ⟨hc163, by omega⟩
              have ez : lgz (lgm D (q.2.2.2.2 ++ [(uf L (rlV L p) (rlW L p))])) = lgz (lgm D q.2.2.2.2) := by rw [lgm_app, lgs_z (by omega), if_neg (fun h9 => by rw [hc188] at h9; exact absurd h9.1 (by decide))]
              have e5 : b1 (rlT 15 L q p).2.1 = 0 := by rw [rlT_2 hk9]; rfl
              have e6 : b1 (rlT 15 L q p).2.2.1 = (b1 q.2.2.1) := by rw [rlT_2 hk9]
              have em : max (lgz (lgm D q.2.2.2.1)) (lgz (lgm D (q.2.2.2.2 ++ [(uf L (rlV L p) (rlW L p))]))) = max (lgz (lgm D q.2.2.2.1)) (lgz (lgm D q.2.2.2.2)) := by rw [ez]
              have e7 : nI (max (lgz (lgm D (rlT 15 L q p).2.2.2.1)) (lgz (lgm D (rlT 15 L q p).2.2.2.2))) = (nI (max (lgz (lgm D q.2.2.2.1)) (lgz (lgm D q.2.2.2.2)))) := by rw [rlT_2 hk9]; show nI (max (lgz (lgm D q.2.2.2.1)) (lgz (lgm D (rpt q.2.2.1 L p q.2.2.2.2)))) = _; rw [hrp, em]
              have ed : decide (lgz (lgm D (q.2.2.2.2 ++ [(uf L (rlV L p) (rlW L p))])) ≤ lgz (lgm D q.2.2.2.1)) = decide (lgz (lgm D q.2.2.2.2) ≤ lgz (lgm D q.2.2.2.1)) := decide_eq_decide.mpr (by rw [ez])
              have e8 : b1 (decide (lgz (lgm D (rlT 15 L q p).2.2.2.2) ≤ lgz (lgm D (rlT 15 L q p).2.2.2.1))) = (b1 (decide (lgz (lgm D q.2.2.2.2) ≤ lgz (lgm D q.2.2.2.1)))) := by rw [rlT_2 hk9]; show b1 (decide (lgz (lgm D (rpt q.2.2.1 L p q.2.2.2.2)) ≤ lgz (lgm D q.2.2.2.1))) = _; rw [hrp, ed]
              have hj9 : jvA S S4 := hj4
              have hq9 : hoQ S4 (rlT 15 L q p) := by rw [rlT_2 hk9]; show S4.holding = q.2.2.2.1.length + (rpt q.2.2.1 L p q.2.2.2.2).length; rw [hm4.2.2.2, hrp, List.length_append]; show S2.holding + 1 = _; rw [hq2]; show _ + 1 = _; simp; omega
              have hl9 : max (lgz (lgm D (rlT 15 L q p).2.2.2.1)) (lgz (lgm D (rlT 15 L q p).2.2.2.2)) ≤ 8000 := by rw [rlT_2 hk9]; show max (lgz (lgm D q.2.2.2.1)) (lgz (lgm D (rpt q.2.2.1 L p q.2.2.2.2))) ≤ 8000; rw [hrp, em]; omega
              have h9 := l1_M_judge hA hs hj hbL hL8 hka hD ho n (rlE L p + 1) S4 (rlT 15 L q p) (by omega) (by omega) (hX.v hj9) (hT.v hj9) (rlT_ok hk) hq9 hl9
              rw [e5, e6, e7, e8] at h9
              refine am_G.mono h9 (fun r h1 hz => ?_)
              obtain ⟨y1, S1, y2, y3, y4⟩ := hz
              exact ⟨y1, S1, y2, jvA.tr hj9 y3, y4⟩
            · refine g_aload_n (pc := 191) dc_M_judge_191 rfl ?_
              refine g_getfield (pc := 192) (v := .int (nI ((uf L (rlV L p) (rlW L p)).length))) dc_M_judge_192 fl_M_188 (mp_o hA) (congrArg (fun z => some (Value.int (nI z))) hm4.2.1) ?_
              refine g_iload (pc := 195) dc_M_judge_195 rfl ?_
              refine q_icmp_lt (pc := 197) (tgt := 63) ((uf L (rlV L p) (rlW L p)).length) (max (lgz (lgm D q.2.2.2.1)) (lgz (lgm D q.2.2.2.2))) dc_M_judge_197 (by omega) (by omega) rfl (fun hc197 => ?_) (fun hc197 => ?_)
              · have hrp : rpt q.2.2.1 L p q.2.2.2.2 = q.2.2.2.2 ++ [(uf L (rlV L p) (rlW L p))] := if_pos ⟨hc163, by omega⟩
                have ez : lgz (lgm D (q.2.2.2.2 ++ [(uf L (rlV L p) (rlW L p))])) = if lgz (lgm D q.2.2.2.2) < (uf L (rlV L p) (rlW L p)).length then (uf L (rlV L p) (rlW L p)).length else lgz (lgm D q.2.2.2.2) := by rw [lgm_app, lgs_z (by omega)]; simp [hc188]
                have e5 : b1 (rlT 15 L q p).2.1 = 0 := by rw [rlT_2 hk9]; rfl
                have e6 : b1 (rlT 15 L q p).2.2.1 = (b1 q.2.2.1) := by rw [rlT_2 hk9]
                have em : max (lgz (lgm D q.2.2.2.1)) (lgz (lgm D (q.2.2.2.2 ++ [(uf L (rlV L p) (rlW L p))]))) = max (lgz (lgm D q.2.2.2.1)) (lgz (lgm D q.2.2.2.2)) := by rw [ez]; (try split) <;> omega
                have e7 : nI (max (lgz (lgm D (rlT 15 L q p).2.2.2.1)) (lgz (lgm D (rlT 15 L q p).2.2.2.2))) = (nI (max (lgz (lgm D q.2.2.2.1)) (lgz (lgm D q.2.2.2.2)))) := by rw [rlT_2 hk9]; show nI (max (lgz (lgm D q.2.2.2.1)) (lgz (lgm D (rpt q.2.2.1 L p q.2.2.2.2)))) = _; rw [hrp, em]
                have ed : decide (lgz (lgm D (q.2.2.2.2 ++ [(uf L (rlV L p) (rlW L p))])) ≤ lgz (lgm D q.2.2.2.1)) = decide (lgz (lgm D q.2.2.2.2) ≤ lgz (lgm D q.2.2.2.1)) := decide_eq_decide.mpr (by rw [ez]; (try split) <;> omega)
                have e8 : b1 (decide (lgz (lgm D (rlT 15 L q p).2.2.2.2) ≤ lgz (lgm D (rlT 15 L q p).2.2.2.1))) = (b1 (decide (lgz (lgm D q.2.2.2.2) ≤ lgz (lgm D q.2.2.2.1)))) := by rw [rlT_2 hk9]; show b1 (decide (lgz (lgm D (rpt q.2.2.1 L p q.2.2.2.2)) ≤ lgz (lgm D q.2.2.2.1))) = _; rw [hrp, ed]
                have hj9 : jvA S S4 := hj4
                have hq9 : hoQ S4 (rlT 15 L q p) := by rw [rlT_2 hk9]; show S4.holding = q.2.2.2.1.length + (rpt q.2.2.1 L p q.2.2.2.2).length; rw [hm4.2.2.2, hrp, List.length_append]; show S2.holding + 1 = _; rw [hq2]; show _ + 1 = _; simp; omega
                have hl9 : max (lgz (lgm D (rlT 15 L q p).2.2.2.1)) (lgz (lgm D (rlT 15 L q p).2.2.2.2)) ≤ 8000 := by rw [rlT_2 hk9]; show max (lgz (lgm D q.2.2.2.1)) (lgz (lgm D (rpt q.2.2.1 L p q.2.2.2.2))) ≤ 8000; rw [hrp, em]; omega
                have h9 := l1_M_judge hA hs hj hbL hL8 hka hD ho n (rlE L p + 1) S4 (rlT 15 L q p) (by omega) (by omega) (hX.v hj9) (hT.v hj9) (rlT_ok hk) hq9 hl9
                rw [e5, e6, e7, e8] at h9
                refine am_G.mono h9 (fun r h1 hz => ?_)
                obtain ⟨y1, S1, y2, y3, y4⟩ := hz
                exact ⟨y1, S1, y2, jvA.tr hj9 y3, y4⟩
              · refine g_aload_n (pc := 200) dc_M_judge_200 rfl ?_
                refine g_getfield (pc := 201) (v := .int (nI ((uf L (rlV L p) (rlW L p)).length))) dc_M_judge_201 fl_M_188 (mp_o hA) (congrArg (fun z => some (Value.int (nI z))) hm4.2.1) ?_
                refine g_iload (pc := 204) dc_M_judge_204 rfl ?_
                refine q_icmp_le (pc := 206) (tgt := 225) ((uf L (rlV L p) (rlW L p)).length) (max (lgz (lgm D q.2.2.2.1)) (lgz (lgm D q.2.2.2.2))) dc_M_judge_206 (by omega) (by omega) rfl (fun hc206 => ?_) (fun hc206 => ?_)
                · refine g_iload (pc := 225) dc_M_judge_225 rfl ?_
                  refine q_ifb_ne (pc := 227) (tgt := 238) dc_M_judge_227 rfl (fun hc227 => ?_) (fun hc227 => ?_)
                  · refine g_iconst (pc := 238) (v := 1) dc_M_judge_238 rfl ?_
                    refine g_goto (pc := 239) (tgt := 243) dc_M_judge_239 rfl ?_
                    refine g_istore (pc := 243) dc_M_judge_243 (by decide) ?_
                    show am_G X mt_M_judge _ 245 [some (.ref 84), some (.int (nI ka)), none, some (.int (nI j)), some (.int 1), some (.int 0), some (.int (b1 q.2.2.1)), some (.int (nI (max (lgz (lgm D q.2.2.2.1)) (lgz (lgm D q.2.2.2.2))))), some (.int 1), some (.int (nI (s + (rlE L p + 1))))] [] _ _
                    refine g_aload_n (pc := 245) dc_M_judge_245 rfl ?_
                    refine g_getfield (pc := 246) (v := .int (nI ((uf L (rlV L p) (rlW L p)).length))) dc_M_judge_246 fl_M_188 (mp_o hA) (congrArg (fun z => some (Value.int (nI z))) hm4.2.1) ?_
                    refine g_istore (pc := 249) dc_M_judge_249 (by decide) ?_
                    show am_G X mt_M_judge _ 251 [some (.ref 84), some (.int (nI ka)), none, some (.int (nI j)), some (.int 1), some (.int 0), some (.int (b1 q.2.2.1)), some (.int (nI ((uf L (rlV L p) (rlW L p)).length))), some (.int 1), some (.int (nI (s + (rlE L p + 1))))] [] _ _
                    refine g_goto (pc := 251) (tgt := 63) dc_M_judge_251 rfl ?_
                    have hrp : rpt q.2.2.1 L p q.2.2.2.2 = q.2.2.2.2 ++ [(uf L (rlV L p) (rlW L p))] := if_pos ⟨hc163, by omega⟩
                    have ez : lgz (lgm D (q.2.2.2.2 ++ [(uf L (rlV L p) (rlW L p))])) = if lgz (lgm D q.2.2.2.2) < (uf L (rlV L p) (rlW L p)).length then (uf L (rlV L p) (rlW L p)).length else lgz (lgm D q.2.2.2.2) := by rw [lgm_app, lgs_z (by omega)]; simp [hc188]
                    have e5 : b1 (rlT 15 L q p).2.1 = 0 := by rw [rlT_2 hk9]; rfl
                    have e6 : b1 (rlT 15 L q p).2.2.1 = (b1 q.2.2.1) := by rw [rlT_2 hk9]
                    have em : max (lgz (lgm D q.2.2.2.1)) (lgz (lgm D (q.2.2.2.2 ++ [(uf L (rlV L p) (rlW L p))]))) = (uf L (rlV L p) (rlW L p)).length := by rw [ez]; (try split) <;> omega
                    have e7 : nI (max (lgz (lgm D (rlT 15 L q p).2.2.2.1)) (lgz (lgm D (rlT 15 L q p).2.2.2.2))) = (nI ((uf L (rlV L p) (rlW L p)).length)) := by rw [rlT_2 hk9]; show nI (max (lgz (lgm D q.2.2.2.1)) (lgz (lgm D (rpt q.2.2.1 L p q.2.2.2.2)))) = _; rw [hrp, em]
                    have ed : decide (lgz (lgm D (q.2.2.2.2 ++ [(uf L (rlV L p) (rlW L p))])) ≤ lgz (lgm D q.2.2.2.1)) = true := decide_eq_true (by rw [ez]; have h7 := of_decide_eq_true hc227; (try split) <;> omega)
                    have e8 : b1 (decide (lgz (lgm D (rlT 15 L q p).2.2.2.2) ≤ lgz (lgm D (rlT 15 L q p).2.2.2.1))) = 1 := by rw [rlT_2 hk9]; show b1 (decide (lgz (lgm D (rpt q.2.2.1 L p q.2.2.2.2)) ≤ lgz (lgm D q.2.2.2.1))) = _; rw [hrp, ed]; rfl
                    have hj9 : jvA S S4 := hj4
                    have hq9 : hoQ S4 (rlT 15 L q p) := by rw [rlT_2 hk9]; show S4.holding = q.2.2.2.1.length + (rpt q.2.2.1 L p q.2.2.2.2).length; rw [hm4.2.2.2, hrp, List.length_append]; show S2.holding + 1 = _; rw [hq2]; show _ + 1 = _; simp; omega
                    have hl9 : max (lgz (lgm D (rlT 15 L q p).2.2.2.1)) (lgz (lgm D (rlT 15 L q p).2.2.2.2)) ≤ 8000 := by rw [rlT_2 hk9]; show max (lgz (lgm D q.2.2.2.1)) (lgz (lgm D (rpt q.2.2.1 L p q.2.2.2.2))) ≤ 8000; rw [hrp, em]; omega
                    have h9 := l1_M_judge hA hs hj hbL hL8 hka hD ho n (rlE L p + 1) S4 (rlT 15 L q p) (by omega) (by omega) (hX.v hj9) (hT.v hj9) (rlT_ok hk) hq9 hl9
                    rw [e5, e6, e7, e8] at h9
                    refine am_G.mono h9 (fun r h1 hz => ?_)
                    obtain ⟨y1, S1, y2, y3, y4⟩ := hz
                    exact ⟨y1, S1, y2, jvA.tr hj9 y3, y4⟩
                  · refine g_aload_n (pc := 230) dc_M_judge_230 rfl ?_
                    refine g_getfield (pc := 231) (v := .int 2) dc_M_judge_231 fl_M_159 (mp_o hA) (congrArg (fun z => some (Value.int (er z))) hko4) ?_
                    refine g_iconst (pc := 234) (v := 1) dc_M_judge_234 rfl ?_
                    refine g_icmp_ne (pc := 235) (tgt := 242) dc_M_judge_235 rfl (fun _ => ?_) (fun hc => absurd hc (by decide))
                    refine g_iconst (pc := 242) (v := 0) dc_M_judge_242 rfl ?_
                    refine g_istore (pc := 243) dc_M_judge_243 (by decide) ?_
                    show am_G X mt_M_judge _ 245 [some (.ref 84), some (.int (nI ka)), none, some (.int (nI j)), some (.int 1), some (.int 0), some (.int (b1 q.2.2.1)), some (.int (nI (max (lgz (lgm D q.2.2.2.1)) (lgz (lgm D q.2.2.2.2))))), some (.int 0), some (.int (nI (s + (rlE L p + 1))))] [] _ _
                    refine g_aload_n (pc := 245) dc_M_judge_245 rfl ?_
                    refine g_getfield (pc := 246) (v := .int (nI ((uf L (rlV L p) (rlW L p)).length))) dc_M_judge_246 fl_M_188 (mp_o hA) (congrArg (fun z => some (Value.int (nI z))) hm4.2.1) ?_
                    refine g_istore (pc := 249) dc_M_judge_249 (by decide) ?_
                    show am_G X mt_M_judge _ 251 [some (.ref 84), some (.int (nI ka)), none, some (.int (nI j)), some (.int 1), some (.int 0), some (.int (b1 q.2.2.1)), some (.int (nI ((uf L (rlV L p) (rlW L p)).length))), some (.int 0), some (.int (nI (s + (rlE L p + 1))))] [] _ _
                    refine g_goto (pc := 251) (tgt := 63) dc_M_judge_251 rfl ?_
                    have hrp : rpt q.2.2.1 L p q.2.2.2.2 = q.2.2.2.2 ++ [(uf L (rlV L p) (rlW L p))] := if_pos ⟨hc163, by omega⟩
                    have ez : lgz (lgm D (q.2.2.2.2 ++ [(uf L (rlV L p) (rlW L p))])) = if lgz (lgm D q.2.2.2.2) < (uf L (rlV L p) (rlW L p)).length then (uf L (rlV L p) (rlW L p)).length else lgz (lgm D q.2.2.2.2) := by rw [lgm_app, lgs_z (by omega)]; simp [hc188]
                    have e5 : b1 (rlT 15 L q p).2.1 = 0 := by rw [rlT_2 hk9]; rfl
                    have e6 : b1 (rlT 15 L q p).2.2.1 = (b1 q.2.2.1) := by rw [rlT_2 hk9]
                    have em : max (lgz (lgm D q.2.2.2.1)) (lgz (lgm D (q.2.2.2.2 ++ [(uf L (rlV L p) (rlW L p))]))) = (uf L (rlV L p) (rlW L p)).length := by rw [ez]; (try split) <;> omega
                    have e7 : nI (max (lgz (lgm D (rlT 15 L q p).2.2.2.1)) (lgz (lgm D (rlT 15 L q p).2.2.2.2))) = (nI ((uf L (rlV L p) (rlW L p)).length)) := by rw [rlT_2 hk9]; show nI (max (lgz (lgm D q.2.2.2.1)) (lgz (lgm D (rpt q.2.2.1 L p q.2.2.2.2)))) = _; rw [hrp, em]
                    have ed : decide (lgz (lgm D (q.2.2.2.2 ++ [(uf L (rlV L p) (rlW L p))])) ≤ lgz (lgm D q.2.2.2.1)) = false := decide_eq_false (by rw [ez]; have h7 := of_decide_eq_false hc227; (try split) <;> omega)
                    have e8 : b1 (decide (lgz (lgm D (rlT 15 L q p).2.2.2.2) ≤ lgz (lgm D (rlT 15 L q p).2.2.2.1))) = 0 := by rw [rlT_2 hk9]; show b1 (decide (lgz (lgm D (rpt q.2.2.1 L p q.2.2.2.2)) ≤ lgz (lgm D q.2.2.2.1))) = _; rw [hrp, ed]; rfl
                    have hj9 : jvA S S4 := hj4
                    have hq9 : hoQ S4 (rlT 15 L q p) := by rw [rlT_2 hk9]; show S4.holding = q.2.2.2.1.length + (rpt q.2.2.1 L p q.2.2.2.2).length; rw [hm4.2.2.2, hrp, List.length_append]; show S2.holding + 1 = _; rw [hq2]; show _ + 1 = _; simp; omega
                    have hl9 : max (lgz (lgm D (rlT 15 L q p).2.2.2.1)) (lgz (lgm D (rlT 15 L q p).2.2.2.2)) ≤ 8000 := by rw [rlT_2 hk9]; show max (lgz (lgm D q.2.2.2.1)) (lgz (lgm D (rpt q.2.2.1 L p q.2.2.2.2))) ≤ 8000; rw [hrp, em]; omega
                    have h9 := l1_M_judge hA hs hj hbL hL8 hka hD ho n (rlE L p + 1) S4 (rlT 15 L q p) (by omega) (by omega) (hX.v hj9) (hT.v hj9) (rlT_ok hk) hq9 hl9
                    rw [e5, e6, e7, e8] at h9
                    refine am_G.mono h9 (fun r h1 hz => ?_)
                    obtain ⟨y1, S1, y2, y3, y4⟩ := hz
                    exact ⟨y1, S1, y2, jvA.tr hj9 y3, y4⟩
                · refine g_aload_n (pc := 209) dc_M_judge_209 rfl ?_
                  refine g_getfield (pc := 210) (v := .int 2) dc_M_judge_210 fl_M_159 (mp_o hA) (congrArg (fun z => some (Value.int (er z))) hko4) ?_
                  refine g_iconst (pc := 213) (v := 1) dc_M_judge_213 rfl ?_
                  refine g_icmp_ne (pc := 214) (tgt := 221) dc_M_judge_214 rfl (fun _ => ?_) (fun hc => absurd hc (by decide))
                  refine g_iconst (pc := 221) (v := 0) dc_M_judge_221 rfl ?_
                  refine g_goto (pc := 222) (tgt := 243) dc_M_judge_222 rfl ?_
                  refine g_istore (pc := 243) dc_M_judge_243 (by decide) ?_
                  show am_G X mt_M_judge _ 245 [some (.ref 84), some (.int (nI ka)), none, some (.int (nI j)), some (.int 1), some (.int 0), some (.int (b1 q.2.2.1)), some (.int (nI (max (lgz (lgm D q.2.2.2.1)) (lgz (lgm D q.2.2.2.2))))), some (.int 0), some (.int (nI (s + (rlE L p + 1))))] [] _ _
                  refine g_aload_n (pc := 245) dc_M_judge_245 rfl ?_
                  refine g_getfield (pc := 246) (v := .int (nI ((uf L (rlV L p) (rlW L p)).length))) dc_M_judge_246 fl_M_188 (mp_o hA) (congrArg (fun z => some (Value.int (nI z))) hm4.2.1) ?_
                  refine g_istore (pc := 249) dc_M_judge_249 (by decide) ?_
                  show am_G X mt_M_judge _ 251 [some (.ref 84), some (.int (nI ka)), none, some (.int (nI j)), some (.int 1), some (.int 0), some (.int (b1 q.2.2.1)), some (.int (nI ((uf L (rlV L p) (rlW L p)).length))), some (.int 0), some (.int (nI (s + (rlE L p + 1))))] [] _ _
                  refine g_goto (pc := 251) (tgt := 63) dc_M_judge_251 rfl ?_
                  have hrp : rpt q.2.2.1 L p q.2.2.2.2 = q.2.2.2.2 ++ [(uf L (rlV L p) (rlW L p))] := if_pos ⟨hc163, by omega⟩
                  have ez : lgz (lgm D (q.2.2.2.2 ++ [(uf L (rlV L p) (rlW L p))])) = if lgz (lgm D q.2.2.2.2) < (uf L (rlV L p) (rlW L p)).length then (uf L (rlV L p) (rlW L p)).length else lgz (lgm D q.2.2.2.2) := by rw [lgm_app, lgs_z (by omega)]; simp [hc188]
                  have e5 : b1 (rlT 15 L q p).2.1 = 0 := by rw [rlT_2 hk9]; rfl
                  have e6 : b1 (rlT 15 L q p).2.2.1 = (b1 q.2.2.1) := by rw [rlT_2 hk9]
                  have em : max (lgz (lgm D q.2.2.2.1)) (lgz (lgm D (q.2.2.2.2 ++ [(uf L (rlV L p) (rlW L p))]))) = (uf L (rlV L p) (rlW L p)).length := by rw [ez]; (try split) <;> omega
                  have e7 : nI (max (lgz (lgm D (rlT 15 L q p).2.2.2.1)) (lgz (lgm D (rlT 15 L q p).2.2.2.2))) = (nI ((uf L (rlV L p) (rlW L p)).length)) := by rw [rlT_2 hk9]; show nI (max (lgz (lgm D q.2.2.2.1)) (lgz (lgm D (rpt q.2.2.1 L p q.2.2.2.2)))) = _; rw [hrp, em]
                  have ed : decide (lgz (lgm D (q.2.2.2.2 ++ [(uf L (rlV L p) (rlW L p))])) ≤ lgz (lgm D q.2.2.2.1)) = false := decide_eq_false (by rw [ez]; (try split) <;> omega)
                  have e8 : b1 (decide (lgz (lgm D (rlT 15 L q p).2.2.2.2) ≤ lgz (lgm D (rlT 15 L q p).2.2.2.1))) = 0 := by rw [rlT_2 hk9]; show b1 (decide (lgz (lgm D (rpt q.2.2.1 L p q.2.2.2.2)) ≤ lgz (lgm D q.2.2.2.1))) = _; rw [hrp, ed]; rfl
                  have hj9 : jvA S S4 := hj4
                  have hq9 : hoQ S4 (rlT 15 L q p) := by rw [rlT_2 hk9]; show S4.holding = q.2.2.2.1.length + (rpt q.2.2.1 L p q.2.2.2.2).length; rw [hm4.2.2.2, hrp, List.length_append]; show S2.holding + 1 = _; rw [hq2]; show _ + 1 = _; simp; omega
                  have hl9 : max (lgz (lgm D (rlT 15 L q p).2.2.2.1)) (lgz (lgm D (rlT 15 L q p).2.2.2.2)) ≤ 8000 := by rw [rlT_2 hk9]; show max (lgz (lgm D q.2.2.2.1)) (lgz (lgm D (rpt q.2.2.1 L p q.2.2.2.2))) ≤ 8000; rw [hrp, em]; omega
                  have h9 := l1_M_judge hA hs hj hbL hL8 hka hD ho n (rlE L p + 1) S4 (rlT 15 L q p) (by omega) (by omega) (hX.v hj9) (hT.v hj9) (rlT_ok hk) hq9 hl9
                  rw [e5, e6, e7, e8] at h9
                  refine am_G.mono h9 (fun r h1 hz => ?_)
                  obtain ⟨y1, S1, y2, y3, y4⟩ := hz
                  exact ⟨y1, S1, y2, jvA.tr hj9 y3, y4⟩
      · have hko : S2.key = none := by rw [hz4.1]; unfold rlO; rw [hk9]; rfl
        refine g_aload_n (pc := 88) dc_M_judge_88 rfl ?_
        refine g_getfield (pc := 89) (v := .int (-1)) dc_M_judge_89 fl_M_159 (mp_o hA) (congrArg (fun z => some (Value.int (er z))) hko) ?_
        refine g_if_ne (pc := 92) (tgt := 127) dc_M_judge_92 rfl (fun _ => ?_) (fun hc => absurd hc (by decide))
        refine g_aload_n (pc := 127) dc_M_judge_127 rfl ?_
        refine g_getfield (pc := 128) (v := .int (-1)) dc_M_judge_128 fl_M_159 (mp_o hA) (congrArg (fun z => some (Value.int (er z))) hko) ?_
        refine g_if_le (pc := 131) (tgt := 63) dc_M_judge_131 rfl (fun _ => ?_) (fun hc => absurd hc (by decide))
        have e5 : b1 (rlT 15 L q p).2.1 = (b1 q.2.1) := by rw [rlT_3 hk9]
        have e6 : b1 (rlT 15 L q p).2.2.1 = (b1 q.2.2.1) := by rw [rlT_3 hk9]
        have e7 : nI (max (lgz (lgm D (rlT 15 L q p).2.2.2.1)) (lgz (lgm D (rlT 15 L q p).2.2.2.2))) = (nI (max (lgz (lgm D q.2.2.2.1)) (lgz (lgm D q.2.2.2.2)))) := by rw [rlT_3 hk9]
        have e8 : b1 (decide (lgz (lgm D (rlT 15 L q p).2.2.2.2) ≤ lgz (lgm D (rlT 15 L q p).2.2.2.1))) = (b1 (decide (lgz (lgm D q.2.2.2.2) ≤ lgz (lgm D q.2.2.2.1)))) := by rw [rlT_3 hk9]
        have hj9 : jvA S S2 := hz3.v
        have hq9 : hoQ S2 (rlT 15 L q p) := by rw [rlT_3 hk9]; exact hq2
        have hl9 : max (lgz (lgm D (rlT 15 L q p).2.2.2.1)) (lgz (lgm D (rlT 15 L q p).2.2.2.2)) ≤ 8000 := by rw [rlT_3 hk9]; exact hlg
        have h9 := l1_M_judge hA hs hj hbL hL8 hka hD ho n (rlE L p + 1) S2 (rlT 15 L q p) (by omega) (by omega) (hX.v hj9) (hT.v hj9) (rlT_ok hk) hq9 hl9
        rw [e5, e6, e7, e8] at h9
        refine am_G.mono h9 (fun r h1 hz => ?_)
        obtain ⟨y1, S1, y2, y3, y4⟩ := hz
        exact ⟨y1, S1, y2, jvA.tr hj9 y3, y4⟩
    · have hz : True := trivial
      refine g_iload (pc := 63) dc_M_judge_63 rfl ?_
      refine g_aload_n (pc := 65) dc_M_judge_65 rfl ?_
      refine g_getfield (pc := 66) dc_M_judge_66 fl_M_146 (mp_o hA) rfl ?_
      refine g_iload_n (pc := 69) dc_M_judge_69 rfl ?_
      refine q_ialoadV (pc := 70) j dc_M_judge_70 (mp_a hA 14 rfl) (by omega) (by omega) (v := (nI (s + L.length))) hX.2.2 ?_
      refine q_icmp_ge (pc := 71) (tgt := 254) (s + p) (s + L.length) dc_M_judge_71 (by omega) (by omega) rfl (fun hc71 => ?_) (fun hc => absurd hc (by omega))
      refine g_aload_n (pc := 254) dc_M_judge_254 rfl ?_
      refine g_iload (pc := 255) dc_M_judge_255 rfl ?_
      refine pf_isAllowed (pc := 257) (v := decide (lgz (lgm D q.2.2.2.2) ≤ lgz (lgm D q.2.2.2.1))) hA dc_M_judge_257 fp_M_judge_197 ?_
      exact g_return dc_M_judge_260 rfl ⟨rfl, _, rfl, jvA.s_isAllowed _ _, by rw [lns_out (by omega), List.foldl_nil]; exact hq, by rw [lns_out (by omega), List.foldl_nil]; exact (alw_z hk.1 hk.2).symm⟩
theorem l0_M_judge (hA : A.length = 84) (hs : s + L.length ≤ 24000) (hj : j < 1100) (hbL : btg L) (hL8 : L.length ≤ 8000) (hka : ka < T.length) (hD : gT T ka = D) (ho : okD D) : ∀ (n p : Nat) (S : MS) (q : ClS), L.length - p ≤ n → p ≤ L.length + 1 → tyT S j s L → adT S T → okQ q → hoQ S q → max (lgz (lgm D q.2.2.2.1)) (lgz (lgm D q.2.2.2.2)) ≤ 8000 → am_G X mt_M_judge (d + 7) 63 [some (.ref 84), some (.int (nI ka)), none, some (.int (nI j)), some (.int 0), some (.int (b1 q.2.1)), some (.int (b1 q.2.2.1)), some (.int (nI (max (lgz (lgm D q.2.2.2.1)) (lgz (lgm D q.2.2.2.2))))), some (.int (b1 (decide (lgz (lgm D q.2.2.2.2) ≤ lgz (lgm D q.2.2.2.1))))), some (.int (nI (s + p)))] [] (mput A S B) (fun r h1 => r = none ∧ ∃ S1, h1 = mput A S1 B ∧ jvA S S1 ∧ hoQ S1 ((lns L n p).foldl (rlT 11 L) q) ∧ S1.isAllowed = alw D ((lns L n p).foldl (rlT 11 L) q).2.2.2.1 ((lns L n p).foldl (rlT 11 L) q).2.2.2.2)
  | 0, p, S, q, hm, hp1, hX, hT, hk, hq, hlg => by
    refine g_iload (pc := 63) dc_M_judge_63 rfl ?_
    refine g_aload_n (pc := 65) dc_M_judge_65 rfl ?_
    refine g_getfield (pc := 66) dc_M_judge_66 fl_M_146 (mp_o hA) rfl ?_
    refine g_iload_n (pc := 69) dc_M_judge_69 rfl ?_
    refine q_ialoadV (pc := 70) j dc_M_judge_70 (mp_a hA 14 rfl) (by omega) (by omega) (v := (nI (s + L.length))) hX.2.2 ?_
    refine q_icmp_ge (pc := 71) (tgt := 254) (s + p) (s + L.length) dc_M_judge_71 (by omega) (by omega) rfl (fun hc71 => ?_) (fun hc => absurd hc (by omega))
    refine g_aload_n (pc := 254) dc_M_judge_254 rfl ?_
    refine g_iload (pc := 255) dc_M_judge_255 rfl ?_
    refine pf_isAllowed (pc := 257) (v := decide (lgz (lgm D q.2.2.2.2) ≤ lgz (lgm D q.2.2.2.1))) hA dc_M_judge_257 fp_M_judge_197 ?_
    exact g_return dc_M_judge_260 rfl ⟨rfl, _, rfl, jvA.s_isAllowed _ _, by rw [show lns L 0 p = [] from rfl, List.foldl_nil]; exact hq, by rw [show lns L 0 p = [] from rfl, List.foldl_nil]; exact (alw_z hk.1 hk.2).symm⟩
  | n + 1, p, S, q, hm, hp1, hX, hT, hk, hq, hlg => by
    by_cases hp : p < L.length
    · have hrb := rl_bd (L := L) (p := p) (by omega)
      rw [lns_s hp, List.foldl_cons]
      refine g_iload (pc := 63) dc_M_judge_63 rfl ?_
      refine g_aload_n (pc := 65) dc_M_judge_65 rfl ?_
      refine g_getfield (pc := 66) dc_M_judge_66 fl_M_146 (mp_o hA) rfl ?_
      refine g_iload_n (pc := 69) dc_M_judge_69 rfl ?_
      refine q_ialoadV (pc := 70) j dc_M_judge_70 (mp_a hA 14 rfl) (by omega) (by omega) (v := (nI (s + L.length))) hX.2.2 ?_
      refine q_icmp_ge (pc := 71) (tgt := 254) (s + p) (s + L.length) dc_M_judge_71 (by omega) (by omega) rfl (fun hc => absurd hc (by omega)) (fun hc71 => ?_)
      refine g_aload_n (pc := 74) dc_M_judge_74 rfl ?_
      refine g_iload (pc := 75) dc_M_judge_75 rfl ?_
      refine g_aload_n (pc := 77) dc_M_judge_77 rfl ?_
      refine g_getfield (pc := 78) dc_M_judge_78 fl_M_146 (mp_o hA) rfl ?_
      refine g_iload_n (pc := 81) dc_M_judge_81 rfl ?_
      refine q_ialoadV (pc := 82) j dc_M_judge_82 (mp_a hA 14 rfl) (by omega) (by omega) (v := (nI (s + L.length))) hX.2.2 ?_
      refine g_v2 (pc := 83) (M' := mt_M_readLine) dc_M_judge_83 mo_M_readLine im_M_readLine se_M_readLine ln_M_176 (mp_o hA) rfl rfl (Nat.le_of_ble_eq_true rfl) (Nat.le_of_ble_eq_true rfl) (am_G.mono (c_M_readLine (d := d + 1) hA hs hX.1 (show p ≤ L.length by omega)) ?_)
      intro r h1 hz
      obtain ⟨hz1, S2, hz2, hz3, hz4⟩ := hz
      rw [hz1, hz2]
      clear hz1 hz2 h1 r
      have hX2 := hX.j hz3
      have hT2 := hT.j hz3
      have hq2 : hoQ S2 q := hz3.holding.trans hq
      refine ⟨am_nti _, ?_⟩
      refine g_istore (pc := 86) dc_M_judge_86 (by decide) ?_
      show am_G X mt_M_judge _ 88 [some (.ref 84), some (.int (nI ka)), none, some (.int (nI j)), some (.int 0), some (.int (b1 q.2.1)), some (.int (b1 q.2.2.1)), some (.int (nI (max (lgz (lgm D q.2.2.2.1)) (lgz (lgm D q.2.2.2.2))))), some (.int (b1 (decide (lgz (lgm D q.2.2.2.2) ≤ lgz (lgm D q.2.2.2.1))))), some (.int (nI (s + (rlE L p + 1))))] [] _ _
      rcases rlK_4 L p with hk9 | hk9 | hk9 | hk9
      · have hko : S2.key = some 0 := by rw [hz4.1]; unfold rlO; rw [hk9]; rfl
        have hcs := rlK_c (L := L) (p := p) (by rw [hk9]; decide)
        have hvw := rl_vw (L := L) (p := p) (by omega)
        have hul := uf_len (L := L) (t := rlW L p) (rlW L p - rlV L p) (rlV L p) (Nat.le_refl _)
        refine g_aload_n (pc := 88) dc_M_judge_88 rfl ?_
        refine g_getfield (pc := 89) (v := .int 0) dc_M_judge_89 fl_M_159 (mp_o hA) (congrArg (fun z => some (Value.int (er z))) hko) ?_
        refine g_if_ne (pc := 92) (tgt := 127) dc_M_judge_92 rfl (fun hc => absurd hc (by decide)) (fun _ => ?_)
        refine g_iload (pc := 95) dc_M_judge_95 rfl ?_
        refine q_ifb_eq (pc := 97) (tgt := 105) dc_M_judge_97 rfl (fun hc97 => ?_) (fun hc97 => ?_)
        · refine g_aload_n (pc := 105) dc_M_judge_105 rfl ?_
          refine g_iload (pc := 106) dc_M_judge_106 rfl ?_
          refine g_v1 (pc := 108) (M' := mt_M_isAgent) dc_M_judge_108 mo_M_isAgent im_M_isAgent se_M_isAgent ln_M_180 (mp_o hA) rfl rfl (Nat.le_of_ble_eq_true rfl) (Nat.le_of_ble_eq_true rfl) (am_G.mono (c0_M_isAgent (d := d + 1) (f := rlV L p) (t := rlW L p) hA hs hX2.1 (hz4.2 hcs).1 (hz4.2 hcs).2 (by omega) (by omega)) ?_)
          intro r h1 hq
          rw [hq.1, hq.2]
          clear hq h1 r
          refine ⟨am_nti _, ?_⟩
          refine q_ifb_eq (pc := 111) (tgt := 118) dc_M_judge_111 rfl (fun hc111 => ?_) (fun hc111 => ?_)
          · refine g_iconst (pc := 118) (v := 0) dc_M_judge_118 rfl ?_
            refine g_istore (pc := 119) dc_M_judge_119 (by decide) ?_
            show am_G X mt_M_judge _ 121 [some (.ref 84), some (.int (nI ka)), none, some (.int (nI j)), some (.int 0), some (.int (b1 q.2.1)), some (.int 0), some (.int (nI (max (lgz (lgm D q.2.2.2.1)) (lgz (lgm D q.2.2.2.2))))), some (.int (b1 (decide (lgz (lgm D q.2.2.2.2) ≤ lgz (lgm D q.2.2.2.1))))), some (.int (nI (s + (rlE L p + 1))))] [] _ _
            refine g_iconst (pc := 121) (v := 1) dc_M_judge_121 rfl ?_
            refine g_istore (pc := 122) dc_M_judge_122 (by decide) ?_
            show am_G X mt_M_judge _ 124 [some (.ref 84), some (.int (nI ka)), none, some (.int (nI j)), some (.int 0), some (.int 1), some (.int 0), some (.int (nI (max (lgz (lgm D q.2.2.2.1)) (lgz (lgm D q.2.2.2.2))))), some (.int (b1 (decide (lgz (lgm D q.2.2.2.2) ≤ lgz (lgm D q.2.2.2.1))))), some (.int (nI (s + (rlE L p + 1))))] [] _ _
            refine g_goto (pc := 124) (tgt := 63) dc_M_judge_124 rfl ?_
            have e5 : b1 (rlT 11 L q p).2.1 = 1 := by rw [rlT_0 hk9]; rfl
            have e6 : b1 (rlT 11 L q p).2.2.1 = 0 := by rw [rlT_0 hk9]; show b1 (isw 11 L (rlV L p) (rlW L p) || (q.2.1 && q.2.2.1)) = _; simp [hc97, hc111, b1]
            have e7 : nI (max (lgz (lgm D (rlT 11 L q p).2.2.2.1)) (lgz (lgm D (rlT 11 L q p).2.2.2.2))) = (nI (max (lgz (lgm D q.2.2.2.1)) (lgz (lgm D q.2.2.2.2)))) := by rw [rlT_0 hk9]
            have e8 : b1 (decide (lgz (lgm D (rlT 11 L q p).2.2.2.2) ≤ lgz (lgm D (rlT 11 L q p).2.2.2.1))) = (b1 (decide (lgz (lgm D q.2.2.2.2) ≤ lgz (lgm D q.2.2.2.1)))) := by rw [rlT_0 hk9]
            have hj9 : jvA S S2 := hz3.v
            have hq9 : hoQ S2 (rlT 11 L q p) := by rw [rlT_0 hk9]; exact hq2
            have hl9 : max (lgz (lgm D (rlT 11 L q p).2.2.2.1)) (lgz (lgm D (rlT 11 L q p).2.2.2.2)) ≤ 8000 := by rw [rlT_0 hk9]; exact hlg
            have h9 := l0_M_judge hA hs hj hbL hL8 hka hD ho n (rlE L p + 1) S2 (rlT 11 L q p) (by omega) (by omega) (hX.v hj9) (hT.v hj9) (rlT_ok hk) hq9 hl9
            rw [e5, e6, e7, e8] at h9
            refine am_G.mono h9 (fun r h1 hz => ?_)
            obtain ⟨y1, S1, y2, y3, y4⟩ := hz
            exact ⟨y1, S1, y2, jvA.tr hj9 y3, y4⟩
          · refine g_iconst (pc := 114) (v := 1) dc_M_judge_114 rfl ?_
            refine g_goto (pc := 115) (tgt := 119) dc_M_judge_115 rfl ?_
            refine g_istore (pc := 119) dc_M_judge_119 (by decide) ?_
            show am_G X mt_M_judge _ 121 [some (.ref 84), some (.int (nI ka)), none, some (.int (nI j)), some (.int 0), some (.int (b1 q.2.1)), some (.int 1), some (.int (nI (max (lgz (lgm D q.2.2.2.1)) (lgz (lgm D q.2.2.2.2))))), some (.int (b1 (decide (lgz (lgm D q.2.2.2.2) ≤ lgz (lgm D q.2.2.2.1))))), some (.int (nI (s + (rlE L p + 1))))] [] _ _
            refine g_iconst (pc := 121) (v := 1) dc_M_judge_121 rfl ?_
            refine g_istore (pc := 122) dc_M_judge_122 (by decide) ?_
            show am_G X mt_M_judge _ 124 [some (.ref 84), some (.int (nI ka)), none, some (.int (nI j)), some (.int 0), some (.int 1), some (.int 1), some (.int (nI (max (lgz (lgm D q.2.2.2.1)) (lgz (lgm D q.2.2.2.2))))), some (.int (b1 (decide (lgz (lgm D q.2.2.2.2) ≤ lgz (lgm D q.2.2.2.1))))), some (.int (nI (s + (rlE L p + 1))))] [] _ _
            refine g_goto (pc := 124) (tgt := 63) dc_M_judge_124 rfl ?_
            have e5 : b1 (rlT 11 L q p).2.1 = 1 := by rw [rlT_0 hk9]; rfl
            have e6 : b1 (rlT 11 L q p).2.2.1 = 1 := by rw [rlT_0 hk9]; show b1 (isw 11 L (rlV L p) (rlW L p) || (q.2.1 && q.2.2.1)) = _; simp [hc97, hc111, b1]
            have e7 : nI (max (lgz (lgm D (rlT 11 L q p).2.2.2.1)) (lgz (lgm D (rlT 11 L q p).2.2.2.2))) = (nI (max (lgz (lgm D q.2.2.2.1)) (lgz (lgm D q.2.2.2.2)))) := by rw [rlT_0 hk9]
            have e8 : b1 (decide (lgz (lgm D (rlT 11 L q p).2.2.2.2) ≤ lgz (lgm D (rlT 11 L q p).2.2.2.1))) = (b1 (decide (lgz (lgm D q.2.2.2.2) ≤ lgz (lgm D q.2.2.2.1)))) := by rw [rlT_0 hk9]
            have hj9 : jvA S S2 := hz3.v
            have hq9 : hoQ S2 (rlT 11 L q p) := by rw [rlT_0 hk9]; exact hq2
            have hl9 : max (lgz (lgm D (rlT 11 L q p).2.2.2.1)) (lgz (lgm D (rlT 11 L q p).2.2.2.2)) ≤ 8000 := by rw [rlT_0 hk9]; exact hlg
            have h9 := l0_M_judge hA hs hj hbL hL8 hka hD ho n (rlE L p + 1) S2 (rlT 11 L q p) (by omega) (by omega) (hX.v hj9) (hT.v hj9) (rlT_ok hk) hq9 hl9
            rw [e5, e6, e7, e8] at h9
            refine am_G.mono h9 (fun r h1 hz => ?_)
            obtain ⟨y1, S1, y2, y3, y4⟩ := hz
            exact ⟨y1, S1, y2, jvA.tr hj9 y3, y4⟩
        · refine g_iload (pc := 100) dc_M_judge_100 rfl ?_
          refine q_ifb_ne (pc := 102) (tgt := 114) dc_M_judge_102 rfl (fun hc102 => ?_) (fun hc102 => ?_)
          · refine g_iconst (pc := 114) (v := 1) dc_M_judge_114 rfl ?_
            refine g_goto (pc := 115) (tgt := 119) dc_M_judge_115 rfl ?_
            refine g_istore (pc := 119) dc_M_judge_119 (by decide) ?_
            show am_G X mt_M_judge _ 121 [some (.ref 84), some (.int (nI ka)), none, some (.int (nI j)), some (.int 0), some (.int (b1 q.2.1)), some (.int 1), some (.int (nI (max (lgz (lgm D q.2.2.2.1)) (lgz (lgm D q.2.2.2.2))))), some (.int (b1 (decide (lgz (lgm D q.2.2.2.2) ≤ lgz (lgm D q.2.2.2.1))))), some (.int (nI (s + (rlE L p + 1))))] [] _ _
            refine g_iconst (pc := 121) (v := 1) dc_M_judge_121 rfl ?_
            refine g_istore (pc := 122) dc_M_judge_122 (by decide) ?_
            show am_G X mt_M_judge _ 124 [some (.ref 84), some (.int (nI ka)), none, some (.int (nI j)), some (.int 0), some (.int 1), some (.int 1), some (.int (nI (max (lgz (lgm D q.2.2.2.1)) (lgz (lgm D q.2.2.2.2))))), some (.int (b1 (decide (lgz (lgm D q.2.2.2.2) ≤ lgz (lgm D q.2.2.2.1))))), some (.int (nI (s + (rlE L p + 1))))] [] _ _
            refine g_goto (pc := 124) (tgt := 63) dc_M_judge_124 rfl ?_
            have e5 : b1 (rlT 11 L q p).2.1 = 1 := by rw [rlT_0 hk9]; rfl
            have e6 : b1 (rlT 11 L q p).2.2.1 = 1 := by rw [rlT_0 hk9]; show b1 (isw 11 L (rlV L p) (rlW L p) || (q.2.1 && q.2.2.1)) = _; simp [hc97, hc102, b1]
            have e7 : nI (max (lgz (lgm D (rlT 11 L q p).2.2.2.1)) (lgz (lgm D (rlT 11 L q p).2.2.2.2))) = (nI (max (lgz (lgm D q.2.2.2.1)) (lgz (lgm D q.2.2.2.2)))) := by rw [rlT_0 hk9]
            have e8 : b1 (decide (lgz (lgm D (rlT 11 L q p).2.2.2.2) ≤ lgz (lgm D (rlT 11 L q p).2.2.2.1))) = (b1 (decide (lgz (lgm D q.2.2.2.2) ≤ lgz (lgm D q.2.2.2.1)))) := by rw [rlT_0 hk9]
            have hj9 : jvA S S2 := hz3.v
            have hq9 : hoQ S2 (rlT 11 L q p) := by rw [rlT_0 hk9]; exact hq2
            have hl9 : max (lgz (lgm D (rlT 11 L q p).2.2.2.1)) (lgz (lgm D (rlT 11 L q p).2.2.2.2)) ≤ 8000 := by rw [rlT_0 hk9]; exact hlg
            have h9 := l0_M_judge hA hs hj hbL hL8 hka hD ho n (rlE L p + 1) S2 (rlT 11 L q p) (by omega) (by omega) (hX.v hj9) (hT.v hj9) (rlT_ok hk) hq9 hl9
            rw [e5, e6, e7, e8] at h9
            refine am_G.mono h9 (fun r h1 hz => ?_)
            obtain ⟨y1, S1, y2, y3, y4⟩ := hz
            exact ⟨y1, S1, y2, jvA.tr hj9 y3, y4⟩
          · refine g_aload_n (pc := 105) dc_M_judge_105 rfl ?_
            refine g_iload (pc := 106) dc_M_judge_106 rfl ?_
            refine g_v1 (pc := 108) (M' := mt_M_isAgent) dc_M_judge_108 mo_M_isAgent im_M_isAgent se_M_isAgent ln_M_180 (mp_o hA) rfl rfl (Nat.le_of_ble_eq_true rfl) (Nat.le_of_ble_eq_true rfl) (am_G.mono (c0_M_isAgent (d := d + 1) (f := rlV L p) (t := rlW L p) hA hs hX2.1 (hz4.2 hcs).1 (hz4.2 hcs).2 (by omega) (by omega)) ?_)
            intro r h1 hq
            rw [hq.1, hq.2]
            clear hq h1 r
            refine ⟨am_nti _, ?_⟩
            refine q_ifb_eq (pc := 111) (tgt := 118) dc_M_judge_111 rfl (fun hc111 => ?_) (fun hc111 => ?_)
            · refine g_iconst (pc := 118) (v := 0) dc_M_judge_118 rfl ?_
              refine g_istore (pc := 119) dc_M_judge_119 (by decide) ?_
              show am_G X mt_M_judge _ 121 [some (.ref 84), some (.int (nI ka)), none, some (.int (nI j)), some (.int 0), some (.int (b1 q.2.1)), some (.int 0), some (.int (nI (max (lgz (lgm D q.2.2.2.1)) (lgz (lgm D q.2.2.2.2))))), some (.int (b1 (decide (lgz (lgm D q.2.2.2.2) ≤ lgz (lgm D q.2.2.2.1))))), some (.int (nI (s + (rlE L p + 1))))] [] _ _
              refine g_iconst (pc := 121) (v := 1) dc_M_judge_121 rfl ?_
              refine g_istore (pc := 122) dc_M_judge_122 (by decide) ?_
              show am_G X mt_M_judge _ 124 [some (.ref 84), some (.int (nI ka)), none, some (.int (nI j)), some (.int 0), some (.int 1), some (.int 0), some (.int (nI (max (lgz (lgm D q.2.2.2.1)) (lgz (lgm D q.2.2.2.2))))), some (.int (b1 (decide (lgz (lgm D q.2.2.2.2) ≤ lgz (lgm D q.2.2.2.1))))), some (.int (nI (s + (rlE L p + 1))))] [] _ _
              refine g_goto (pc := 124) (tgt := 63) dc_M_judge_124 rfl ?_
              have e5 : b1 (rlT 11 L q p).2.1 = 1 := by rw [rlT_0 hk9]; rfl
              have e6 : b1 (rlT 11 L q p).2.2.1 = 0 := by rw [rlT_0 hk9]; show b1 (isw 11 L (rlV L p) (rlW L p) || (q.2.1 && q.2.2.1)) = _; simp [hc97, hc102, hc111, b1]
              have e7 : nI (max (lgz (lgm D (rlT 11 L q p).2.2.2.1)) (lgz (lgm D (rlT 11 L q p).2.2.2.2))) = (nI (max (lgz (lgm D q.2.2.2.1)) (lgz (lgm D q.2.2.2.2)))) := by rw [rlT_0 hk9]
              have e8 : b1 (decide (lgz (lgm D (rlT 11 L q p).2.2.2.2) ≤ lgz (lgm D (rlT 11 L q p).2.2.2.1))) = (b1 (decide (lgz (lgm D q.2.2.2.2) ≤ lgz (lgm D q.2.2.2.1)))) := by rw [rlT_0 hk9]
              have hj9 : jvA S S2 := hz3.v
              have hq9 : hoQ S2 (rlT 11 L q p) := by rw [rlT_0 hk9]; exact hq2
              have hl9 : max (lgz (lgm D (rlT 11 L q p).2.2.2.1)) (lgz (lgm D (rlT 11 L q p).2.2.2.2)) ≤ 8000 := by rw [rlT_0 hk9]; exact hlg
              have h9 := l0_M_judge hA hs hj hbL hL8 hka hD ho n (rlE L p + 1) S2 (rlT 11 L q p) (by omega) (by omega) (hX.v hj9) (hT.v hj9) (rlT_ok hk) hq9 hl9
              rw [e5, e6, e7, e8] at h9
              refine am_G.mono h9 (fun r h1 hz => ?_)
              obtain ⟨y1, S1, y2, y3, y4⟩ := hz
              exact ⟨y1, S1, y2, jvA.tr hj9 y3, y4⟩
            · refine g_iconst (pc := 114) (v := 1) dc_M_judge_114 rfl ?_
              refine g_goto (pc := 115) (tgt := 119) dc_M_judge_115 rfl ?_
              refine g_istore (pc := 119) dc_M_judge_119 (by decide) ?_
              show am_G X mt_M_judge _ 121 [some (.ref 84), some (.int (nI ka)), none, some (.int (nI j)), some (.int 0), some (.int (b1 q.2.1)), some (.int 1), some (.int (nI (max (lgz (lgm D q.2.2.2.1)) (lgz (lgm D q.2.2.2.2))))), some (.int (b1 (decide (lgz (lgm D q.2.2.2.2) ≤ lgz (lgm D q.2.2.2.1))))), some (.int (nI (s + (rlE L p + 1))))] [] _ _
              refine g_iconst (pc := 121) (v := 1) dc_M_judge_121 rfl ?_
              refine g_istore (pc := 122) dc_M_judge_122 (by decide) ?_
              show am_G X mt_M_judge _ 124 [some (.ref 84), some (.int (nI ka)), none, some (.int (nI j)), some (.int 0), some (.int 1), some (.int 1), some (.int (nI (max (lgz (lgm D q.2.2.2.1)) (lgz (lgm D q.2.2.2.2))))), some (.int (b1 (decide (lgz (lgm D q.2.2.2.2) ≤ lgz (lgm D q.2.2.2.1))))), some (.int (nI (s + (rlE L p + 1))))] [] _ _
              refine g_goto (pc := 124) (tgt := 63) dc_M_judge_124 rfl ?_
              have e5 : b1 (rlT 11 L q p).2.1 = 1 := by rw [rlT_0 hk9]; rfl
              have e6 : b1 (rlT 11 L q p).2.2.1 = 1 := by rw [rlT_0 hk9]; show b1 (isw 11 L (rlV L p) (rlW L p) || (q.2.1 && q.2.2.1)) = _; simp [hc97, hc102, hc111, b1]
              have e7 : nI (max (lgz (lgm D (rlT 11 L q p).2.2.2.1)) (lgz (lgm D (rlT 11 L q p).2.2.2.2))) = (nI (max (lgz (lgm D q.2.2.2.1)) (lgz (lgm D q.2.2.2.2)))) := by rw [rlT_0 hk9]
              have e8 : b1 (decide (lgz (lgm D (rlT 11 L q p).2.2.2.2) ≤ lgz (lgm D (rlT 11 L q p).2.2.2.1))) = (b1 (decide (lgz (lgm D q.2.2.2.2) ≤ lgz (lgm D q.2.2.2.1)))) := by rw [rlT_0 hk9]
              have hj9 : jvA S S2 := hz3.v
              have hq9 : hoQ S2 (rlT 11 L q p) := by rw [rlT_0 hk9]; exact hq2
              have hl9 : max (lgz (lgm D (rlT 11 L q p).2.2.2.1)) (lgz (lgm D (rlT 11 L q p).2.2.2.2)) ≤ 8000 := by rw [rlT_0 hk9]; exact hlg
              have h9 := l0_M_judge hA hs hj hbL hL8 hka hD ho n (rlE L p + 1) S2 (rlT 11 L q p) (by omega) (by omega) (hX.v hj9) (hT.v hj9) (rlT_ok hk) hq9 hl9
              rw [e5, e6, e7, e8] at h9
              refine am_G.mono h9 (fun r h1 hz => ?_)
              obtain ⟨y1, S1, y2, y3, y4⟩ := hz
              exact ⟨y1, S1, y2, jvA.tr hj9 y3, y4⟩
      · have hko : S2.key = some 1 := by rw [hz4.1]; unfold rlO; rw [hk9]; rfl
        have hcs := rlK_c (L := L) (p := p) (by rw [hk9]; decide)
        have hvw := rl_vw (L := L) (p := p) (by omega)
        have hul := uf_len (L := L) (t := rlW L p) (rlW L p - rlV L p) (rlV L p) (Nat.le_refl _)
        refine g_aload_n (pc := 88) dc_M_judge_88 rfl ?_
        refine g_getfield (pc := 89) (v := .int 1) dc_M_judge_89 fl_M_159 (mp_o hA) (congrArg (fun z => some (Value.int (er z))) hko) ?_
        refine g_if_ne (pc := 92) (tgt := 127) dc_M_judge_92 rfl (fun _ => ?_) (fun hc => absurd hc (by decide))
        refine g_aload_n (pc := 127) dc_M_judge_127 rfl ?_
        refine g_getfield (pc := 128) (v := .int 1) dc_M_judge_128 fl_M_159 (mp_o hA) (congrArg (fun z => some (Value.int (er z))) hko) ?_
        refine g_if_le (pc := 131) (tgt := 63) dc_M_judge_131 rfl (fun hc => absurd hc (by decide)) (fun _ => ?_)
        refine g_iconst (pc := 134) (v := 0) dc_M_judge_134 rfl ?_
        refine g_istore (pc := 135) dc_M_judge_135 (by decide) ?_
        show am_G X mt_M_judge _ 137 [some (.ref 84), some (.int (nI ka)), none, some (.int (nI j)), some (.int 0), some (.int 0), some (.int (b1 q.2.2.1)), some (.int (nI (max (lgz (lgm D q.2.2.2.1)) (lgz (lgm D q.2.2.2.2))))), some (.int (b1 (decide (lgz (lgm D q.2.2.2.2) ≤ lgz (lgm D q.2.2.2.1))))), some (.int (nI (s + (rlE L p + 1))))] [] _ _
        refine g_aload_n (pc := 137) dc_M_judge_137 rfl ?_
        refine g_aload_n (pc := 138) dc_M_judge_138 rfl ?_
        refine g_getfield (pc := 139) dc_M_judge_139 fl_M_140 (mp_o hA) rfl ?_
        refine g_aload_n (pc := 142) dc_M_judge_142 rfl ?_
        refine g_getfield (pc := 143) (v := .int (nI (s + rlV L p))) dc_M_judge_143 fl_M_168 (mp_o hA) (congrArg (fun z => some (Value.int (nI z))) (hz4.2 hcs).1) ?_
        refine g_aload_n (pc := 146) dc_M_judge_146 rfl ?_
        refine g_getfield (pc := 147) (v := .int (nI (s + rlW L p))) dc_M_judge_147 fl_M_171 (mp_o hA) (congrArg (fun z => some (Value.int (nI z))) (hz4.2 hcs).2) ?_
        refine g_aload_n (pc := 150) dc_M_judge_150 rfl ?_
        refine g_getfield (pc := 151) dc_M_judge_151 fl_M_191 (mp_o hA) rfl ?_
        refine g_iconst (pc := 154) (v := 0) dc_M_judge_154 rfl ?_
        refine g_s5 (pc := 155) (M' := mt_M_unfold) dc_M_judge_155 mo_M_unfold st_M_unfold ln_M_94 (Nat.le_of_ble_eq_true rfl) (Nat.le_of_ble_eq_true rfl) (am_G.mono (c_M_unfold_pattern (d := d + 4) (S := S2) (L := L) (f := rlV L p) (t := rlW L p) (n := 0) (a := 96) (s := s) hA hbL (by omega) (by omega) (by omega) (tt_txt hA hX2.1 hs) (by omega)) ?_)
        intro r h1 hq
        rw [hq.1, hq.2]
        clear hq h1 r
        refine ⟨am_nti _, ?_⟩
        rw [Nat.zero_add]
        refine pf_patternLength (pc := 158) (v := (uf L (rlV L p) (rlW L p)).length) hA dc_M_judge_158 fp_M_judge_188 ?_
        refine g_iload (pc := 161) dc_M_judge_161 rfl ?_
        refine q_ifb_eq (pc := 163) (tgt := 63) dc_M_judge_163 rfl (fun hc163 => ?_) (fun hc163 => ?_)
        · have hrp : rpt q.2.2.1 L p q.2.2.2.1 = q.2.2.2.1 := if_neg (fun h9 => by rw [hc163] at h9; exact absurd h9.1 (by decide))
          have e5 : b1 (rlT 11 L q p).2.1 = 0 := by rw [rlT_1 hk9]; rfl
          have e6 : b1 (rlT 11 L q p).2.2.1 = (b1 q.2.2.1) := by rw [rlT_1 hk9]
          have e7 : nI (max (lgz (lgm D (rlT 11 L q p).2.2.2.1)) (lgz (lgm D (rlT 11 L q p).2.2.2.2))) = (nI (max (lgz (lgm D q.2.2.2.1)) (lgz (lgm D q.2.2.2.2)))) := by rw [rlT_1 hk9, hrp]
          have e8 : b1 (decide (lgz (lgm D (rlT 11 L q p).2.2.2.2) ≤ lgz (lgm D (rlT 11 L q p).2.2.2.1))) = (b1 (decide (lgz (lgm D q.2.2.2.2) ≤ lgz (lgm D q.2.2.2.1)))) := by rw [rlT_1 hk9, hrp]
          have hj9 : jvA S ((S2.s_pattern (wrt S2.pattern 0 (uf L (rlV L p) (rlW L p)))).s_patternLength (uf L (rlV L p) (rlW L p)).length) := ((hz3.v.tr (jvA.s_pattern _ _)).tr (jvA.s_patternLength _ _))
          have hq9 : hoQ ((S2.s_pattern (wrt S2.pattern 0 (uf L (rlV L p) (rlW L p)))).s_patternLength (uf L (rlV L p) (rlW L p)).length) (rlT 11 L q p) := by rw [rlT_1 hk9, hrp]; exact hq2
          have hl9 : max (lgz (lgm D (rlT 11 L q p).2.2.2.1)) (lgz (lgm D (rlT 11 L q p).2.2.2.2)) ≤ 8000 := by rw [rlT_1 hk9, hrp]; exact hlg
          have h9 := l0_M_judge hA hs hj hbL hL8 hka hD ho n (rlE L p + 1) ((S2.s_pattern (wrt S2.pattern 0 (uf L (rlV L p) (rlW L p)))).s_patternLength (uf L (rlV L p) (rlW L p)).length) (rlT 11 L q p) (by omega) (by omega) (hX.v hj9) (hT.v hj9) (rlT_ok hk) hq9 hl9
          rw [e5, e6, e7, e8] at h9
          refine am_G.mono h9 (fun r h1 hz => ?_)
          obtain ⟨y1, S1, y2, y3, y4⟩ := hz
          exact ⟨y1, S1, y2, jvA.tr hj9 y3, y4⟩
        · refine g_aload_n (pc := 166) dc_M_judge_166 rfl ?_
          refine g_getfield (pc := 167) dc_M_judge_167 fl_M_188 (mp_o hA) rfl ?_
          refine q_if_le (pc := 170) (tgt := 63) ((uf L (rlV L p) (rlW L p)).length) dc_M_judge_170 (by omega) rfl (fun hc170 => ?_) (fun hc170 => ?_)
          · have hrp : rpt q.2.2.1 L p q.2.2.2.1 = q.2.2.2.1 := if_neg (fun h9 => by have h8 := us_1 (L := L) h9.2; omega)
            have e5 : b1 (rlT 11 L q p).2.1 = 0 := by rw [rlT_1 hk9]; rfl
            have e6 : b1 (rlT 11 L q p).2.2.1 = (b1 q.2.2.1) := by rw [rlT_1 hk9]
            have e7 : nI (max (lgz (lgm D (rlT 11 L q p).2.2.2.1)) (lgz (lgm D (rlT 11 L q p).2.2.2.2))) = (nI (max (lgz (lgm D q.2.2.2.1)) (lgz (lgm D q.2.2.2.2)))) := by rw [rlT_1 hk9, hrp]
            have e8 : b1 (decide (lgz (lgm D (rlT 11 L q p).2.2.2.2) ≤ lgz (lgm D (rlT 11 L q p).2.2.2.1))) = (b1 (decide (lgz (lgm D q.2.2.2.2) ≤ lgz (lgm D q.2.2.2.1)))) := by rw [rlT_1 hk9, hrp]
            have hj9 : jvA S ((S2.s_pattern (wrt S2.pattern 0 (uf L (rlV L p) (rlW L p)))).s_patternLength (uf L (rlV L p) (rlW L p)).length) := ((hz3.v.tr (jvA.s_pattern _ _)).tr (jvA.s_patternLength _ _))
            have hq9 : hoQ ((S2.s_pattern (wrt S2.pattern 0 (uf L (rlV L p) (rlW L p)))).s_patternLength (uf L (rlV L p) (rlW L p)).length) (rlT 11 L q p) := by rw [rlT_1 hk9, hrp]; exact hq2
            have hl9 : max (lgz (lgm D (rlT 11 L q p).2.2.2.1)) (lgz (lgm D (rlT 11 L q p).2.2.2.2)) ≤ 8000 := by rw [rlT_1 hk9, hrp]; exact hlg
            have h9 := l0_M_judge hA hs hj hbL hL8 hka hD ho n (rlE L p + 1) ((S2.s_pattern (wrt S2.pattern 0 (uf L (rlV L p) (rlW L p)))).s_patternLength (uf L (rlV L p) (rlW L p)).length) (rlT 11 L q p) (by omega) (by omega) (hX.v hj9) (hT.v hj9) (rlT_ok hk) hq9 hl9
            rw [e5, e6, e7, e8] at h9
            refine am_G.mono h9 (fun r h1 hz => ?_)
            obtain ⟨y1, S1, y2, y3, y4⟩ := hz
            exact ⟨y1, S1, y2, jvA.tr hj9 y3, y4⟩
          · refine g_aload_n (pc := 173) dc_M_judge_173 rfl ?_
            refine g_dup (pc := 174) dc_M_judge_174 rfl ?_
            refine g_getfield (pc := 175) dc_M_judge_175 fl_M_194 (mp_o hA) rfl ?_
            refine g_iconst (pc := 178) (v := 1) dc_M_judge_178 rfl ?_
            refine g_iadd (pc := 179) (v := (nI (S2.holding + 1))) dc_M_judge_179 (nI_add S2.holding 1) ?_
            refine pf_holding (pc := 180) (v := S2.holding + 1) hA dc_M_judge_180 fp_M_judge_194 ?_
            refine g_aload_n (pc := 183) dc_M_judge_183 rfl ?_
            refine g_iload_n (pc := 184) dc_M_judge_184 rfl ?_
            have hj3 : jvA S2 (((S2.s_pattern (wrt S2.pattern 0 (uf L (rlV L p) (rlW L p)))).s_patternLength (uf L (rlV L p) (rlW L p)).length).s_holding (S2.holding + 1)) := ((jvA.s_pattern _ _).tr (jvA.s_patternLength _ _)).tr (jvA.s_holding _ _)
            refine g_v1 (pc := 185) (M' := mt_M_matches) dc_M_judge_185 mo_M_matches im_M_matches se_M_matches ln_M_210 (mp_o hA) rfl rfl (Nat.le_of_ble_eq_true rfl) (Nat.le_of_ble_eq_true rfl) (am_G.mono (c_M_matches (d := d + 4) (S := (((S2.s_pattern (wrt S2.pattern 0 (uf L (rlV L p) (rlW L p)))).s_patternLength (uf L (rlV L p) (rlW L p)).length).s_holding (S2.holding + 1))) (P := (uf L (rlV L p) (rlW L p))) hA (hT2.v hj3) hka (by rw [hD]; exact ho) (wrt_tx _ _ _) rfl (by omega)) ?_)
            intro r h1 hz
            obtain ⟨hz5, S4, hz6, hz7, hk4⟩ := hz
            rw [hz5, hz6, hD]
            clear hz5 hz6 h1 r
            have hm4 : S4.key = S2.key ∧ S4.patternLength = (uf L (rlV L p) (rlW L p)).length ∧ True ∧ S4.holding = S2.holding + 1 := ⟨hk4.1, hk4.2.1, trivial, hk4.2.2⟩
            have hko4 : S4.key = some 1 := hm4.1.trans hko
            have hj4 : jvA S S4 := (hz3.v.tr hj3).tr hz7.v
            refine ⟨am_nti _, ?_⟩
            refine q_ifb_eq (pc := 188) (tgt := 63) dc_M_judge_188 rfl (fun hc188 => ?_) (fun hc188 => ?_)
            · have hrp : rpt q.2.2.1 L p q.2.2.2.1 = q.2.2.2.1 ++ [(uf L (rlV L p) (rlW L p))] := if_pos ⟨hc163, by omega⟩
              have ez : lgz (lgm D (q.2.2.2.1 ++ [(uf L (rlV L p) (rlW L p))])) = lgz (lgm D q.2.2.2.1) := by rw [lgm_app, lgs_z (by omega), if_neg (fun h9 => by rw [hc188] at h9; exact absurd h9.1 (by decide))]
              have e5 : b1 (rlT 11 L q p).2.1 = 0 := by rw [rlT_1 hk9]; rfl
              have e6 : b1 (rlT 11 L q p).2.2.1 = (b1 q.2.2.1) := by rw [rlT_1 hk9]
              have em : max (lgz (lgm D (q.2.2.2.1 ++ [(uf L (rlV L p) (rlW L p))]))) (lgz (lgm D q.2.2.2.2)) = max (lgz (lgm D q.2.2.2.1)) (lgz (lgm D q.2.2.2.2)) := by rw [ez]
              have e7 : nI (max (lgz (lgm D (rlT 11 L q p).2.2.2.1)) (lgz (lgm D (rlT 11 L q p).2.2.2.2))) = (nI (max (lgz (lgm D q.2.2.2.1)) (lgz (lgm D q.2.2.2.2)))) := by rw [rlT_1 hk9]; show nI (max (lgz (lgm D (rpt q.2.2.1 L p q.2.2.2.1))) (lgz (lgm D q.2.2.2.2))) = _; rw [hrp, em]
              have ed : decide (lgz (lgm D q.2.2.2.2) ≤ lgz (lgm D (q.2.2.2.1 ++ [(uf L (rlV L p) (rlW L p))]))) = decide (lgz (lgm D q.2.2.2.2) ≤ lgz (lgm D q.2.2.2.1)) := decide_eq_decide.mpr (by rw [ez])
              have e8 : b1 (decide (lgz (lgm D (rlT 11 L q p).2.2.2.2) ≤ lgz (lgm D (rlT 11 L q p).2.2.2.1))) = (b1 (decide (lgz (lgm D q.2.2.2.2) ≤ lgz (lgm D q.2.2.2.1)))) := by rw [rlT_1 hk9]; show b1 (decide (lgz (lgm D q.2.2.2.2) ≤ lgz (lgm D (rpt q.2.2.1 L p q.2.2.2.1)))) = _; rw [hrp, ed]
              have hj9 : jvA S S4 := hj4
              have hq9 : hoQ S4 (rlT 11 L q p) := by rw [rlT_1 hk9]; show S4.holding = (rpt q.2.2.1 L p q.2.2.2.1).length + q.2.2.2.2.length; rw [hm4.2.2.2, hrp, List.length_append]; show S2.holding + 1 = _; rw [hq2]; show _ + 1 = _; simp; omega
              have hl9 : max (lgz (lgm D (rlT 11 L q p).2.2.2.1)) (lgz (lgm D (rlT 11 L q p).2.2.2.2)) ≤ 8000 := by rw [rlT_1 hk9]; show max (lgz (lgm D (rpt q.2.2.1 L p q.2.2.2.1))) (lgz (lgm D q.2.2.2.2)) ≤ 8000; rw [hrp, em]; omega
              have h9 := l0_M_judge hA hs hj hbL hL8 hka hD ho n (rlE L p + 1) S4 (rlT 11 L q p) (by omega) (by omega) (hX.v hj9) (hT.v hj9) (rlT_ok hk) hq9 hl9
              rw [e5, e6, e7, e8] at h9
              refine am_G.mono h9 (fun r h1 hz => ?_)
              obtain ⟨y1, S1, y2, y3, y4⟩ := hz
              exact ⟨y1, S1, y2, jvA.tr hj9 y3, y4⟩
            · refine g_aload_n (pc := 191) dc_M_judge_191 rfl ?_
              refine g_getfield (pc := 192) (v := .int (nI ((uf L (rlV L p) (rlW L p)).length))) dc_M_judge_192 fl_M_188 (mp_o hA) (congrArg (fun z => some (Value.int (nI z))) hm4.2.1) ?_
              refine g_iload (pc := 195) dc_M_judge_195 rfl ?_
              refine q_icmp_lt (pc := 197) (tgt := 63) ((uf L (rlV L p) (rlW L p)).length) (max (lgz (lgm D q.2.2.2.1)) (lgz (lgm D q.2.2.2.2))) dc_M_judge_197 (by omega) (by omega) rfl (fun hc197 => ?_) (fun hc197 => ?_)
              · have hrp : rpt q.2.2.1 L p q.2.2.2.1 = q.2.2.2.1 ++ [(uf L (rlV L p) (rlW L p))] := if_pos ⟨hc163, by omega⟩
                have ez : lgz (lgm D (q.2.2.2.1 ++ [(uf L (rlV L p) (rlW L p))])) = if lgz (lgm D q.2.2.2.1) < (uf L (rlV L p) (rlW L p)).length then (uf L (rlV L p) (rlW L p)).length else lgz (lgm D q.2.2.2.1) := by rw [lgm_app, lgs_z (by omega)]; simp [hc188]
                have e5 : b1 (rlT 11 L q p).2.1 = 0 := by rw [rlT_1 hk9]; rfl
                have e6 : b1 (rlT 11 L q p).2.2.1 = (b1 q.2.2.1) := by rw [rlT_1 hk9]
                have em : max (lgz (lgm D (q.2.2.2.1 ++ [(uf L (rlV L p) (rlW L p))]))) (lgz (lgm D q.2.2.2.2)) = max (lgz (lgm D q.2.2.2.1)) (lgz (lgm D q.2.2.2.2)) := by rw [ez]; (try split) <;> omega
                have e7 : nI (max (lgz (lgm D (rlT 11 L q p).2.2.2.1)) (lgz (lgm D (rlT 11 L q p).2.2.2.2))) = (nI (max (lgz (lgm D q.2.2.2.1)) (lgz (lgm D q.2.2.2.2)))) := by rw [rlT_1 hk9]; show nI (max (lgz (lgm D (rpt q.2.2.1 L p q.2.2.2.1))) (lgz (lgm D q.2.2.2.2))) = _; rw [hrp, em]
                have ed : decide (lgz (lgm D q.2.2.2.2) ≤ lgz (lgm D (q.2.2.2.1 ++ [(uf L (rlV L p) (rlW L p))]))) = decide (lgz (lgm D q.2.2.2.2) ≤ lgz (lgm D q.2.2.2.1)) := decide_eq_decide.mpr (by rw [ez]; (try split) <;> omega)
                have e8 : b1 (decide (lgz (lgm D (rlT 11 L q p).2.2.2.2) ≤ lgz (lgm D (rlT 11 L q p).2.2.2.1))) = (b1 (decide (lgz (lgm D q.2.2.2.2) ≤ lgz (lgm D q.2.2.2.1)))) := by rw [rlT_1 hk9]; show b1 (decide (lgz (lgm D q.2.2.2.2) ≤ lgz (lgm D (rpt q.2.2.1 L p q.2.2.2.1)))) = _; rw [hrp, ed]
                have hj9 : jvA S S4 := hj4
                have hq9 : hoQ S4 (rlT 11 L q p) := by rw [rlT_1 hk9]; show S4.holding = (rpt q.2.2.1 L p q.2.2.2.1).length + q.2.2.2.2.length; rw [hm4.2.2.2, hrp, List.length_append]; show S2.holding + 1 = _; rw [hq2]; show _ + 1 = _; simp; omega
                have hl9 : max (lgz (lgm D (rlT 11 L q p).2.2.2.1)) (lgz (lgm D (rlT 11 L q p).2.2.2.2)) ≤ 8000 := by rw [rlT_1 hk9]; show max (lgz (lgm D (rpt q.2.2.1 L p q.2.2.2.1))) (lgz (lgm D q.2.2.2.2)) ≤ 8000; rw [hrp, em]; omega
                have h9 := l0_M_judge hA hs hj hbL hL8 hka hD ho n (rlE L p + 1) S4 (rlT 11 L q p) (by omega) (by omega) (hX.v hj9) (hT.v hj9) (rlT_ok hk) hq9 hl9
                rw [e5, e6, e7, e8] at h9
                refine am_G.mono h9 (fun r h1 hz => ?_)
                obtain ⟨y1, S1, y2, y3, y4⟩ := hz
                exact ⟨y1, S1, y2, jvA.tr hj9 y3, y4⟩
              · refine g_aload_n (pc := 200) dc_M_judge_200 rfl ?_
                refine g_getfield (pc := 201) (v := .int (nI ((uf L (rlV L p) (rlW L p)).length))) dc_M_judge_201 fl_M_188 (mp_o hA) (congrArg (fun z => some (Value.int (nI z))) hm4.2.1) ?_
                refine g_iload (pc := 204) dc_M_judge_204 rfl ?_
                refine q_icmp_le (pc := 206) (tgt := 225) ((uf L (rlV L p) (rlW L p)).length) (max (lgz (lgm D q.2.2.2.1)) (lgz (lgm D q.2.2.2.2))) dc_M_judge_206 (by omega) (by omega) rfl (fun hc206 => ?_) (fun hc206 => ?_)
                · refine g_iload (pc := 225) dc_M_judge_225 rfl ?_
                  refine q_ifb_ne (pc := 227) (tgt := 238) dc_M_judge_227 rfl (fun hc227 => ?_) (fun hc227 => ?_)
                  · refine g_iconst (pc := 238) (v := 1) dc_M_judge_238 rfl ?_
                    refine g_goto (pc := 239) (tgt := 243) dc_M_judge_239 rfl ?_
                    refine g_istore (pc := 243) dc_M_judge_243 (by decide) ?_
                    show am_G X mt_M_judge _ 245 [some (.ref 84), some (.int (nI ka)), none, some (.int (nI j)), some (.int 0), some (.int 0), some (.int (b1 q.2.2.1)), some (.int (nI (max (lgz (lgm D q.2.2.2.1)) (lgz (lgm D q.2.2.2.2))))), some (.int 1), some (.int (nI (s + (rlE L p + 1))))] [] _ _
                    refine g_aload_n (pc := 245) dc_M_judge_245 rfl ?_
                    refine g_getfield (pc := 246) (v := .int (nI ((uf L (rlV L p) (rlW L p)).length))) dc_M_judge_246 fl_M_188 (mp_o hA) (congrArg (fun z => some (Value.int (nI z))) hm4.2.1) ?_
                    refine g_istore (pc := 249) dc_M_judge_249 (by decide) ?_
                    show am_G X mt_M_judge _ 251 [some (.ref 84), some (.int (nI ka)), none, some (.int (nI j)), some (.int 0), some (.int 0), some (.int (b1 q.2.2.1)), some (.int (nI ((uf L (rlV L p) (rlW L p)).length))), some (.int 1), some (.int (nI (s + (rlE L p + 1))))] [] _ _
                    refine g_goto (pc := 251) (tgt := 63) dc_M_judge_251 rfl ?_
                    have hrp : rpt q.2.2.1 L p q.2.2.2.1 = q.2.2.2.1 ++ [(uf L (rlV L p) (rlW L p))] := if_pos ⟨hc163, by omega⟩
                    have ez : lgz (lgm D (q.2.2.2.1 ++ [(uf L (rlV L p) (rlW L p))])) = if lgz (lgm D q.2.2.2.1) < (uf L (rlV L p) (rlW L p)).length then (uf L (rlV L p) (rlW L p)).length else lgz (lgm D q.2.2.2.1) := by rw [lgm_app, lgs_z (by omega)]; simp [hc188]
                    have e5 : b1 (rlT 11 L q p).2.1 = 0 := by rw [rlT_1 hk9]; rfl
                    have e6 : b1 (rlT 11 L q p).2.2.1 = (b1 q.2.2.1) := by rw [rlT_1 hk9]
                    have em : max (lgz (lgm D (q.2.2.2.1 ++ [(uf L (rlV L p) (rlW L p))]))) (lgz (lgm D q.2.2.2.2)) = (uf L (rlV L p) (rlW L p)).length := by rw [ez]; (try split) <;> omega
                    have e7 : nI (max (lgz (lgm D (rlT 11 L q p).2.2.2.1)) (lgz (lgm D (rlT 11 L q p).2.2.2.2))) = (nI ((uf L (rlV L p) (rlW L p)).length)) := by rw [rlT_1 hk9]; show nI (max (lgz (lgm D (rpt q.2.2.1 L p q.2.2.2.1))) (lgz (lgm D q.2.2.2.2))) = _; rw [hrp, em]
                    have ed : decide (lgz (lgm D q.2.2.2.2) ≤ lgz (lgm D (q.2.2.2.1 ++ [(uf L (rlV L p) (rlW L p))]))) = true := decide_eq_true (by rw [ez]; (try split) <;> omega)
                    have e8 : b1 (decide (lgz (lgm D (rlT 11 L q p).2.2.2.2) ≤ lgz (lgm D (rlT 11 L q p).2.2.2.1))) = 1 := by rw [rlT_1 hk9]; show b1 (decide (lgz (lgm D q.2.2.2.2) ≤ lgz (lgm D (rpt q.2.2.1 L p q.2.2.2.1)))) = _; rw [hrp, ed]; rfl
                    have hj9 : jvA S S4 := hj4
                    have hq9 : hoQ S4 (rlT 11 L q p) := by rw [rlT_1 hk9]; show S4.holding = (rpt q.2.2.1 L p q.2.2.2.1).length + q.2.2.2.2.length; rw [hm4.2.2.2, hrp, List.length_append]; show S2.holding + 1 = _; rw [hq2]; show _ + 1 = _; simp; omega
                    have hl9 : max (lgz (lgm D (rlT 11 L q p).2.2.2.1)) (lgz (lgm D (rlT 11 L q p).2.2.2.2)) ≤ 8000 := by rw [rlT_1 hk9]; show max (lgz (lgm D (rpt q.2.2.1 L p q.2.2.2.1))) (lgz (lgm D q.2.2.2.2)) ≤ 8000; rw [hrp, em]; omega
                    have h9 := l0_M_judge hA hs hj hbL hL8 hka hD ho n (rlE L p + 1) S4 (rlT 11 L q p) (by omega) (by omega) (hX.v hj9) (hT.v hj9) (rlT_ok hk) hq9 hl9
                    rw [e5, e6, e7, e8] at h9
                    refine am_G.mono h9 (fun r h1 hz => ?_)
                    obtain ⟨y1, S1, y2, y3, y4⟩ := hz
                    exact ⟨y1, S1, y2, jvA.tr hj9 y3, y4⟩
                  · refine g_aload_n (pc := 230) dc_M_judge_230 rfl ?_
                    refine g_getfield (pc := 231) (v := .int 1) dc_M_judge_231 fl_M_159 (mp_o hA) (congrArg (fun z => some (Value.int (er z))) hko4) ?_
                    refine g_iconst (pc := 234) (v := 1) dc_M_judge_234 rfl ?_
                    refine g_icmp_ne (pc := 235) (tgt := 242) dc_M_judge_235 rfl (fun hc => absurd hc (by decide)) (fun _ => ?_)
                    refine g_iconst (pc := 238) (v := 1) dc_M_judge_238 rfl ?_
                    refine g_goto (pc := 239) (tgt := 243) dc_M_judge_239 rfl ?_
                    refine g_istore (pc := 243) dc_M_judge_243 (by decide) ?_
                    show am_G X mt_M_judge _ 245 [some (.ref 84), some (.int (nI ka)), none, some (.int (nI j)), some (.int 0), some (.int 0), some (.int (b1 q.2.2.1)), some (.int (nI (max (lgz (lgm D q.2.2.2.1)) (lgz (lgm D q.2.2.2.2))))), some (.int 1), some (.int (nI (s + (rlE L p + 1))))] [] _ _
                    refine g_aload_n (pc := 245) dc_M_judge_245 rfl ?_
                    refine g_getfield (pc := 246) (v := .int (nI ((uf L (rlV L p) (rlW L p)).length))) dc_M_judge_246 fl_M_188 (mp_o hA) (congrArg (fun z => some (Value.int (nI z))) hm4.2.1) ?_
                    refine g_istore (pc := 249) dc_M_judge_249 (by decide) ?_
                    show am_G X mt_M_judge _ 251 [some (.ref 84), some (.int (nI ka)), none, some (.int (nI j)), some (.int 0), some (.int 0), some (.int (b1 q.2.2.1)), some (.int (nI ((uf L (rlV L p) (rlW L p)).length))), some (.int 1), some (.int (nI (s + (rlE L p + 1))))] [] _ _
                    refine g_goto (pc := 251) (tgt := 63) dc_M_judge_251 rfl ?_
                    have hrp : rpt q.2.2.1 L p q.2.2.2.1 = q.2.2.2.1 ++ [(uf L (rlV L p) (rlW L p))] := if_pos ⟨hc163, by omega⟩
                    have ez : lgz (lgm D (q.2.2.2.1 ++ [(uf L (rlV L p) (rlW L p))])) = if lgz (lgm D q.2.2.2.1) < (uf L (rlV L p) (rlW L p)).length then (uf L (rlV L p) (rlW L p)).length else lgz (lgm D q.2.2.2.1) := by rw [lgm_app, lgs_z (by omega)]; simp [hc188]
                    have e5 : b1 (rlT 11 L q p).2.1 = 0 := by rw [rlT_1 hk9]; rfl
                    have e6 : b1 (rlT 11 L q p).2.2.1 = (b1 q.2.2.1) := by rw [rlT_1 hk9]
                    have em : max (lgz (lgm D (q.2.2.2.1 ++ [(uf L (rlV L p) (rlW L p))]))) (lgz (lgm D q.2.2.2.2)) = (uf L (rlV L p) (rlW L p)).length := by rw [ez]; (try split) <;> omega
                    have e7 : nI (max (lgz (lgm D (rlT 11 L q p).2.2.2.1)) (lgz (lgm D (rlT 11 L q p).2.2.2.2))) = (nI ((uf L (rlV L p) (rlW L p)).length)) := by rw [rlT_1 hk9]; show nI (max (lgz (lgm D (rpt q.2.2.1 L p q.2.2.2.1))) (lgz (lgm D q.2.2.2.2))) = _; rw [hrp, em]
                    have ed : decide (lgz (lgm D q.2.2.2.2) ≤ lgz (lgm D (q.2.2.2.1 ++ [(uf L (rlV L p) (rlW L p))]))) = true := decide_eq_true (by rw [ez]; (try split) <;> omega)
                    have e8 : b1 (decide (lgz (lgm D (rlT 11 L q p).2.2.2.2) ≤ lgz (lgm D (rlT 11 L q p).2.2.2.1))) = 1 := by rw [rlT_1 hk9]; show b1 (decide (lgz (lgm D q.2.2.2.2) ≤ lgz (lgm D (rpt q.2.2.1 L p q.2.2.2.1)))) = _; rw [hrp, ed]; rfl
                    have hj9 : jvA S S4 := hj4
                    have hq9 : hoQ S4 (rlT 11 L q p) := by rw [rlT_1 hk9]; show S4.holding = (rpt q.2.2.1 L p q.2.2.2.1).length + q.2.2.2.2.length; rw [hm4.2.2.2, hrp, List.length_append]; show S2.holding + 1 = _; rw [hq2]; show _ + 1 = _; simp; omega
                    have hl9 : max (lgz (lgm D (rlT 11 L q p).2.2.2.1)) (lgz (lgm D (rlT 11 L q p).2.2.2.2)) ≤ 8000 := by rw [rlT_1 hk9]; show max (lgz (lgm D (rpt q.2.2.1 L p q.2.2.2.1))) (lgz (lgm D q.2.2.2.2)) ≤ 8000; rw [hrp, em]; omega
                    have h9 := l0_M_judge hA hs hj hbL hL8 hka hD ho n (rlE L p + 1) S4 (rlT 11 L q p) (by omega) (by omega) (hX.v hj9) (hT.v hj9) (rlT_ok hk) hq9 hl9
                    rw [e5, e6, e7, e8] at h9
                    refine am_G.mono h9 (fun r h1 hz => ?_)
                    obtain ⟨y1, S1, y2, y3, y4⟩ := hz
                    exact ⟨y1, S1, y2, jvA.tr hj9 y3, y4⟩
                · refine g_aload_n (pc := 209) dc_M_judge_209 rfl ?_
                  refine g_getfield (pc := 210) (v := .int 1) dc_M_judge_210 fl_M_159 (mp_o hA) (congrArg (fun z => some (Value.int (er z))) hko4) ?_
                  refine g_iconst (pc := 213) (v := 1) dc_M_judge_213 rfl ?_
                  refine g_icmp_ne (pc := 214) (tgt := 221) dc_M_judge_214 rfl (fun hc => absurd hc (by decide)) (fun _ => ?_)
                  refine g_iconst (pc := 217) (v := 1) dc_M_judge_217 rfl ?_
                  refine g_goto (pc := 218) (tgt := 243) dc_M_judge_218 rfl ?_
                  refine g_istore (pc := 243) dc_M_judge_243 (by decide) ?_
                  show am_G X mt_M_judge _ 245 [some (.ref 84), some (.int (nI ka)), none, some (.int (nI j)), some (.int 0), some (.int 0), some (.int (b1 q.2.2.1)), some (.int (nI (max (lgz (lgm D q.2.2.2.1)) (lgz (lgm D q.2.2.2.2))))), some (.int 1), some (.int (nI (s + (rlE L p + 1))))] [] _ _
                  refine g_aload_n (pc := 245) dc_M_judge_245 rfl ?_
                  refine g_getfield (pc := 246) (v := .int (nI ((uf L (rlV L p) (rlW L p)).length))) dc_M_judge_246 fl_M_188 (mp_o hA) (congrArg (fun z => some (Value.int (nI z))) hm4.2.1) ?_
                  refine g_istore (pc := 249) dc_M_judge_249 (by decide) ?_
                  show am_G X mt_M_judge _ 251 [some (.ref 84), some (.int (nI ka)), none, some (.int (nI j)), some (.int 0), some (.int 0), some (.int (b1 q.2.2.1)), some (.int (nI ((uf L (rlV L p) (rlW L p)).length))), some (.int 1), some (.int (nI (s + (rlE L p + 1))))] [] _ _
                  refine g_goto (pc := 251) (tgt := 63) dc_M_judge_251 rfl ?_
                  have hrp : rpt q.2.2.1 L p q.2.2.2.1 = q.2.2.2.1 ++ [(uf L (rlV L p) (rlW L p))] := if_pos ⟨hc163, by omega⟩
                  have ez : lgz (lgm D (q.2.2.2.1 ++ [(uf L (rlV L p) (rlW L p))])) = if lgz (lgm D q.2.2.2.1) < (uf L (rlV L p) (rlW L p)).length then (uf L (rlV L p) (rlW L p)).length else lgz (lgm D q.2.2.2.1) := by rw [lgm_app, lgs_z (by omega)]; simp [hc188]
                  have e5 : b1 (rlT 11 L q p).2.1 = 0 := by rw [rlT_1 hk9]; rfl
                  have e6 : b1 (rlT 11 L q p).2.2.1 = (b1 q.2.2.1) := by rw [rlT_1 hk9]
                  have em : max (lgz (lgm D (q.2.2.2.1 ++ [(uf L (rlV L p) (rlW L p))]))) (lgz (lgm D q.2.2.2.2)) = (uf L (rlV L p) (rlW L p)).length := by rw [ez]; (try split) <;> omega
                  have e7 : nI (max (lgz (lgm D (rlT 11 L q p).2.2.2.1)) (lgz (lgm D (rlT 11 L q p).2.2.2.2))) = (nI ((uf L (rlV L p) (rlW L p)).length)) := by rw [rlT_1 hk9]; show nI (max (lgz (lgm D (rpt q.2.2.1 L p q.2.2.2.1))) (lgz (lgm D q.2.2.2.2))) = _; rw [hrp, em]
                  have ed : decide (lgz (lgm D q.2.2.2.2) ≤ lgz (lgm D (q.2.2.2.1 ++ [(uf L (rlV L p) (rlW L p))]))) = true := decide_eq_true (by rw [ez]; (try split) <;> omega)
                  have e8 : b1 (decide (lgz (lgm D (rlT 11 L q p).2.2.2.2) ≤ lgz (lgm D (rlT 11 L q p).2.2.2.1))) = 1 := by rw [rlT_1 hk9]; show b1 (decide (lgz (lgm D q.2.2.2.2) ≤ lgz (lgm D (rpt q.2.2.1 L p q.2.2.2.1)))) = _; rw [hrp, ed]; rfl
                  have hj9 : jvA S S4 := hj4
                  have hq9 : hoQ S4 (rlT 11 L q p) := by rw [rlT_1 hk9]; show S4.holding = (rpt q.2.2.1 L p q.2.2.2.1).length + q.2.2.2.2.length; rw [hm4.2.2.2, hrp, List.length_append]; show S2.holding + 1 = _; rw [hq2]; show _ + 1 = _; simp; omega
                  have hl9 : max (lgz (lgm D (rlT 11 L q p).2.2.2.1)) (lgz (lgm D (rlT 11 L q p).2.2.2.2)) ≤ 8000 := by rw [rlT_1 hk9]; show max (lgz (lgm D (rpt q.2.2.1 L p q.2.2.2.1))) (lgz (lgm D q.2.2.2.2)) ≤ 8000; rw [hrp, em]; omega
                  have h9 := l0_M_judge hA hs hj hbL hL8 hka hD ho n (rlE L p + 1) S4 (rlT 11 L q p) (by omega) (by omega) (hX.v hj9) (hT.v hj9) (rlT_ok hk) hq9 hl9
                  rw [e5, e6, e7, e8] at h9
                  refine am_G.mono h9 (fun r h1 hz => ?_)
                  obtain ⟨y1, S1, y2, y3, y4⟩ := hz
                  exact ⟨y1, S1, y2, jvA.tr hj9 y3, y4⟩
      · have hko : S2.key = some 2 := by rw [hz4.1]; unfold rlO; rw [hk9]; rfl
        have hcs := rlK_c (L := L) (p := p) (by rw [hk9]; decide)
        have hvw := rl_vw (L := L) (p := p) (by omega)
        have hul := uf_len (L := L) (t := rlW L p) (rlW L p - rlV L p) (rlV L p) (Nat.le_refl _)
        refine g_aload_n (pc := 88) dc_M_judge_88 rfl ?_
        refine g_getfield (pc := 89) (v := .int 2) dc_M_judge_89 fl_M_159 (mp_o hA) (congrArg (fun z => some (Value.int (er z))) hko) ?_
        refine g_if_ne (pc := 92) (tgt := 127) dc_M_judge_92 rfl (fun _ => ?_) (fun hc => absurd hc (by decide))
        refine g_aload_n (pc := 127) dc_M_judge_127 rfl ?_
        refine g_getfield (pc := 128) (v := .int 2) dc_M_judge_128 fl_M_159 (mp_o hA) (congrArg (fun z => some (Value.int (er z))) hko) ?_
        refine g_if_le (pc := 131) (tgt := 63) dc_M_judge_131 rfl (fun hc => absurd hc (by decide)) (fun _ => ?_)
        refine g_iconst (pc := 134) (v := 0) dc_M_judge_134 rfl ?_
        refine g_istore (pc := 135) dc_M_judge_135 (by decide) ?_
        show am_G X mt_M_judge _ 137 [some (.ref 84), some (.int (nI ka)), none, some (.int (nI j)), some (.int 0), some (.int 0), some (.int (b1 q.2.2.1)), some (.int (nI (max (lgz (lgm D q.2.2.2.1)) (lgz (lgm D q.2.2.2.2))))), some (.int (b1 (decide (lgz (lgm D q.2.2.2.2) ≤ lgz (lgm D q.2.2.2.1))))), some (.int (nI (s + (rlE L p + 1))))] [] _ _
        refine g_aload_n (pc := 137) dc_M_judge_137 rfl ?_
        refine g_aload_n (pc := 138) dc_M_judge_138 rfl ?_
        refine g_getfield (pc := 139) dc_M_judge_139 fl_M_140 (mp_o hA) rfl ?_
        refine g_aload_n (pc := 142) dc_M_judge_142 rfl ?_
        refine g_getfield (pc := 143) (v := .int (nI (s + rlV L p))) dc_M_judge_143 fl_M_168 (mp_o hA) (congrArg (fun z => some (Value.int (nI z))) (hz4.2 hcs).1) ?_
        refine g_aload_n (pc := 146) dc_M_judge_146 rfl ?_
        refine g_getfield (pc := 147) (v := .int (nI (s + rlW L p))) dc_M_judge_147 fl_M_171 (mp_o hA) (congrArg (fun z => some (Value.int (nI z))) (hz4.2 hcs).2) ?_
        refine g_aload_n (pc := 150) dc_M_judge_150 rfl ?_
        refine g_getfield (pc := 151) dc_M_judge_151 fl_M_191 (mp_o hA) rfl ?_
        refine g_iconst (pc := 154) (v := 0) dc_M_judge_154 rfl ?_
        refine g_s5 (pc := 155) (M' := mt_M_unfold) dc_M_judge_155 mo_M_unfold st_M_unfold ln_M_94 (Nat.le_of_ble_eq_true rfl) (Nat.le_of_ble_eq_true rfl) (am_G.mono (c_M_unfold_pattern (d := d + 4) (S := S2) (L := L) (f := rlV L p) (t := rlW L p) (n := 0) (a := 96) (s := s) hA hbL (by omega) (by omega) (by omega) (tt_txt hA hX2.1 hs) (by omega)) ?_)
        intro r h1 hq
        rw [hq.1, hq.2]
        clear hq h1 r
        refine ⟨am_nti _, ?_⟩
        rw [Nat.zero_add]
        refine pf_patternLength (pc := 158) (v := (uf L (rlV L p) (rlW L p)).length) hA dc_M_judge_158 fp_M_judge_188 ?_
        refine g_iload (pc := 161) dc_M_judge_161 rfl ?_
        refine q_ifb_eq (pc := 163) (tgt := 63) dc_M_judge_163 rfl (fun hc163 => ?_) (fun hc163 => ?_)
        · have hrp : rpt q.2.2.1 L p q.2.2.2.2 = q.2.2.2.2 := if_neg (fun h9 => by rw [hc163] at h9; exact absurd h9.1 (by decide))
          have e5 : b1 (rlT 11 L q p).2.1 = 0 := by rw [rlT_2 hk9]; rfl
          have e6 : b1 (rlT 11 L q p).2.2.1 = (b1 q.2.2.1) := by rw [rlT_2 hk9]
          have e7 : nI (max (lgz (lgm D (rlT 11 L q p).2.2.2.1)) (lgz (lgm D (rlT 11 L q p).2.2.2.2))) = (nI (max (lgz (lgm D q.2.2.2.1)) (lgz (lgm D q.2.2.2.2)))) := by rw [rlT_2 hk9, hrp]
          have e8 : b1 (decide (lgz (lgm D (rlT 11 L q p).2.2.2.2) ≤ lgz (lgm D (rlT 11 L q p).2.2.2.1))) = (b1 (decide (lgz (lgm D q.2.2.2.2) ≤ lgz (lgm D q.2.2.2.1)))) := by rw [rlT_2 hk9, hrp]
          have hj9 : jvA S ((S2.s_pattern (wrt S2.pattern 0 (uf L (rlV L p) (rlW L p)))).s_patternLength (uf L (rlV L p) (rlW L p)).length) := ((hz3.v.tr (jvA.s_pattern _ _)).tr (jvA.s_patternLength _ _))
          have hq9 : hoQ ((S2.s_pattern (wrt S2.pattern 0 (uf L (rlV L p) (rlW L p)))).s_patternLength (uf L (rlV L p) (rlW L p)).length) (rlT 11 L q p) := by rw [rlT_2 hk9, hrp]; exact hq2
          have hl9 : max (lgz (lgm D (rlT 11 L q p).2.2.2.1)) (lgz (lgm D (rlT 11 L q p).2.2.2.2)) ≤ 8000 := by rw [rlT_2 hk9, hrp]; exact hlg
          have h9 := l0_M_judge hA hs hj hbL hL8 hka hD ho n (rlE L p + 1) ((S2.s_pattern (wrt S2.pattern 0 (uf L (rlV L p) (rlW L p)))).s_patternLength (uf L (rlV L p) (rlW L p)).length) (rlT 11 L q p) (by omega) (by omega) (hX.v hj9) (hT.v hj9) (rlT_ok hk) hq9 hl9
          rw [e5, e6, e7, e8] at h9
          refine am_G.mono h9 (fun r h1 hz => ?_)
          obtain ⟨y1, S1, y2, y3, y4⟩ := hz
          exact ⟨y1, S1, y2, jvA.tr hj9 y3, y4⟩
        · refine g_aload_n (pc := 166) dc_M_judge_166 rfl ?_
          refine g_getfield (pc := 167) dc_M_judge_167 fl_M_188 (mp_o hA) rfl ?_
          refine q_if_le (pc := 170) (tgt := 63) ((uf L (rlV L p) (rlW L p)).length) dc_M_judge_170 (by omega) rfl (fun hc170 => ?_) (fun hc170 => ?_)
          · have hrp : rpt q.2.2.1 L p q.2.2.2.2 = q.2.2.2.2 := if_neg (fun h9 => by have h8 := us_1 (L := L) h9.2; omega)
            have e5 : b1 (rlT 11 L q p).2.1 = 0 := by rw [rlT_2 hk9]; rfl
            have e6 : b1 (rlT 11 L q p).2.2.1 = (b1 q.2.2.1) := by rw [rlT_2 hk9]
            have e7 : nI (max (lgz (lgm D (rlT 11 L q p).2.2.2.1)) (lgz (lgm D (rlT 11 L q p).2.2.2.2))) = (nI (max (lgz (lgm D q.2.2.2.1)) (lgz (lgm D q.2.2.2.2)))) := by rw [rlT_2 hk9, hrp]
            have e8 : b1 (decide (lgz (lgm D (rlT 11 L q p).2.2.2.2) ≤ lgz (lgm D (rlT 11 L q p).2.2.2.1))) = (b1 (decide (lgz (lgm D q.2.2.2.2) ≤ lgz (lgm D q.2.2.2.1)))) := by rw [rlT_2 hk9, hrp]
            have hj9 : jvA S ((S2.s_pattern (wrt S2.pattern 0 (uf L (rlV L p) (rlW L p)))).s_patternLength (uf L (rlV L p) (rlW L p)).length) := ((hz3.v.tr (jvA.s_pattern _ _)).tr (jvA.s_patternLength _ _))
            have hq9 : hoQ ((S2.s_pattern (wrt S2.pattern 0 (uf L (rlV L p) (rlW L p)))).s_patternLength (uf L (rlV L p) (rlW L p)).length) (rlT 11 L q p) := by rw [rlT_2 hk9, hrp]; exact hq2
            have hl9 : max (lgz (lgm D (rlT 11 L q p).2.2.2.1)) (lgz (lgm D (rlT 11 L q p).2.2.2.2)) ≤ 8000 := by rw [rlT_2 hk9, hrp]; exact hlg
            have h9 := l0_M_judge hA hs hj hbL hL8 hka hD ho n (rlE L p + 1) ((S2.s_pattern (wrt S2.pattern 0 (uf L (rlV L p) (rlW L p)))).s_patternLength (uf L (rlV L p) (rlW L p)).length) (rlT 11 L q p) (by omega) (by omega) (hX.v hj9) (hT.v hj9) (rlT_ok hk) hq9 hl9
            rw [e5, e6, e7, e8] at h9
            refine am_G.mono h9 (fun r h1 hz => ?_)
            obtain ⟨y1, S1, y2, y3, y4⟩ := hz
            exact ⟨y1, S1, y2, jvA.tr hj9 y3, y4⟩
          · refine g_aload_n (pc := 173) dc_M_judge_173 rfl ?_
            refine g_dup (pc := 174) dc_M_judge_174 rfl ?_
            refine g_getfield (pc := 175) dc_M_judge_175 fl_M_194 (mp_o hA) rfl ?_
            refine g_iconst (pc := 178) (v := 1) dc_M_judge_178 rfl ?_
            refine g_iadd (pc := 179) (v := (nI (S2.holding + 1))) dc_M_judge_179 (nI_add S2.holding 1) ?_
            refine pf_holding (pc := 180) (v := S2.holding + 1) hA dc_M_judge_180 fp_M_judge_194 ?_
            refine g_aload_n (pc := 183) dc_M_judge_183 rfl ?_
            refine g_iload_n (pc := 184) dc_M_judge_184 rfl ?_
            have hj3 : jvA S2 (((S2.s_pattern (wrt S2.pattern 0 (uf L (rlV L p) (rlW L p)))).s_patternLength (uf L (rlV L p) (rlW L p)).length).s_holding (S2.holding + 1)) := ((jvA.s_pattern _ _).tr (jvA.s_patternLength _ _)).tr (jvA.s_holding _ _)
            refine g_v1 (pc := 185) (M' := mt_M_matches) dc_M_judge_185 mo_M_matches im_M_matches se_M_matches ln_M_210 (mp_o hA) rfl rfl (Nat.le_of_ble_eq_true rfl) (Nat.le_of_ble_eq_true rfl) (am_G.mono (c_M_matches (d := d + 4) (S := (((S2.s_pattern (wrt S2.pattern 0 (uf L (rlV L p) (rlW L p)))).s_patternLength (uf L (rlV L p) (rlW L p)).length).s_holding (S2.holding + 1))) (P := (uf L (rlV L p) (rlW L p))) hA (hT2.v hj3) hka (by rw [hD]; exact ho) (wrt_tx _ _ _) rfl (by omega)) ?_)
            intro r h1 hz
            obtain ⟨hz5, S4, hz6, hz7, hk4⟩ := hz
            rw [hz5, hz6, hD]
            clear hz5 hz6 h1 r
            have hm4 : S4.key = S2.key ∧ S4.patternLength = (uf L (rlV L p) (rlW L p)).length ∧ True ∧ S4.holding = S2.holding + 1 := ⟨hk4.1, hk4.2.1, trivial, hk4.2.2⟩
            have hko4 : S4.key = some 2 := hm4.1.trans hko
            have hj4 : jvA S S4 := (hz3.v.tr hj3).tr hz7.v
            refine ⟨am_nti _, ?_⟩
            refine q_ifb_eq (pc := 188) (tgt := 63) dc_M_judge_188 rfl (fun hc188 => ?_) (fun hc188 => ?_)
            · have hrp : rpt q.2.2.1 L p q.2.2.2.2 = q.2.2.2.2 ++ [(uf L (rlV L p) (rlW L p))] := if_pos ⟨hc163, by omega⟩
              have ez : lgz (lgm D (q.2.2.2.2 ++ [(uf L (rlV L p) (rlW L p))])) = lgz (lgm D q.2.2.2.2) := by rw [lgm_app, lgs_z (by omega), if_neg (fun h9 => by rw [hc188] at h9; exact absurd h9.1 (by decide))]
              have e5 : b1 (rlT 11 L q p).2.1 = 0 := by rw [rlT_2 hk9]; rfl
              have e6 : b1 (rlT 11 L q p).2.2.1 = (b1 q.2.2.1) := by rw [rlT_2 hk9]
              have em : max (lgz (lgm D q.2.2.2.1)) (lgz (lgm D (q.2.2.2.2 ++ [(uf L (rlV L p) (rlW L p))]))) = max (lgz (lgm D q.2.2.2.1)) (lgz (lgm D q.2.2.2.2)) := by rw [ez]
              have e7 : nI (max (lgz (lgm D (rlT 11 L q p).2.2.2.1)) (lgz (lgm D (rlT 11 L q p).2.2.2.2))) = (nI (max (lgz (lgm D q.2.2.2.1)) (lgz (lgm D q.2.2.2.2)))) := by rw [rlT_2 hk9]; show nI (max (lgz (lgm D q.2.2.2.1)) (lgz (lgm D (rpt q.2.2.1 L p q.2.2.2.2)))) = _; rw [hrp, em]
              have ed : decide (lgz (lgm D (q.2.2.2.2 ++ [(uf L (rlV L p) (rlW L p))])) ≤ lgz (lgm D q.2.2.2.1)) = decide (lgz (lgm D q.2.2.2.2) ≤ lgz (lgm D q.2.2.2.1)) := decide_eq_decide.mpr (by rw [ez])
              have e8 : b1 (decide (lgz (lgm D (rlT 11 L q p).2.2.2.2) ≤ lgz (lgm D (rlT 11 L q p).2.2.2.1))) = (b1 (decide (lgz (lgm D q.2.2.2.2) ≤ lgz (lgm D q.2.2.2.1)))) := by rw [rlT_2 hk9]; show b1 (decide (lgz (lgm D (rpt q.2.2.1 L p q.2.2.2.2)) ≤ lgz (lgm D q.2.2.2.1))) = _; rw [hrp, ed]
              have hj9 : jvA S S4 := hj4
              have hq9 : hoQ S4 (rlT 11 L q p) := by rw [rlT_2 hk9]; show S4.holding = q.2.2.2.1.length + (rpt q.2.2.1 L p q.2.2.2.2).length; rw [hm4.2.2.2, hrp, List.length_append]; show S2.holding + 1 = _; rw [hq2]; show _ + 1 = _; simp; omega
              have hl9 : max (lgz (lgm D (rlT 11 L q p).2.2.2.1)) (lgz (lgm D (rlT 11 L q p).2.2.2.2)) ≤ 8000 := by rw [rlT_2 hk9]; show max (lgz (lgm D q.2.2.2.1)) (lgz (lgm D (rpt q.2.2.1 L p q.2.2.2.2))) ≤ 8000; rw [hrp, em]; omega
              have h9 := l0_M_judge hA hs hj hbL hL8 hka hD ho n (rlE L p + 1) S4 (rlT 11 L q p) (by omega) (by omega) (hX.v hj9) (hT.v hj9) (rlT_ok hk) hq9 hl9
              rw [e5, e6, e7, e8] at h9
              refine am_G.mono h9 (fun r h1 hz => ?_)
              obtain ⟨y1, S1, y2, y3, y4⟩ := hz
              exact ⟨y1, S1, y2, jvA.tr hj9 y3, y4⟩
            · refine g_aload_n (pc := 191) dc_M_judge_191 rfl ?_
              refine g_getfield (pc := 192) (v := .int (nI ((uf L (rlV L p) (rlW L p)).length))) dc_M_judge_192 fl_M_188 (mp_o hA) (congrArg (fun z => some (Value.int (nI z))) hm4.2.1) ?_
              refine g_iload (pc := 195) dc_M_judge_195 rfl ?_
              refine q_icmp_lt (pc := 197) (tgt := 63) ((uf L (rlV L p) (rlW L p)).length) (max (lgz (lgm D q.2.2.2.1)) (lgz (lgm D q.2.2.2.2))) dc_M_judge_197 (by omega) (by omega) rfl (fun hc197 => ?_) (fun hc197 => ?_)
              · have hrp : rpt q.2.2.1 L p q.2.2.2.2 = q.2.2.2.2 ++ [(uf L (rlV L p) (rlW L p))] := if_pos ⟨hc163, by omega⟩
                have ez : lgz (lgm D (q.2.2.2.2 ++ [(uf L (rlV L p) (rlW L p))])) = if lgz (lgm D q.2.2.2.2) < (uf L (rlV L p) (rlW L p)).length then (uf L (rlV L p) (rlW L p)).length else lgz (lgm D q.2.2.2.2) := by rw [lgm_app, lgs_z (by omega)]; simp [hc188]
                have e5 : b1 (rlT 11 L q p).2.1 = 0 := by rw [rlT_2 hk9]; rfl
                have e6 : b1 (rlT 11 L q p).2.2.1 = (b1 q.2.2.1) := by rw [rlT_2 hk9]
                have em : max (lgz (lgm D q.2.2.2.1)) (lgz (lgm D (q.2.2.2.2 ++ [(uf L (rlV L p) (rlW L p))]))) = max (lgz (lgm D q.2.2.2.1)) (lgz (lgm D q.2.2.2.2)) := by rw [ez]; (try split) <;> omega
                have e7 : nI (max (lgz (lgm D (rlT 11 L q p).2.2.2.1)) (lgz (lgm D (rlT 11 L q p).2.2.2.2))) = (nI (max (lgz (lgm D q.2.2.2.1)) (lgz (lgm D q.2.2.2.2)))) := by rw [rlT_2 hk9]; show nI (max (lgz (lgm D q.2.2.2.1)) (lgz (lgm D (rpt q.2.2.1 L p q.2.2.2.2)))) = _; rw [hrp, em]
                have ed : decide (lgz (lgm D (q.2.2.2.2 ++ [(uf L (rlV L p) (rlW L p))])) ≤ lgz (lgm D q.2.2.2.1)) = decide (lgz (lgm D q.2.2.2.2) ≤ lgz (lgm D q.2.2.2.1)) := decide_eq_decide.mpr (by rw [ez]; (try split) <;> omega)
                have e8 : b1 (decide (lgz (lgm D (rlT 11 L q p).2.2.2.2) ≤ lgz (lgm D (rlT 11 L q p).2.2.2.1))) = (b1 (decide (lgz (lgm D q.2.2.2.2) ≤ lgz (lgm D q.2.2.2.1)))) := by rw [rlT_2 hk9]; show b1 (decide (lgz (lgm D (rpt q.2.2.1 L p q.2.2.2.2)) ≤ lgz (lgm D q.2.2.2.1))) = _; rw [hrp, ed]
                have hj9 : jvA S S4 := hj4
                have hq9 : hoQ S4 (rlT 11 L q p) := by rw [rlT_2 hk9]; show S4.holding = q.2.2.2.1.length + (rpt q.2.2.1 L p q.2.2.2.2).length; rw [hm4.2.2.2, hrp, List.length_append]; show S2.holding + 1 = _; rw [hq2]; show _ + 1 = _; simp; omega
                have hl9 : max (lgz (lgm D (rlT 11 L q p).2.2.2.1)) (lgz (lgm D (rlT 11 L q p).2.2.2.2)) ≤ 8000 := by rw [rlT_2 hk9]; show max (lgz (lgm D q.2.2.2.1)) (lgz (lgm D (rpt q.2.2.1 L p q.2.2.2.2))) ≤ 8000; rw [hrp, em]; omega
                have h9 := l0_M_judge hA hs hj hbL hL8 hka hD ho n (rlE L p + 1) S4 (rlT 11 L q p) (by omega) (by omega) (hX.v hj9) (hT.v hj9) (rlT_ok hk) hq9 hl9
                rw [e5, e6, e7, e8] at h9
                refine am_G.mono h9 (fun r h1 hz => ?_)
                obtain ⟨y1, S1, y2, y3, y4⟩ := hz
                exact ⟨y1, S1, y2, jvA.tr hj9 y3, y4⟩
              · refine g_aload_n (pc := 200) dc_M_judge_200 rfl ?_
                refine g_getfield (pc := 201) (v := .int (nI ((uf L (rlV L p) (rlW L p)).length))) dc_M_judge_201 fl_M_188 (mp_o hA) (congrArg (fun z => some (Value.int (nI z))) hm4.2.1) ?_
                refine g_iload (pc := 204) dc_M_judge_204 rfl ?_
                refine q_icmp_le (pc := 206) (tgt := 225) ((uf L (rlV L p) (rlW L p)).length) (max (lgz (lgm D q.2.2.2.1)) (lgz (lgm D q.2.2.2.2))) dc_M_judge_206 (by omega) (by omega) rfl (fun hc206 => ?_) (fun hc206 => ?_)
                · refine g_iload (pc := 225) dc_M_judge_225 rfl ?_
                  refine q_ifb_ne (pc := 227) (tgt := 238) dc_M_judge_227 rfl (fun hc227 => ?_) (fun hc227 => ?_)
                  · refine g_iconst (pc := 238) (v := 1) dc_M_judge_238 rfl ?_
                    refine g_goto (pc := 239) (tgt := 243) dc_M_judge_239 rfl ?_
                    refine g_istore (pc := 243) dc_M_judge_243 (by decide) ?_
                    show am_G X mt_M_judge _ 245 [some (.ref 84), some (.int (nI ka)), none, some (.int (nI j)), some (.int 0), some (.int 0), some (.int (b1 q.2.2.1)), some (.int (nI (max (lgz (lgm D q.2.2.2.1)) (lgz (lgm D q.2.2.2.2))))), some (.int 1), some (.int (nI (s + (rlE L p + 1))))] [] _ _
                    refine g_aload_n (pc := 245) dc_M_judge_245 rfl ?_
                    refine g_getfield (pc := 246) (v := .int (nI ((uf L (rlV L p) (rlW L p)).length))) dc_M_judge_246 fl_M_188 (mp_o hA) (congrArg (fun z => some (Value.int (nI z))) hm4.2.1) ?_
                    refine g_istore (pc := 249) dc_M_judge_249 (by decide) ?_
                    show am_G X mt_M_judge _ 251 [some (.ref 84), some (.int (nI ka)), none, some (.int (nI j)), some (.int 0), some (.int 0), some (.int (b1 q.2.2.1)), some (.int (nI ((uf L (rlV L p) (rlW L p)).length))), some (.int 1), some (.int (nI (s + (rlE L p + 1))))] [] _ _
                    refine g_goto (pc := 251) (tgt := 63) dc_M_judge_251 rfl ?_
                    have hrp : rpt q.2.2.1 L p q.2.2.2.2 = q.2.2.2.2 ++ [(uf L (rlV L p) (rlW L p))] := if_pos ⟨hc163, by omega⟩
                    have ez : lgz (lgm D (q.2.2.2.2 ++ [(uf L (rlV L p) (rlW L p))])) = if lgz (lgm D q.2.2.2.2) < (uf L (rlV L p) (rlW L p)).length then (uf L (rlV L p) (rlW L p)).length else lgz (lgm D q.2.2.2.2) := by rw [lgm_app, lgs_z (by omega)]; simp [hc188]
                    have e5 : b1 (rlT 11 L q p).2.1 = 0 := by rw [rlT_2 hk9]; rfl
                    have e6 : b1 (rlT 11 L q p).2.2.1 = (b1 q.2.2.1) := by rw [rlT_2 hk9]
                    have em : max (lgz (lgm D q.2.2.2.1)) (lgz (lgm D (q.2.2.2.2 ++ [(uf L (rlV L p) (rlW L p))]))) = (uf L (rlV L p) (rlW L p)).length := by rw [ez]; (try split) <;> omega
                    have e7 : nI (max (lgz (lgm D (rlT 11 L q p).2.2.2.1)) (lgz (lgm D (rlT 11 L q p).2.2.2.2))) = (nI ((uf L (rlV L p) (rlW L p)).length)) := by rw [rlT_2 hk9]; show nI (max (lgz (lgm D q.2.2.2.1)) (lgz (lgm D (rpt q.2.2.1 L p q.2.2.2.2)))) = _; rw [hrp, em]
                    have ed : decide (lgz (lgm D (q.2.2.2.2 ++ [(uf L (rlV L p) (rlW L p))])) ≤ lgz (lgm D q.2.2.2.1)) = true := decide_eq_true (by rw [ez]; have h7 := of_decide_eq_true hc227; (try split) <;> omega)
                    have e8 : b1 (decide (lgz (lgm D (rlT 11 L q p).2.2.2.2) ≤ lgz (lgm D (rlT 11 L q p).2.2.2.1))) = 1 := by rw [rlT_2 hk9]; show b1 (decide (lgz (lgm D (rpt q.2.2.1 L p q.2.2.2.2)) ≤ lgz (lgm D q.2.2.2.1))) = _; rw [hrp, ed]; rfl
                    have hj9 : jvA S S4 := hj4
                    have hq9 : hoQ S4 (rlT 11 L q p) := by rw [rlT_2 hk9]; show S4.holding = q.2.2.2.1.length + (rpt q.2.2.1 L p q.2.2.2.2).length; rw [hm4.2.2.2, hrp, List.length_append]; show S2.holding + 1 = _; rw [hq2]; show _ + 1 = _; simp; omega
                    have hl9 : max (lgz (lgm D (rlT 11 L q p).2.2.2.1)) (lgz (lgm D (rlT 11 L q p).2.2.2.2)) ≤ 8000 := by rw [rlT_2 hk9]; show max (lgz (lgm D q.2.2.2.1)) (lgz (lgm D (rpt q.2.2.1 L p q.2.2.2.2))) ≤ 8000; rw [hrp, em]; omega
                    have h9 := l0_M_judge hA hs hj hbL hL8 hka hD ho n (rlE L p + 1) S4 (rlT 11 L q p) (by omega) (by omega) (hX.v hj9) (hT.v hj9) (rlT_ok hk) hq9 hl9
                    rw [e5, e6, e7, e8] at h9
                    refine am_G.mono h9 (fun r h1 hz => ?_)
                    obtain ⟨y1, S1, y2, y3, y4⟩ := hz
                    exact ⟨y1, S1, y2, jvA.tr hj9 y3, y4⟩
                  · refine g_aload_n (pc := 230) dc_M_judge_230 rfl ?_
                    refine g_getfield (pc := 231) (v := .int 2) dc_M_judge_231 fl_M_159 (mp_o hA) (congrArg (fun z => some (Value.int (er z))) hko4) ?_
                    refine g_iconst (pc := 234) (v := 1) dc_M_judge_234 rfl ?_
                    refine g_icmp_ne (pc := 235) (tgt := 242) dc_M_judge_235 rfl (fun _ => ?_) (fun hc => absurd hc (by decide))
                    refine g_iconst (pc := 242) (v := 0) dc_M_judge_242 rfl ?_
                    refine g_istore (pc := 243) dc_M_judge_243 (by decide) ?_
                    show am_G X mt_M_judge _ 245 [some (.ref 84), some (.int (nI ka)), none, some (.int (nI j)), some (.int 0), some (.int 0), some (.int (b1 q.2.2.1)), some (.int (nI (max (lgz (lgm D q.2.2.2.1)) (lgz (lgm D q.2.2.2.2))))), some (.int 0), some (.int (nI (s + (rlE L p + 1))))] [] _ _
                    refine g_aload_n (pc := 245) dc_M_judge_245 rfl ?_
                    refine g_getfield (pc := 246) (v := .int (nI ((uf L (rlV L p) (rlW L p)).length))) dc_M_judge_246 fl_M_188 (mp_o hA) (congrArg (fun z => some (Value.int (nI z))) hm4.2.1) ?_
                    refine g_istore (pc := 249) dc_M_judge_249 (by decide) ?_
                    show am_G X mt_M_judge _ 251 [some (.ref 84), some (.int (nI ka)), none, some (.int (nI j)), some (.int 0), some (.int 0), some (.int (b1 q.2.2.1)), some (.int (nI ((uf L (rlV L p) (rlW L p)).length))), some (.int 0), some (.int (nI (s + (rlE L p + 1))))] [] _ _
                    refine g_goto (pc := 251) (tgt := 63) dc_M_judge_251 rfl ?_
                    have hrp : rpt q.2.2.1 L p q.2.2.2.2 = q.2.2.2.2 ++ [(uf L (rlV L p) (rlW L p))] := if_pos ⟨hc163, by omega⟩
                    have ez : lgz (lgm D (q.2.2.2.2 ++ [(uf L (rlV L p) (rlW L p))])) = if lgz (lgm D q.2.2.2.2) < (uf L (rlV L p) (rlW L p)).length then (uf L (rlV L p) (rlW L p)).length else lgz (lgm D q.2.2.2.2) := by rw [lgm_app, lgs_z (by omega)]; simp [hc188]
                    have e5 : b1 (rlT 11 L q p).2.1 = 0 := by rw [rlT_2 hk9]; rfl
                    have e6 : b1 (rlT 11 L q p).2.2.1 = (b1 q.2.2.1) := by rw [rlT_2 hk9]
                    have em : max (lgz (lgm D q.2.2.2.1)) (lgz (lgm D (q.2.2.2.2 ++ [(uf L (rlV L p) (rlW L p))]))) = (uf L (rlV L p) (rlW L p)).length := by rw [ez]; (try split) <;> omega
                    have e7 : nI (max (lgz (lgm D (rlT 11 L q p).2.2.2.1)) (lgz (lgm D (rlT 11 L q p).2.2.2.2))) = (nI ((uf L (rlV L p) (rlW L p)).length)) := by rw [rlT_2 hk9]; show nI (max (lgz (lgm D q.2.2.2.1)) (lgz (lgm D (rpt q.2.2.1 L p q.2.2.2.2)))) = _; rw [hrp, em]
                    have ed : decide (lgz (lgm D (q.2.2.2.2 ++ [(uf L (rlV L p) (rlW L p))])) ≤ lgz (lgm D q.2.2.2.1)) = false := decide_eq_false (by rw [ez]; have h7 := of_decide_eq_false hc227; (try split) <;> omega)
                    have e8 : b1 (decide (lgz (lgm D (rlT 11 L q p).2.2.2.2) ≤ lgz (lgm D (rlT 11 L q p).2.2.2.1))) = 0 := by rw [rlT_2 hk9]; show b1 (decide (lgz (lgm D (rpt q.2.2.1 L p q.2.2.2.2)) ≤ lgz (lgm D q.2.2.2.1))) = _; rw [hrp, ed]; rfl
                    have hj9 : jvA S S4 := hj4
                    have hq9 : hoQ S4 (rlT 11 L q p) := by rw [rlT_2 hk9]; show S4.holding = q.2.2.2.1.length + (rpt q.2.2.1 L p q.2.2.2.2).length; rw [hm4.2.2.2, hrp, List.length_append]; show S2.holding + 1 = _; rw [hq2]; show _ + 1 = _; simp; omega
                    have hl9 : max (lgz (lgm D (rlT 11 L q p).2.2.2.1)) (lgz (lgm D (rlT 11 L q p).2.2.2.2)) ≤ 8000 := by rw [rlT_2 hk9]; show max (lgz (lgm D q.2.2.2.1)) (lgz (lgm D (rpt q.2.2.1 L p q.2.2.2.2))) ≤ 8000; rw [hrp, em]; omega
                    have h9 := l0_M_judge hA hs hj hbL hL8 hka hD ho n (rlE L p + 1) S4 (rlT 11 L q p) (by omega) (by omega) (hX.v hj9) (hT.v hj9) (rlT_ok hk) hq9 hl9
                    rw [e5, e6, e7, e8] at h9
                    refine am_G.mono h9 (fun r h1 hz => ?_)
                    obtain ⟨y1, S1, y2, y3, y4⟩ := hz
                    exact ⟨y1, S1, y2, jvA.tr hj9 y3, y4⟩
                · refine g_aload_n (pc := 209) dc_M_judge_209 rfl ?_
                  refine g_getfield (pc := 210) (v := .int 2) dc_M_judge_210 fl_M_159 (mp_o hA) (congrArg (fun z => some (Value.int (er z))) hko4) ?_
                  refine g_iconst (pc := 213) (v := 1) dc_M_judge_213 rfl ?_
                  refine g_icmp_ne (pc := 214) (tgt := 221) dc_M_judge_214 rfl (fun _ => ?_) (fun hc => absurd hc (by decide))
                  refine g_iconst (pc := 221) (v := 0) dc_M_judge_221 rfl ?_
                  refine g_goto (pc := 222) (tgt := 243) dc_M_judge_222 rfl ?_
                  refine g_istore (pc := 243) dc_M_judge_243 (by decide) ?_
                  show am_G X mt_M_judge _ 245 [some (.ref 84), some (.int (nI ka)), none, some (.int (nI j)), some (.int 0), some (.int 0), some (.int (b1 q.2.2.1)), some (.int (nI (max (lgz (lgm D q.2.2.2.1)) (lgz (lgm D q.2.2.2.2))))), some (.int 0), some (.int (nI (s + (rlE L p + 1))))] [] _ _
                  refine g_aload_n (pc := 245) dc_M_judge_245 rfl ?_
                  refine g_getfield (pc := 246) (v := .int (nI ((uf L (rlV L p) (rlW L p)).length))) dc_M_judge_246 fl_M_188 (mp_o hA) (congrArg (fun z => some (Value.int (nI z))) hm4.2.1) ?_
                  refine g_istore (pc := 249) dc_M_judge_249 (by decide) ?_
                  show am_G X mt_M_judge _ 251 [some (.ref 84), some (.int (nI ka)), none, some (.int (nI j)), some (.int 0), some (.int 0), some (.int (b1 q.2.2.1)), some (.int (nI ((uf L (rlV L p) (rlW L p)).length))), some (.int 0), some (.int (nI (s + (rlE L p + 1))))] [] _ _
                  refine g_goto (pc := 251) (tgt := 63) dc_M_judge_251 rfl ?_
                  have hrp : rpt q.2.2.1 L p q.2.2.2.2 = q.2.2.2.2 ++ [(uf L (rlV L p) (rlW L p))] := if_pos ⟨hc163, by omega⟩
                  have ez : lgz (lgm D (q.2.2.2.2 ++ [(uf L (rlV L p) (rlW L p))])) = if lgz (lgm D q.2.2.2.2) < (uf L (rlV L p) (rlW L p)).length then (uf L (rlV L p) (rlW L p)).length else lgz (lgm D q.2.2.2.2) := by rw [lgm_app, lgs_z (by omega)]; simp [hc188]
                  have e5 : b1 (rlT 11 L q p).2.1 = 0 := by rw [rlT_2 hk9]; rfl
                  have e6 : b1 (rlT 11 L q p).2.2.1 = (b1 q.2.2.1) := by rw [rlT_2 hk9]
                  have em : max (lgz (lgm D q.2.2.2.1)) (lgz (lgm D (q.2.2.2.2 ++ [(uf L (rlV L p) (rlW L p))]))) = (uf L (rlV L p) (rlW L p)).length := by rw [ez]; (try split) <;> omega
                  have e7 : nI (max (lgz (lgm D (rlT 11 L q p).2.2.2.1)) (lgz (lgm D (rlT 11 L q p).2.2.2.2))) = (nI ((uf L (rlV L p) (rlW L p)).length)) := by rw [rlT_2 hk9]; show nI (max (lgz (lgm D q.2.2.2.1)) (lgz (lgm D (rpt q.2.2.1 L p q.2.2.2.2)))) = _; rw [hrp, em]
                  have ed : decide (lgz (lgm D (q.2.2.2.2 ++ [(uf L (rlV L p) (rlW L p))])) ≤ lgz (lgm D q.2.2.2.1)) = false := decide_eq_false (by rw [ez]; (try split) <;> omega)
                  have e8 : b1 (decide (lgz (lgm D (rlT 11 L q p).2.2.2.2) ≤ lgz (lgm D (rlT 11 L q p).2.2.2.1))) = 0 := by rw [rlT_2 hk9]; show b1 (decide (lgz (lgm D (rpt q.2.2.1 L p q.2.2.2.2)) ≤ lgz (lgm D q.2.2.2.1))) = _; rw [hrp, ed]; rfl
                  have hj9 : jvA S S4 := hj4
                  have hq9 : hoQ S4 (rlT 11 L q p) := by rw [rlT_2 hk9]; show S4.holding = q.2.2.2.1.length + (rpt q.2.2.1 L p q.2.2.2.2).length; rw [hm4.2.2.2, hrp, List.length_append]; show S2.holding + 1 = _; rw [hq2]; show _ + 1 = _; simp; omega
                  have hl9 : max (lgz (lgm D (rlT 11 L q p).2.2.2.1)) (lgz (lgm D (rlT 11 L q p).2.2.2.2)) ≤ 8000 := by rw [rlT_2 hk9]; show max (lgz (lgm D q.2.2.2.1)) (lgz (lgm D (rpt q.2.2.1 L p q.2.2.2.2))) ≤ 8000; rw [hrp, em]; omega
                  have h9 := l0_M_judge hA hs hj hbL hL8 hka hD ho n (rlE L p + 1) S4 (rlT 11 L q p) (by omega) (by omega) (hX.v hj9) (hT.v hj9) (rlT_ok hk) hq9 hl9
                  rw [e5, e6, e7, e8] at h9
                  refine am_G.mono h9 (fun r h1 hz => ?_)
                  obtain ⟨y1, S1, y2, y3, y4⟩ := hz
                  exact ⟨y1, S1, y2, jvA.tr hj9 y3, y4⟩
      · have hko : S2.key = none := by rw [hz4.1]; unfold rlO; rw [hk9]; rfl
        refine g_aload_n (pc := 88) dc_M_judge_88 rfl ?_
        refine g_getfield (pc := 89) (v := .int (-1)) dc_M_judge_89 fl_M_159 (mp_o hA) (congrArg (fun z => some (Value.int (er z))) hko) ?_
        refine g_if_ne (pc := 92) (tgt := 127) dc_M_judge_92 rfl (fun _ => ?_) (fun hc => absurd hc (by decide))
        refine g_aload_n (pc := 127) dc_M_judge_127 rfl ?_
        refine g_getfield (pc := 128) (v := .int (-1)) dc_M_judge_128 fl_M_159 (mp_o hA) (congrArg (fun z => some (Value.int (er z))) hko) ?_
        refine g_if_le (pc := 131) (tgt := 63) dc_M_judge_131 rfl (fun _ => ?_) (fun hc => absurd hc (by decide))
        have e5 : b1 (rlT 11 L q p).2.1 = (b1 q.2.1) := by rw [rlT_3 hk9]
        have e6 : b1 (rlT 11 L q p).2.2.1 = (b1 q.2.2.1) := by rw [rlT_3 hk9]
        have e7 : nI (max (lgz (lgm D (rlT 11 L q p).2.2.2.1)) (lgz (lgm D (rlT 11 L q p).2.2.2.2))) = (nI (max (lgz (lgm D q.2.2.2.1)) (lgz (lgm D q.2.2.2.2)))) := by rw [rlT_3 hk9]
        have e8 : b1 (decide (lgz (lgm D (rlT 11 L q p).2.2.2.2) ≤ lgz (lgm D (rlT 11 L q p).2.2.2.1))) = (b1 (decide (lgz (lgm D q.2.2.2.2) ≤ lgz (lgm D q.2.2.2.1)))) := by rw [rlT_3 hk9]
        have hj9 : jvA S S2 := hz3.v
        have hq9 : hoQ S2 (rlT 11 L q p) := by rw [rlT_3 hk9]; exact hq2
        have hl9 : max (lgz (lgm D (rlT 11 L q p).2.2.2.1)) (lgz (lgm D (rlT 11 L q p).2.2.2.2)) ≤ 8000 := by rw [rlT_3 hk9]; exact hlg
        have h9 := l0_M_judge hA hs hj hbL hL8 hka hD ho n (rlE L p + 1) S2 (rlT 11 L q p) (by omega) (by omega) (hX.v hj9) (hT.v hj9) (rlT_ok hk) hq9 hl9
        rw [e5, e6, e7, e8] at h9
        refine am_G.mono h9 (fun r h1 hz => ?_)
        obtain ⟨y1, S1, y2, y3, y4⟩ := hz
        exact ⟨y1, S1, y2, jvA.tr hj9 y3, y4⟩
    · have hz : True := trivial
      refine g_iload (pc := 63) dc_M_judge_63 rfl ?_
      refine g_aload_n (pc := 65) dc_M_judge_65 rfl ?_
      refine g_getfield (pc := 66) dc_M_judge_66 fl_M_146 (mp_o hA) rfl ?_
      refine g_iload_n (pc := 69) dc_M_judge_69 rfl ?_
      refine q_ialoadV (pc := 70) j dc_M_judge_70 (mp_a hA 14 rfl) (by omega) (by omega) (v := (nI (s + L.length))) hX.2.2 ?_
      refine q_icmp_ge (pc := 71) (tgt := 254) (s + p) (s + L.length) dc_M_judge_71 (by omega) (by omega) rfl (fun hc71 => ?_) (fun hc => absurd hc (by omega))
      refine g_aload_n (pc := 254) dc_M_judge_254 rfl ?_
      refine g_iload (pc := 255) dc_M_judge_255 rfl ?_
      refine pf_isAllowed (pc := 257) (v := decide (lgz (lgm D q.2.2.2.2) ≤ lgz (lgm D q.2.2.2.1))) hA dc_M_judge_257 fp_M_judge_197 ?_
      exact g_return dc_M_judge_260 rfl ⟨rfl, _, rfl, jvA.s_isAllowed _ _, by rw [lns_out (by omega), List.foldl_nil]; exact hq, by rw [lns_out (by omega), List.foldl_nil]; exact (alw_z hk.1 hk.2).symm⟩
/-- the place found last in k rows -/
def lst (Q : List (List Int32)) (x : List Int32) (k : Nat) (o : Option Nat) : Prop := (o = none → ∀ j, j < k → ¬ gT Q j = x) ∧ ∀ i, o = some i → i < k ∧ gT Q i = x
theorem lst_0 {Q : List (List Int32)} {x : List Int32} : lst Q x 0 none := ⟨fun _ j hj => absurd hj (Nat.not_lt_zero j), fun i h => by cases h⟩
theorem lst_hit {Q : List (List Int32)} {x : List Int32} {k : Nat} (h : gT Q k = x) : lst Q x (k + 1) (some k) := ⟨fun h9 => (by cases h9), fun i h9 => (by cases h9; exact ⟨by omega, h⟩)⟩
theorem lst_miss {Q : List (List Int32)} {x : List Int32} {k : Nat} {o : Option Nat} (h : lst Q x k o) (hn : ¬ gT Q k = x) : lst Q x (k + 1) o := ⟨fun h9 j hj => by
  by_cases e : j = k
  · rw [e]; exact hn
  · exact h.1 h9 j (by omega), fun i h9 => ⟨by have := (h.2 i h9).1; omega, (h.2 i h9).2⟩⟩
theorem nbr_at {Q : List (List Int32)} {x : List Int32} {k : Nat} (hn : Q.Nodup) (hk : k < Q.length) (h : gT Q k = x) : nbr Q x = some k := by
  cases e : nbr Q x with
  | none => exact absurd (by rw [← h]; exact gT_mem hk) (nbr_n e)
  | some i =>
    have := nbr_s e
    rw [gT_inj hn this.1 hk (this.2.trans h.symm)]
theorem nbr_no {Q : List (List Int32)} {x : List Int32} (h : ∀ j, j < Q.length → ¬ gT Q j = x) : nbr Q x = none := by
  cases e : nbr Q x with
  | none => rfl
  | some i => exact absurd (nbr_s e).2 (h i (nbr_s e).1)
theorem lst_end {Q : List (List Int32)} {x : List Int32} {o : Option Nat} (h : lst Q x Q.length o) (hn : Q.Nodup) : o = nbr Q x := by
  cases o with
  | none => exact (nbr_no (h.1 rfl)).symm
  | some i => exact (nbr_at hn (h.2 i rfl).1 (h.2 i rfl).2).symm
/-- the model's rules: sites and texts -/
def rulM (S : MS) (T Y Rs Rt : List (List Int32)) : Prop := S.ruleCount = Rs.length ∧ Rs.length ≤ 12 ∧ Rs.Nodup ∧ ∀ k, k < Rs.length → (∃ ka, ka < T.length ∧ S.ruleSite k = nI ka ∧ sit (gT T ka) = gT Rs k) ∧ ∃ j, j < Y.length ∧ S.ruleText k = nI j ∧ gT Y j = gT Rt k
theorem rulM.v {S S1 : MS} {T Y Rs Rt : List (List Int32)} (h : rulM S T Y Rs Rt) (e : jvA S S1) : rulM S1 T Y Rs Rt := by
  unfold rulM at h ⊢
  rw [e.ruleCount, e.ruleSite, e.ruleText]
  exact h
theorem txT.v {S S1 : MS} {Y : List (List Int32)} (h : txT S Y) (e : jvA S S1) : txT S1 Y := by
  unfold txT at h ⊢
  rw [e.textCount, e.textsEnd, e.texts, e.textAt, e.textEnd]
  exact h
theorem txT.ty {S : MS} {Y : List (List Int32)} {j : Nat} (h : txT S Y) (hj : j < Y.length) : tyT S j (ofs Y j) (gT Y j) := by
  have h2 := h.2.2.1 j hj
  exact ⟨h2.2.2, h2.1, by rw [h2.2.1, ofs_s hj]⟩
theorem txT.bt {S : MS} {Y : List (List Int32)} {j : Nat} (h : txT S Y) (hj : j < Y.length) : btg (gT Y j) := h.2.2.2 j hj
def rlz (L : List Int32) : ClS := if (cll 11 L).1 = true then cll 11 L else cll 15 L
def jgH (D : List Int32) (Rs Rt : List (List Int32)) : Nat := match nbr Rs (sit D) with
  | none => 0
  | some k => (rlz (gT Rt k)).2.2.2.1.length + (rlz (gT Rt k)).2.2.2.2.length
def jgL (D : List Int32) (Rs Rt : List (List Int32)) : Bool := match nbr Rs (sit D) with
  | none => true
  | some k => alw D (rlz (gT Rt k)).2.2.2.1 (rlz (gT Rt k)).2.2.2.2
theorem hfd_c {L : List Int32} : ∀ (l : List Nat) (q : ClS), (l.foldl (rlT 11 L) q).1 = (q.1 || hfd L l)
  | [], q => by show q.1 = (q.1 || false); rw [Bool.or_false]
  | p :: l, q => by
    show (l.foldl (rlT 11 L) (rlT 11 L q p)).1 = _
    rw [hfd_c l, show hfd L (p :: l) = ((decide (rlK L p = 0) && isw 11 L (rlV L p) (rlW L p)) || hfd L l) from rfl]
    rcases rlK_4 L p with e | e | e | e
    · rw [rlT_0 e, e]; simp [Bool.or_assoc]
    · rw [rlT_1 e, e]; simp
    · rw [rlT_2 e, e]; simp
    · rw [rlT_3 e, e]; simp
theorem l_M_rulesOf {S : MS} {Y Rs Rt : List (List Int32)} (hA : A.length = 84) (hT : adT S T) (hka : ka < T.length) (hR : rulM S T Y Rs Rt) : ∀ (n k : Nat) (oo : Option Nat), k + n = Rs.length → lst Rs (sit (gT T ka)) k oo → am_G X mt_M_rulesOf (d + 3) 4 [some (.ref 84), some (.int (nI ka)), some (.int (er oo)), some (.int (nI k))] [] (mput A S B) (fun r h1 => r = some (.int (er (nbr Rs (sit (gT T ka))))) ∧ h1 = mput A S B)
  | 0, k, oo, hn, hl => by
    have hk12 := hR.2.1
    refine g_iload_n (pc := 4) dc_M_rulesOf_4 rfl ?_
    refine g_aload_n (pc := 5) dc_M_rulesOf_5 rfl ?_
    refine g_getfield (pc := 6) (v := .int (nI Rs.length)) dc_M_rulesOf_6 fl_M_149 (mp_o hA) (congrArg (fun z => some (Value.int (nI z))) hR.1) ?_
    refine q_icmp_ge (pc := 9) (tgt := 38) k Rs.length dc_M_rulesOf_9 (by omega) (by omega) rfl (fun hc9 => ?_) (fun hc => absurd hc (by omega))
    refine g_iload_n (pc := 38) dc_M_rulesOf_38 rfl ?_
    exact g_ireturn dc_M_rulesOf_39 rfl ⟨by rw [lst_end (show lst Rs (sit (gT T ka)) Rs.length oo by rw [← show k = Rs.length by omega]; exact hl) hR.2.2.1], rfl⟩
  | n + 1, k, oo, hn, hl => by
    have hk12 := hR.2.1
    obtain ⟨kb, hk1, hk2, hk3⟩ := (hR.2.2.2 k (by omega)).1
    refine g_iload_n (pc := 4) dc_M_rulesOf_4 rfl ?_
    refine g_aload_n (pc := 5) dc_M_rulesOf_5 rfl ?_
    refine g_getfield (pc := 6) (v := .int (nI Rs.length)) dc_M_rulesOf_6 fl_M_149 (mp_o hA) (congrArg (fun z => some (Value.int (nI z))) hR.1) ?_
    refine q_icmp_ge (pc := 9) (tgt := 38) k Rs.length dc_M_rulesOf_9 (by omega) (by omega) rfl (fun hc => absurd hc (by omega)) (fun hc9 => ?_)
    refine g_aload_n (pc := 12) dc_M_rulesOf_12 rfl ?_
    refine g_aload_n (pc := 13) dc_M_rulesOf_13 rfl ?_
    refine g_getfield (pc := 14) dc_M_rulesOf_14 fl_M_152 (mp_o hA) rfl ?_
    refine g_iload_n (pc := 17) dc_M_rulesOf_17 rfl ?_
    refine q_ialoadV (pc := 18) k dc_M_rulesOf_18 (mp_a hA 15 rfl) (by omega) (by omega) (v := (nI kb)) hk2 ?_
    refine g_iload_n (pc := 19) dc_M_rulesOf_19 rfl ?_
    refine g_v2 (pc := 20) (M' := mt_M_isSameSite) dc_M_rulesOf_20 mo_M_isSameSite im_M_isSameSite se_M_isSameSite ln_M_155 (mp_o hA) rfl rfl (Nat.le_of_ble_eq_true rfl) (Nat.le_of_ble_eq_true rfl) (am_G.mono (c_M_isSameSite (d := d) hA hT hk1 hka) ?_)
    intro r h1 hq
    rw [hq.1, hq.2]
    clear hq h1 r
    refine ⟨am_nti _, ?_⟩
    refine q_ifb_eq (pc := 23) (tgt := 30) dc_M_rulesOf_23 rfl (fun hc23 => ?_) (fun hc23 => ?_)
    · refine g_iload_n (pc := 30) dc_M_rulesOf_30 rfl ?_
      refine g_istore_n (pc := 31) dc_M_rulesOf_31 (by decide) ?_
      show am_G X mt_M_rulesOf _ 32 [some (.ref 84), some (.int (nI ka)), some (.int (er oo)), some (.int (nI k))] [] _ _
      refine g_iinc (pc := 32) (v := (nI (k + 1))) dc_M_rulesOf_32 rfl (nI_add k 1) (by decide) ?_
      show am_G X mt_M_rulesOf _ 35 [some (.ref 84), some (.int (nI ka)), some (.int (er oo)), some (.int (nI (k + 1)))] [] _ _
      refine g_goto (pc := 35) (tgt := 4) dc_M_rulesOf_35 rfl ?_
      exact l_M_rulesOf hA hT hka hR n (k + 1) oo (by omega) (lst_miss hl (by rw [← hk3]; exact of_decide_eq_false hc23))
    · refine g_iload_n (pc := 26) dc_M_rulesOf_26 rfl ?_
      refine g_goto (pc := 27) (tgt := 31) dc_M_rulesOf_27 rfl ?_
      refine g_istore_n (pc := 31) dc_M_rulesOf_31 (by decide) ?_
      show am_G X mt_M_rulesOf _ 32 [some (.ref 84), some (.int (nI ka)), some (.int (nI k)), some (.int (nI k))] [] _ _
      refine g_iinc (pc := 32) (v := (nI (k + 1))) dc_M_rulesOf_32 rfl (nI_add k 1) (by decide) ?_
      show am_G X mt_M_rulesOf _ 35 [some (.ref 84), some (.int (nI ka)), some (.int (nI k)), some (.int (nI (k + 1)))] [] _ _
      refine g_goto (pc := 35) (tgt := 4) dc_M_rulesOf_35 rfl ?_
      exact l_M_rulesOf hA hT hka hR n (k + 1) (some k) (by omega) (lst_hit (by rw [← hk3]; exact of_decide_eq_true hc23))
theorem c_M_rulesOf {S : MS} {Y Rs Rt : List (List Int32)} (hA : A.length = 84) (hT : adT S T) (hka : ka < T.length) (hR : rulM S T Y Rs Rt) : am_C X mt_M_rulesOf (d + 3) [.ref 84, .int (nI ka)] (mput A S B) (fun r h1 => r = some (.int (er (nbr Rs (sit (gT T ka))))) ∧ h1 = mput A S B) := by
  show am_G X mt_M_rulesOf (d + 3) 0 [some (.ref 84), some (.int (nI ka)), none, none] [] (mput A S B) _
  refine g_iconst (pc := 0) (v := (-1)) dc_M_rulesOf_0 rfl ?_
  refine g_istore_n (pc := 1) dc_M_rulesOf_1 (by decide) ?_
  show am_G X mt_M_rulesOf _ 2 [some (.ref 84), some (.int (nI ka)), some (.int (-1)), none] [] _ _
  refine g_iconst (pc := 2) (v := 0) dc_M_rulesOf_2 rfl ?_
  refine g_istore_n (pc := 3) dc_M_rulesOf_3 (by decide) ?_
  show am_G X mt_M_rulesOf _ 4 [some (.ref 84), some (.int (nI ka)), some (.int (-1)), some (.int 0)] [] _ _
  exact l_M_rulesOf hA hT hka hR Rs.length 0 none (by omega) lst_0
theorem c_M_judge {S : MS} {Y Rs Rt : List (List Int32)} (hA : A.length = 84) (hT : adT S T) (hka : ka < T.length) (ho : okD (gT T ka)) (hY : txT S Y) (hY1 : Y.length ≤ 1100) (hY2 : ∀ j, j < Y.length → ofs Y (j + 1) ≤ 24000 ∧ (gT Y j).length ≤ 8000) (hR : rulM S T Y Rs Rt) : am_C X mt_M_judge (d + 7) [.ref 84, .int (nI ka)] (mput A S B) (fun r h1 => r = none ∧ ∃ S1, h1 = mput A S1 B ∧ jvA S S1 ∧ S1.holding = jgH (gT T ka) Rs Rt ∧ S1.isAllowed = jgL (gT T ka) Rs Rt) := by
  show am_G X mt_M_judge (d + 7) 0 [some (.ref 84), some (.int (nI ka)), none, none, none, none, none, none, none, none] [] (mput A S B) _
  have hv1 : jvA S ((S.s_holding 0).s_isAllowed true) := (jvA.s_holding _ _).tr (jvA.s_isAllowed _ _)
  have hnb : ∀ k, nbr Rs (sit (gT T ka)) = some k → k < 2 ^ 31 := fun k hk => by have := (nbr_s hk).1; have := hR.2.1; omega
  refine g_aload_n (pc := 0) dc_M_judge_0 rfl ?_
  refine g_iconst (pc := 1) (v := 0) dc_M_judge_1 rfl ?_
  refine pf_holding (pc := 2) (v := 0) hA dc_M_judge_2 fp_M_judge_194 ?_
  refine g_aload_n (pc := 5) dc_M_judge_5 rfl ?_
  refine g_iconst (pc := 6) (v := 1) dc_M_judge_6 rfl ?_
  refine pf_isAllowed (pc := 7) (v := true) hA dc_M_judge_7 fp_M_judge_197 ?_
  refine g_aload_n (pc := 10) dc_M_judge_10 rfl ?_
  refine g_iload_n (pc := 11) dc_M_judge_11 rfl ?_
  refine g_v1 (pc := 12) (M' := mt_M_rulesOf) dc_M_judge_12 mo_M_rulesOf im_M_rulesOf se_M_rulesOf ln_M_201 (mp_o hA) rfl rfl (Nat.le_of_ble_eq_true rfl) (Nat.le_of_ble_eq_true rfl) (am_G.mono (c_M_rulesOf (d := d + 3) (S := ((S.s_holding 0).s_isAllowed true)) hA (hT.v hv1) hka (hR.v hv1)) ?_)
  intro r h1 hq
  rw [hq.1, hq.2]
  clear hq h1 r
  refine ⟨am_nti _, ?_⟩
  refine g_istore_n (pc := 15) dc_M_judge_15 (by decide) ?_
  show am_G X mt_M_judge _ 16 [some (.ref 84), some (.int (nI ka)), some (.int (er (nbr Rs (sit (gT T ka))))), none, none, none, none, none, none, none] [] _ _
  refine g_iload_n (pc := 16) dc_M_judge_16 rfl ?_
  refine q_o_ge (pc := 17) (tgt := 21) dc_M_judge_17 hnb rfl (fun k17 hc17 => ?_) (fun hc17 => ?_)
  · rw [hc17]
    rw [show er (some k17) = nI k17 from rfl]
    have hk17 := hnb k17 hc17
    obtain ⟨j, hj1, hj2, hj3⟩ := (hR.2.2.2 k17 (nbr_s hc17).1).2
    have hY3 := hY2 j hj1
    have hos := ofs_s (T := Y) hj1
    have hR2 := hR.2.1
    have hkl := (nbr_s hc17).1
    refine g_aload_n (pc := 21) dc_M_judge_21 rfl ?_
    refine g_getfield (pc := 22) dc_M_judge_22 fl_M_204 (mp_o hA) rfl ?_
    refine g_iload_n (pc := 25) dc_M_judge_25 rfl ?_
    refine q_ialoadV (pc := 26) k17 dc_M_judge_26 (mp_a hA 16 rfl) (by omega) (by omega) (v := (nI j)) hj2 ?_
    refine g_istore_n (pc := 27) dc_M_judge_27 (by decide) ?_
    show am_G X mt_M_judge _ 28 [some (.ref 84), some (.int (nI ka)), some (.int (nI k17)), some (.int (nI j)), none, none, none, none, none, none] [] _ _
    refine g_aload_n (pc := 28) dc_M_judge_28 rfl ?_
    refine g_iload_n (pc := 29) dc_M_judge_29 rfl ?_
    refine g_v1 (pc := 30) (M' := mt_M_hasFinder) dc_M_judge_30 mo_M_hasFinder im_M_hasFinder se_M_hasFinder ln_M_207 (mp_o hA) rfl rfl (Nat.le_of_ble_eq_true rfl) (Nat.le_of_ble_eq_true rfl) (am_G.mono (c_M_hasFinder (d := d) (S := ((S.s_holding 0).s_isAllowed true)) (s := ofs Y j) (L := gT Y j) hA (by omega) (by omega) ((hY.v hv1).ty hj1)) ?_)
    intro r h1 hz
    obtain ⟨hz1, S2, hz2, hz3⟩ := hz
    rw [hz1, hz2]
    clear hz1 hz2 h1 r
    have hv2 := hv1.tr hz3.v
    have hX := (hY.v hv2).ty hj1
    have hfc : hfd (gT Y j) (lnm (gT Y j) 0) = (cll 11 (gT Y j)).1 := by unfold cll; rw [hfd_c]; exact (Bool.false_or _).symm
    rw [hfc]
    refine ⟨am_nti _, ?_⟩
    refine q_ifb_ne (pc := 33) (tgt := 40) dc_M_judge_33 rfl (fun hc33 => ?_) (fun hc33 => ?_)
    · refine g_iconst (pc := 40) (v := 0) dc_M_judge_40 rfl ?_
      refine g_istore (pc := 41) dc_M_judge_41 (by decide) ?_
      show am_G X mt_M_judge _ 43 [some (.ref 84), some (.int (nI ka)), some (.int (nI k17)), some (.int (nI j)), some (.int 0), none, none, none, none, none] [] _ _
      refine g_iconst (pc := 43) (v := 0) dc_M_judge_43 rfl ?_
      refine g_istore (pc := 44) dc_M_judge_44 (by decide) ?_
      show am_G X mt_M_judge _ 46 [some (.ref 84), some (.int (nI ka)), some (.int (nI k17)), some (.int (nI j)), some (.int 0), some (.int 0), none, none, none, none] [] _ _
      refine g_iconst (pc := 46) (v := 0) dc_M_judge_46 rfl ?_
      refine g_istore (pc := 47) dc_M_judge_47 (by decide) ?_
      show am_G X mt_M_judge _ 49 [some (.ref 84), some (.int (nI ka)), some (.int (nI k17)), some (.int (nI j)), some (.int 0), some (.int 0), some (.int 0), none, none, none] [] _ _
      refine g_iconst (pc := 49) (v := 0) dc_M_judge_49 rfl ?_
      refine g_istore (pc := 50) dc_M_judge_50 (by decide) ?_
      show am_G X mt_M_judge _ 52 [some (.ref 84), some (.int (nI ka)), some (.int (nI k17)), some (.int (nI j)), some (.int 0), some (.int 0), some (.int 0), some (.int 0), none, none] [] _ _
      refine g_iconst (pc := 52) (v := 1) dc_M_judge_52 rfl ?_
      refine g_istore (pc := 53) dc_M_judge_53 (by decide) ?_
      show am_G X mt_M_judge _ 55 [some (.ref 84), some (.int (nI ka)), some (.int (nI k17)), some (.int (nI j)), some (.int 0), some (.int 0), some (.int 0), some (.int 0), some (.int 1), none] [] _ _
      refine g_aload_n (pc := 55) dc_M_judge_55 rfl ?_
      refine g_getfield (pc := 56) dc_M_judge_56 fl_M_131 (mp_o hA) rfl ?_
      refine g_iload_n (pc := 59) dc_M_judge_59 rfl ?_
      refine q_ialoadV (pc := 60) j dc_M_judge_60 (mp_a hA 13 rfl) (by omega) (by omega) (v := (nI (ofs Y j))) hX.2.1 ?_
      refine g_istore (pc := 61) dc_M_judge_61 (by decide) ?_
      show am_G X mt_M_judge _ 63 [some (.ref 84), some (.int (nI ka)), some (.int (nI k17)), some (.int (nI j)), some (.int 0), some (.int 0), some (.int 0), some (.int 0), some (.int 1), some (.int (nI (ofs Y j)))] [] _ _
      refine am_wk (am_le_s (am_le_s (am_le_n (am_le_s (am_le_s (am_le_s (am_le_s (am_le_s (am_le_s (am_le_s am_le_0)))))))))) ?_
      have hzz : rlz (gT Y j) = cll 11 (gT Y j) := if_pos hc33
      refine am_G.mono (l0_M_judge (d := d) (s := ofs Y j) hA (by omega) (by omega) (hY.bt hj1) (by omega) hka rfl ho (gT Y j).length 0 S2 (false, false, false, [], []) (by omega) (by omega) hX (hT.v hv2) okQ_0 (hz3.holding.trans rfl) (Nat.zero_le _)) (fun r h1 hz => ?_)
      obtain ⟨y1, S1, y2, y3, y4, y5⟩ := hz
      refine ⟨y1, S1, y2, hv2.tr y3, ?_, ?_⟩
      · rw [show jgH (gT T ka) Rs Rt = (rlz (gT Rt k17)).2.2.2.1.length + (rlz (gT Rt k17)).2.2.2.2.length by unfold jgH; rw [hc17], ← hj3, hzz]; exact y4
      · rw [show jgL (gT T ka) Rs Rt = alw (gT T ka) (rlz (gT Rt k17)).2.2.2.1 (rlz (gT Rt k17)).2.2.2.2 by unfold jgL; rw [hc17], ← hj3, hzz]; exact y5
    · refine g_iconst (pc := 36) (v := 1) dc_M_judge_36 rfl ?_
      refine g_goto (pc := 37) (tgt := 41) dc_M_judge_37 rfl ?_
      refine g_istore (pc := 41) dc_M_judge_41 (by decide) ?_
      show am_G X mt_M_judge _ 43 [some (.ref 84), some (.int (nI ka)), some (.int (nI k17)), some (.int (nI j)), some (.int 1), none, none, none, none, none] [] _ _
      refine g_iconst (pc := 43) (v := 0) dc_M_judge_43 rfl ?_
      refine g_istore (pc := 44) dc_M_judge_44 (by decide) ?_
      show am_G X mt_M_judge _ 46 [some (.ref 84), some (.int (nI ka)), some (.int (nI k17)), some (.int (nI j)), some (.int 1), some (.int 0), none, none, none, none] [] _ _
      refine g_iconst (pc := 46) (v := 0) dc_M_judge_46 rfl ?_
      refine g_istore (pc := 47) dc_M_judge_47 (by decide) ?_
      show am_G X mt_M_judge _ 49 [some (.ref 84), some (.int (nI ka)), some (.int (nI k17)), some (.int (nI j)), some (.int 1), some (.int 0), some (.int 0), none, none, none] [] _ _
      refine g_iconst (pc := 49) (v := 0) dc_M_judge_49 rfl ?_
      refine g_istore (pc := 50) dc_M_judge_50 (by decide) ?_
      show am_G X mt_M_judge _ 52 [some (.ref 84), some (.int (nI ka)), some (.int (nI k17)), some (.int (nI j)), some (.int 1), some (.int 0), some (.int 0), some (.int 0), none, none] [] _ _
      refine g_iconst (pc := 52) (v := 1) dc_M_judge_52 rfl ?_
      refine g_istore (pc := 53) dc_M_judge_53 (by decide) ?_
      show am_G X mt_M_judge _ 55 [some (.ref 84), some (.int (nI ka)), some (.int (nI k17)), some (.int (nI j)), some (.int 1), some (.int 0), some (.int 0), some (.int 0), some (.int 1), none] [] _ _
      refine g_aload_n (pc := 55) dc_M_judge_55 rfl ?_
      refine g_getfield (pc := 56) dc_M_judge_56 fl_M_131 (mp_o hA) rfl ?_
      refine g_iload_n (pc := 59) dc_M_judge_59 rfl ?_
      refine q_ialoadV (pc := 60) j dc_M_judge_60 (mp_a hA 13 rfl) (by omega) (by omega) (v := (nI (ofs Y j))) hX.2.1 ?_
      refine g_istore (pc := 61) dc_M_judge_61 (by decide) ?_
      show am_G X mt_M_judge _ 63 [some (.ref 84), some (.int (nI ka)), some (.int (nI k17)), some (.int (nI j)), some (.int 1), some (.int 0), some (.int 0), some (.int 0), some (.int 1), some (.int (nI (ofs Y j)))] [] _ _
      refine am_wk (am_le_s (am_le_s (am_le_n (am_le_s (am_le_s (am_le_s (am_le_s (am_le_s (am_le_s (am_le_s am_le_0)))))))))) ?_
      have hzz : rlz (gT Y j) = cll 15 (gT Y j) := if_neg (by rw [hc33]; decide)
      refine am_G.mono (l1_M_judge (d := d) (s := ofs Y j) hA (by omega) (by omega) (hY.bt hj1) (by omega) hka rfl ho (gT Y j).length 0 S2 (false, false, false, [], []) (by omega) (by omega) hX (hT.v hv2) okQ_0 (hz3.holding.trans rfl) (Nat.zero_le _)) (fun r h1 hz => ?_)
      obtain ⟨y1, S1, y2, y3, y4, y5⟩ := hz
      refine ⟨y1, S1, y2, hv2.tr y3, ?_, ?_⟩
      · rw [show jgH (gT T ka) Rs Rt = (rlz (gT Rt k17)).2.2.2.1.length + (rlz (gT Rt k17)).2.2.2.2.length by unfold jgH; rw [hc17], ← hj3, hzz]; exact y4
      · rw [show jgL (gT T ka) Rs Rt = alw (gT T ka) (rlz (gT Rt k17)).2.2.2.1 (rlz (gT Rt k17)).2.2.2.2 by unfold jgL; rw [hc17], ← hj3, hzz]; exact y5
  · rw [hc17]
    exact g_return dc_M_judge_20 rfl ⟨rfl, _, rfl, hv1, by unfold jgH; rw [hc17]; rfl, by unfold jgL; rw [hc17]; rfl⟩
end JDG
