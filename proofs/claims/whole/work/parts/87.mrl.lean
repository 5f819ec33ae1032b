/-! ===== the model reads lines of rules ===== -/
/-- all but what judging scribbles -/
def jgK (S : MS) := (S.1, S.2.1, (S.textsEnd, S.textAt, S.textEnd, S.textCount, S.ruleSite, S.ruleText, S.ruleCount, S.holding), S.2.2.2.1.2.2.2.2.2, S.2.2.2.2)
def jkA (S S1 : MS) : Prop := jgK S1 = jgK S
theorem jkA.rf (S : MS) : jkA S S := rfl
theorem jkA.tr {S S1 S2 : MS} (h1 : jkA S S1) (h2 : jkA S1 S2) : jkA S S2 := Eq.trans h2 h1
theorem jkA.s_key (S : MS) (v : Option Nat) : jkA S (S.s_key v) := rfl
theorem jkA.s_valueFrom (S : MS) (v : Nat) : jkA S (S.s_valueFrom v) := rfl
theorem jkA.s_valueEnd (S : MS) (v : Nat) : jkA S (S.s_valueEnd v) := rfl
theorem jkA.s_pattern (S : MS) (v : Nat → Int32) : jkA S (S.s_pattern v) := rfl
theorem jkA.s_patternLength (S : MS) (v : Nat) : jkA S (S.s_patternLength v) := rfl
theorem jkA.s_reached (S : MS) (v : Nat → Int32) : jkA S (S.s_reached v) := rfl
theorem jkA.s_isAllowed (S : MS) (v : Bool) : jkA S (S.s_isAllowed v) := rfl
theorem jkA.coming {S S1 : MS} (h : jkA S S1) : S1.coming = S.coming := congrArg (fun z => z.1.1) h
theorem jkA.size {S S1 : MS} (h : jkA S S1) : S1.size = S.size := congrArg (fun z => z.1.2.1) h
theorem jkA.fault {S S1 : MS} (h : jkA S S1) : S1.fault = S.fault := congrArg (fun z => z.1.2.2.1) h
theorem jkA.product {S S1 : MS} (h : jkA S S1) : S1.product = S.product := congrArg (fun z => z.1.2.2.2.1) h
theorem jkA.productSize {S S1 : MS} (h : jkA S S1) : S1.productSize = S.productSize := congrArg (fun z => z.1.2.2.2.2.1) h
theorem jkA.addresses {S S1 : MS} (h : jkA S S1) : S1.addresses = S.addresses := congrArg (fun z => z.1.2.2.2.2.2.1) h
theorem jkA.addressAt {S S1 : MS} (h : jkA S S1) : S1.addressAt = S.addressAt := congrArg (fun z => z.1.2.2.2.2.2.2.1) h
theorem jkA.addressLength {S S1 : MS} (h : jkA S S1) : S1.addressLength = S.addressLength := congrArg (fun z => z.1.2.2.2.2.2.2.2.1) h
theorem jkA.addressCount {S S1 : MS} (h : jkA S S1) : S1.addressCount = S.addressCount := congrArg (fun z => z.1.2.2.2.2.2.2.2.2.1) h
theorem jkA.made {S S1 : MS} (h : jkA S S1) : S1.made = S.made := congrArg (fun z => z.1.2.2.2.2.2.2.2.2.2) h
theorem jkA.madeLength {S S1 : MS} (h : jkA S S1) : S1.madeLength = S.madeLength := congrArg (fun z => z.2.1.1) h
theorem jkA.host {S S1 : MS} (h : jkA S S1) : S1.host = S.host := congrArg (fun z => z.2.1.2.1) h
theorem jkA.path {S S1 : MS} (h : jkA S S1) : S1.path = S.path := congrArg (fun z => z.2.1.2.2.1) h
theorem jkA.query {S S1 : MS} (h : jkA S S1) : S1.query = S.query := congrArg (fun z => z.2.1.2.2.2.1) h
theorem jkA.neat {S S1 : MS} (h : jkA S S1) : S1.neat = S.neat := congrArg (fun z => z.2.1.2.2.2.2.1) h
theorem jkA.marks {S S1 : MS} (h : jkA S S1) : S1.marks = S.marks := congrArg (fun z => z.2.1.2.2.2.2.2.1) h
theorem jkA.hostLength {S S1 : MS} (h : jkA S S1) : S1.hostLength = S.hostLength := congrArg (fun z => z.2.1.2.2.2.2.2.2.1) h
theorem jkA.pathLength {S S1 : MS} (h : jkA S S1) : S1.pathLength = S.pathLength := congrArg (fun z => z.2.1.2.2.2.2.2.2.2.1) h
theorem jkA.queryLength {S S1 : MS} (h : jkA S S1) : S1.queryLength = S.queryLength := congrArg (fun z => z.2.1.2.2.2.2.2.2.2.2.1) h
theorem jkA.texts {S S1 : MS} (h : jkA S S1) : S1.texts = S.texts := congrArg (fun z => z.2.1.2.2.2.2.2.2.2.2.2) h
theorem jkA.textsEnd {S S1 : MS} (h : jkA S S1) : S1.textsEnd = S.textsEnd := congrArg (fun z => z.2.2.1.1) h
theorem jkA.textAt {S S1 : MS} (h : jkA S S1) : S1.textAt = S.textAt := congrArg (fun z => z.2.2.1.2.1) h
theorem jkA.textEnd {S S1 : MS} (h : jkA S S1) : S1.textEnd = S.textEnd := congrArg (fun z => z.2.2.1.2.2.1) h
theorem jkA.textCount {S S1 : MS} (h : jkA S S1) : S1.textCount = S.textCount := congrArg (fun z => z.2.2.1.2.2.2.1) h
theorem jkA.ruleSite {S S1 : MS} (h : jkA S S1) : S1.ruleSite = S.ruleSite := congrArg (fun z => z.2.2.1.2.2.2.2.1) h
theorem jkA.ruleText {S S1 : MS} (h : jkA S S1) : S1.ruleText = S.ruleText := congrArg (fun z => z.2.2.1.2.2.2.2.2.1) h
theorem jkA.ruleCount {S S1 : MS} (h : jkA S S1) : S1.ruleCount = S.ruleCount := congrArg (fun z => z.2.2.1.2.2.2.2.2.2.1) h
theorem jkA.holding {S S1 : MS} (h : jkA S S1) : S1.holding = S.holding := congrArg (fun z => z.2.2.1.2.2.2.2.2.2.2) h
theorem jkA.decoded {S S1 : MS} (h : jkA S S1) : S1.decoded = S.decoded := congrArg (fun z => z.2.2.2.1.1) h
theorem jkA.decodedLength {S S1 : MS} (h : jkA S S1) : S1.decodedLength = S.decodedLength := congrArg (fun z => z.2.2.2.1.2.1) h
theorem jkA.words {S S1 : MS} (h : jkA S S1) : S1.words = S.words := congrArg (fun z => z.2.2.2.1.2.2.1) h
theorem jkA.wordAt {S S1 : MS} (h : jkA S S1) : S1.wordAt = S.wordAt := congrArg (fun z => z.2.2.2.1.2.2.2.1) h
theorem jkA.wordLength {S S1 : MS} (h : jkA S S1) : S1.wordLength = S.wordLength := congrArg (fun z => z.2.2.2.1.2.2.2.2) h
theorem jkA.wordCount {S S1 : MS} (h : jkA S S1) : S1.wordCount = S.wordCount := congrArg (fun z => z.2.2.2.2.1.1) h
theorem jkA.values {S S1 : MS} (h : jkA S S1) : S1.values = S.values := congrArg (fun z => z.2.2.2.2.1.2.1) h
theorem jkA.valueAt {S S1 : MS} (h : jkA S S1) : S1.valueAt = S.valueAt := congrArg (fun z => z.2.2.2.2.1.2.2.1) h
theorem jkA.valueLength {S S1 : MS} (h : jkA S S1) : S1.valueLength = S.valueLength := congrArg (fun z => z.2.2.2.2.1.2.2.2.1) h
theorem jkA.valueCount {S S1 : MS} (h : jkA S S1) : S1.valueCount = S.valueCount := congrArg (fun z => z.2.2.2.2.1.2.2.2.2.1) h
theorem jkA.pageBase {S S1 : MS} (h : jkA S S1) : S1.pageBase = S.pageBase := congrArg (fun z => z.2.2.2.2.1.2.2.2.2.2.1) h
theorem jkA.hasBase {S S1 : MS} (h : jkA S S1) : S1.hasBase = S.hasBase := congrArg (fun z => z.2.2.2.2.1.2.2.2.2.2.2.1) h
theorem jkA.byteValue {S S1 : MS} (h : jkA S S1) : S1.byteValue = S.byteValue := congrArg (fun z => z.2.2.2.2.1.2.2.2.2.2.2.2.1) h
theorem jkA.hrefFrom {S S1 : MS} (h : jkA S S1) : S1.hrefFrom = S.hrefFrom := congrArg (fun z => z.2.2.2.2.1.2.2.2.2.2.2.2.2.1) h
theorem jkA.hrefEnd {S S1 : MS} (h : jkA S S1) : S1.hrefEnd = S.hrefEnd := congrArg (fun z => z.2.2.2.2.1.2.2.2.2.2.2.2.2.2) h
theorem jkA.hasHref {S S1 : MS} (h : jkA S S1) : S1.hasHref = S.hasHref := congrArg (fun z => z.2.2.2.2.2.1.1) h
theorem jkA.pageAddress {S S1 : MS} (h : jkA S S1) : S1.pageAddress = S.pageAddress := congrArg (fun z => z.2.2.2.2.2.1.2.1) h
theorem jkA.pageStatus {S S1 : MS} (h : jkA S S1) : S1.pageStatus = S.pageStatus := congrArg (fun z => z.2.2.2.2.2.1.2.2.1) h
theorem jkA.pageText {S S1 : MS} (h : jkA S S1) : S1.pageText = S.pageText := congrArg (fun z => z.2.2.2.2.2.1.2.2.2.1) h
theorem jkA.pageCount {S S1 : MS} (h : jkA S S1) : S1.pageCount = S.pageCount := congrArg (fun z => z.2.2.2.2.2.1.2.2.2.2.1) h
theorem jkA.links {S S1 : MS} (h : jkA S S1) : S1.links = S.links := congrArg (fun z => z.2.2.2.2.2.1.2.2.2.2.2.1) h
theorem jkA.linkCount {S S1 : MS} (h : jkA S S1) : S1.linkCount = S.linkCount := congrArg (fun z => z.2.2.2.2.2.1.2.2.2.2.2.2.1) h
theorem jkA.told {S S1 : MS} (h : jkA S S1) : S1.told = S.told := congrArg (fun z => z.2.2.2.2.2.1.2.2.2.2.2.2.2.1) h
theorem jkA.held {S S1 : MS} (h : jkA S S1) : S1.held = S.held := congrArg (fun z => z.2.2.2.2.2.1.2.2.2.2.2.2.2.2.1) h
theorem jkA.seeds {S S1 : MS} (h : jkA S S1) : S1.seeds = S.seeds := congrArg (fun z => z.2.2.2.2.2.1.2.2.2.2.2.2.2.2.2) h
theorem jkA.seedCount {S S1 : MS} (h : jkA S S1) : S1.seedCount = S.seedCount := congrArg (fun z => z.2.2.2.2.2.2.1.1) h
theorem jkA.isStarted {S S1 : MS} (h : jkA S S1) : S1.isStarted = S.isStarted := congrArg (fun z => z.2.2.2.2.2.2.1.2.1) h
theorem jkA.clock {S S1 : MS} (h : jkA S S1) : S1.clock = S.clock := congrArg (fun z => z.2.2.2.2.2.2.1.2.2.1) h
theorem jkA.known {S S1 : MS} (h : jkA S S1) : S1.known = S.known := congrArg (fun z => z.2.2.2.2.2.2.1.2.2.2.1) h
theorem jkA.knownCount {S S1 : MS} (h : jkA S S1) : S1.knownCount = S.knownCount := congrArg (fun z => z.2.2.2.2.2.2.1.2.2.2.2.1) h
theorem jkA.saved {S S1 : MS} (h : jkA S S1) : S1.saved = S.saved := congrArg (fun z => z.2.2.2.2.2.2.1.2.2.2.2.2.1) h
theorem jkA.savedCount {S S1 : MS} (h : jkA S S1) : S1.savedCount = S.savedCount := congrArg (fun z => z.2.2.2.2.2.2.1.2.2.2.2.2.2.1) h
theorem jkA.askedSince {S S1 : MS} (h : jkA S S1) : S1.askedSince = S.askedSince := congrArg (fun z => z.2.2.2.2.2.2.1.2.2.2.2.2.2.2.1) h
theorem jkA.asked {S S1 : MS} (h : jkA S S1) : S1.asked = S.asked := congrArg (fun z => z.2.2.2.2.2.2.1.2.2.2.2.2.2.2.2.1) h
theorem jkA.askedClock {S S1 : MS} (h : jkA S S1) : S1.askedClock = S.askedClock := congrArg (fun z => z.2.2.2.2.2.2.1.2.2.2.2.2.2.2.2.2) h
theorem jkA.askedAddress {S S1 : MS} (h : jkA S S1) : S1.askedAddress = S.askedAddress := congrArg (fun z => z.2.2.2.2.2.2.2.1.1) h
theorem jkA.siteOf {S S1 : MS} (h : jkA S S1) : S1.siteOf = S.siteOf := congrArg (fun z => z.2.2.2.2.2.2.2.1.2.1) h
theorem jkA.siteTime {S S1 : MS} (h : jkA S S1) : S1.siteTime = S.siteTime := congrArg (fun z => z.2.2.2.2.2.2.2.1.2.2.1) h
theorem jkA.siteCount {S S1 : MS} (h : jkA S S1) : S1.siteCount = S.siteCount := congrArg (fun z => z.2.2.2.2.2.2.2.1.2.2.2.1) h
theorem jkA.otherTime {S S1 : MS} (h : jkA S S1) : S1.otherTime = S.otherTime := congrArg (fun z => z.2.2.2.2.2.2.2.1.2.2.2.2.1) h
theorem jkA.documents {S S1 : MS} (h : jkA S S1) : S1.documents = S.documents := congrArg (fun z => z.2.2.2.2.2.2.2.1.2.2.2.2.2.1) h
theorem jkA.documentAddress {S S1 : MS} (h : jkA S S1) : S1.documentAddress = S.documentAddress := congrArg (fun z => z.2.2.2.2.2.2.2.1.2.2.2.2.2.2.1) h
theorem jkA.documentText {S S1 : MS} (h : jkA S S1) : S1.documentText = S.documentText := congrArg (fun z => z.2.2.2.2.2.2.2.1.2.2.2.2.2.2.2.1) h
theorem jkA.documentNumber {S S1 : MS} (h : jkA S S1) : S1.documentNumber = S.documentNumber := congrArg (fun z => z.2.2.2.2.2.2.2.1.2.2.2.2.2.2.2.2.1) h
theorem jkA.documentCopies {S S1 : MS} (h : jkA S S1) : S1.documentCopies = S.documentCopies := congrArg (fun z => z.2.2.2.2.2.2.2.1.2.2.2.2.2.2.2.2.2) h
theorem jkA.documentWords {S S1 : MS} (h : jkA S S1) : S1.documentWords = S.documentWords := congrArg (fun z => z.2.2.2.2.2.2.2.2.1) h
theorem jkA.ranks {S S1 : MS} (h : jkA S S1) : S1.ranks = S.ranks := congrArg (fun z => z.2.2.2.2.2.2.2.2.2.1) h
theorem jkA.nextRanks {S S1 : MS} (h : jkA S S1) : S1.nextRanks = S.nextRanks := congrArg (fun z => z.2.2.2.2.2.2.2.2.2.2.1) h
theorem jkA.leads {S S1 : MS} (h : jkA S S1) : S1.leads = S.leads := congrArg (fun z => z.2.2.2.2.2.2.2.2.2.2.2.1) h
theorem jkA.hits {S S1 : MS} (h : jkA S S1) : S1.hits = S.hits := congrArg (fun z => z.2.2.2.2.2.2.2.2.2.2.2.2.1) h
theorem jkA.hitDocument {S S1 : MS} (h : jkA S S1) : S1.hitDocument = S.hitDocument := congrArg (fun z => z.2.2.2.2.2.2.2.2.2.2.2.2.2.1) h
theorem jkA.hitScore {S S1 : MS} (h : jkA S S1) : S1.hitScore = S.hitScore := congrArg (fun z => z.2.2.2.2.2.2.2.2.2.2.2.2.2.2.1) h
theorem jkA.question {S S1 : MS} (h : jkA S S1) : S1.question = S.question := congrArg (fun z => z.2.2.2.2.2.2.2.2.2.2.2.2.2.2.2.1) h
theorem jkA.questionLength {S S1 : MS} (h : jkA S S1) : S1.questionLength = S.questionLength := congrArg (fun z => z.2.2.2.2.2.2.2.2.2.2.2.2.2.2.2.2.1) h
theorem jkA.questionCount {S S1 : MS} (h : jkA S S1) : S1.questionCount = S.questionCount := congrArg (fun z => z.2.2.2.2.2.2.2.2.2.2.2.2.2.2.2.2.2) h
theorem vFE (S : MS) (a b c : Nat) : ((S.s_valueFrom a).s_valueEnd b).s_valueFrom c = (S.s_valueFrom c).s_valueEnd b := rfl
theorem isw_31 {L : List Int32} {f t : Nat} : isw 31 L f t = isw 12 L f t := isw_cg rfl
theorem isw_32 {L : List Int32} {f t : Nat} : isw 32 L f t = isw 13 L f t := isw_cg rfl
theorem isw_33 {L : List Int32} {f t : Nat} : isw 33 L f t = isw 14 L f t := isw_cg rfl
theorem isw_34 {L : List Int32} {f t : Nat} : isw 34 L f t = isw 11 L f t := isw_cg rfl
def rlO (L : List Int32) (p : Nat) : Option Nat := if rlK L p = 3 then none else some (rlK L p)
/-- the line that was read last -/
def rlM (S : MS) (s : Nat) (L : List Int32) (p : Nat) : Prop := S.key = rlO L p ∧ (¬ rlC L p = rlS L p → S.valueFrom = s + rlV L p ∧ S.valueEnd = s + rlW L p)
section MRL
variable {X : am_X} {d s p f t e0 e : Nat} {A B : List va_E} {L : List Int32} {kk : Option Nat}
theorem v58_M_readLine {Q : Option Value → List va_E → Prop} {S : MS} (hA : A.length = 84) (hs : s + L.length ≤ 24000) (hX : tx S.texts s L) (ht : t ≤ L.length) : ∀ n i : Nat, i + n = t → am_G X mt_M_readLine (d + 5) 84 [some (.ref 84), none, none, some (.int (nI (s + e0))), some (.int (nI (s + e))), some (.int (nI (s + t))), some (.int (nI (s + (fw isBl L i t)))), some (.int (nI (s + t)))] [] (mput A S B) Q → am_G X mt_M_readLine (d + 5) 58 [some (.ref 84), none, none, some (.int (nI (s + e0))), some (.int (nI (s + e))), some (.int (nI (s + t))), some (.int (nI (s + i))), some (.int (nI (s + t)))] [] (mput A S B) Q
  | 0, i, e9, K => by
    have e1 : fw isBl L i t = i := fw_0 (by omega)
    rw [e1] at K
    refine g_iload (pc := 58) dc_M_readLine_58 rfl ?_
    refine g_iload (pc := 60) dc_M_readLine_60 rfl ?_
    refine q_icmp_ge (pc := 62) (tgt := 84) (s + i) (s + t) dc_M_readLine_62 (by omega) (by omega) rfl (fun hc62 => ?_) (fun hc => absurd hc (by omega))
    exact K
  | n + 1, i, e9, K => by
    by_cases hp : isBl (gx L i) = true
    · rw [fw_t (by omega) hp] at K
      refine g_iload (pc := 58) dc_M_readLine_58 rfl ?_
      refine g_iload (pc := 60) dc_M_readLine_60 rfl ?_
      refine q_icmp_ge (pc := 62) (tgt := 84) (s + i) (s + t) dc_M_readLine_62 (by omega) (by omega) rfl (fun hc => absurd hc (by omega)) (fun hc62 => ?_)
      refine g_aload_n (pc := 65) dc_M_readLine_65 rfl ?_
      refine g_getfield (pc := 66) dc_M_readLine_66 fl_M_140 (mp_o hA) rfl ?_
      refine g_iload (pc := 69) dc_M_readLine_69 rfl ?_
      refine q_tx (pc := 71) i dc_M_readLine_71 (mp_a hA 12 rfl) hX hs (by omega) (by omega) ?_
      refine g_s1 (pc := 72) (M' := mt_M_isBlank) dc_M_readLine_72 mo_M_isBlank st_M_isBlank ln_M_75 (Nat.le_of_ble_eq_true rfl) (Nat.le_of_ble_eq_true rfl) (am_G.mono (c_M_isBlank (v := (gx L i))) ?_)
      intro r h1 hq
      rw [hq.1, hq.2]
      clear hq h1 r
      refine ⟨am_nti _, ?_⟩
      refine q_ifb_eq (pc := 75) (tgt := 84) dc_M_readLine_75 rfl (fun hc => absurd hc (by rw [hp]; decide)) (fun hc75 => ?_)
      refine g_iinc (pc := 78) (v := (nI (s + (i + 1)))) dc_M_readLine_78 rfl (q_as s i 1) (by decide) ?_
      show am_G X mt_M_readLine _ 81 [some (.ref 84), none, none, some (.int (nI (s + e0))), some (.int (nI (s + e))), some (.int (nI (s + t))), some (.int (nI (s + (i + 1)))), some (.int (nI (s + t)))] [] _ _
      refine g_goto (pc := 81) (tgt := 58) dc_M_readLine_81 rfl ?_
      exact v58_M_readLine hA hs hX ht n (i + 1) (by omega) K
    · rw [fw_f hp] at K
      refine g_iload (pc := 58) dc_M_readLine_58 rfl ?_
      refine g_iload (pc := 60) dc_M_readLine_60 rfl ?_
      refine q_icmp_ge (pc := 62) (tgt := 84) (s + i) (s + t) dc_M_readLine_62 (by omega) (by omega) rfl (fun hc => absurd hc (by omega)) (fun hc62 => ?_)
      refine g_aload_n (pc := 65) dc_M_readLine_65 rfl ?_
      refine g_getfield (pc := 66) dc_M_readLine_66 fl_M_140 (mp_o hA) rfl ?_
      refine g_iload (pc := 69) dc_M_readLine_69 rfl ?_
      refine q_tx (pc := 71) i dc_M_readLine_71 (mp_a hA 12 rfl) hX hs (by omega) (by omega) ?_
      refine g_s1 (pc := 72) (M' := mt_M_isBlank) dc_M_readLine_72 mo_M_isBlank st_M_isBlank ln_M_75 (Nat.le_of_ble_eq_true rfl) (Nat.le_of_ble_eq_true rfl) (am_G.mono (c_M_isBlank (v := (gx L i))) ?_)
      intro r h1 hq
      rw [hq.1, hq.2]
      clear hq h1 r
      refine ⟨am_nti _, ?_⟩
      refine q_ifb_eq (pc := 75) (tgt := 84) dc_M_readLine_75 rfl (fun hc75 => ?_) (fun hc => absurd hc (hp))
      exact K
theorem v84_M_readLine {Q : Option Value → List va_E → Prop} {S : MS} (hA : A.length = 84) (hs : s + L.length ≤ 24000) (hX : tx S.texts s L) : ∀ n i : Nat, i = f + n → i ≤ L.length → am_G X mt_M_readLine (d + 5) 112 [some (.ref 84), none, none, some (.int (nI (s + e0))), some (.int (nI (s + e))), some (.int (nI (s + t))), some (.int (nI (s + f))), some (.int (nI (s + (bw isBl L f i))))] [] (mput A S B) Q → am_G X mt_M_readLine (d + 5) 84 [some (.ref 84), none, none, some (.int (nI (s + e0))), some (.int (nI (s + e))), some (.int (nI (s + t))), some (.int (nI (s + f))), some (.int (nI (s + i)))] [] (mput A S B) Q
  | 0, i, e9, hl, K => by
    have e1 : bw isBl L f i = i := (bw_0 (by omega)).trans (by omega)
    rw [e1] at K
    refine g_iload (pc := 84) dc_M_readLine_84 rfl ?_
    refine g_iload (pc := 86) dc_M_readLine_86 rfl ?_
    refine q_icmp_le (pc := 88) (tgt := 112) (s + i) (s + f) dc_M_readLine_88 (by omega) (by omega) rfl (fun hc88 => ?_) (fun hc => absurd hc (by omega))
    exact K
  | n + 1, i, e9, hl, K => by
    obtain ⟨j, rfl⟩ : ∃ j, i = j + 1 := ⟨i - 1, by omega⟩
    by_cases hp : isBl (gx L j) = true
    · rw [bw_t (by omega) hp] at K
      refine g_iload (pc := 84) dc_M_readLine_84 rfl ?_
      refine g_iload (pc := 86) dc_M_readLine_86 rfl ?_
      refine q_icmp_le (pc := 88) (tgt := 112) (s + (j + 1)) (s + f) dc_M_readLine_88 (by omega) (by omega) rfl (fun hc => absurd hc (by omega)) (fun hc88 => ?_)
      refine g_aload_n (pc := 91) dc_M_readLine_91 rfl ?_
      refine g_getfield (pc := 92) dc_M_readLine_92 fl_M_140 (mp_o hA) rfl ?_
      refine g_iload (pc := 95) dc_M_readLine_95 rfl ?_
      refine g_iconst (pc := 97) (v := 1) dc_M_readLine_97 rfl ?_
      refine g_isub (pc := 98) (v := (nI (s + j))) dc_M_readLine_98 (q_sn (s := s) (a := j + 1) (b := 1) (by omega)) ?_
      refine q_tx (pc := 99) j dc_M_readLine_99 (mp_a hA 12 rfl) hX hs (by omega) (by omega) ?_
      refine g_s1 (pc := 100) (M' := mt_M_isBlank) dc_M_readLine_100 mo_M_isBlank st_M_isBlank ln_M_75 (Nat.le_of_ble_eq_true rfl) (Nat.le_of_ble_eq_true rfl) (am_G.mono (c_M_isBlank (v := (gx L j))) ?_)
      intro r h1 hq
      rw [hq.1, hq.2]
      clear hq h1 r
      refine ⟨am_nti _, ?_⟩
      refine q_ifb_eq (pc := 103) (tgt := 112) dc_M_readLine_103 rfl (fun hc => absurd hc (by rw [hp]; decide)) (fun hc103 => ?_)
      refine g_iinc (pc := 106) (v := (nI (s + j))) dc_M_readLine_106 rfl (q_sm1 (s := s) (a := j + 1) (by omega)) (by decide) ?_
      show am_G X mt_M_readLine _ 109 [some (.ref 84), none, none, some (.int (nI (s + e0))), some (.int (nI (s + e))), some (.int (nI (s + t))), some (.int (nI (s + f))), some (.int (nI (s + j)))] [] _ _
      refine g_goto (pc := 109) (tgt := 84) dc_M_readLine_109 rfl ?_
      exact v84_M_readLine hA hs hX n j (by omega) (by omega) K
    · rw [bw_f (by omega) hp] at K
      refine g_iload (pc := 84) dc_M_readLine_84 rfl ?_
      refine g_iload (pc := 86) dc_M_readLine_86 rfl ?_
      refine q_icmp_le (pc := 88) (tgt := 112) (s + (j + 1)) (s + f) dc_M_readLine_88 (by omega) (by omega) rfl (fun hc => absurd hc (by omega)) (fun hc88 => ?_)
      refine g_aload_n (pc := 91) dc_M_readLine_91 rfl ?_
      refine g_getfield (pc := 92) dc_M_readLine_92 fl_M_140 (mp_o hA) rfl ?_
      refine g_iload (pc := 95) dc_M_readLine_95 rfl ?_
      refine g_iconst (pc := 97) (v := 1) dc_M_readLine_97 rfl ?_
      refine g_isub (pc := 98) (v := (nI (s + j))) dc_M_readLine_98 (q_sn (s := s) (a := j + 1) (b := 1) (by omega)) ?_
      refine q_tx (pc := 99) j dc_M_readLine_99 (mp_a hA 12 rfl) hX hs (by omega) (by omega) ?_
      refine g_s1 (pc := 100) (M' := mt_M_isBlank) dc_M_readLine_100 mo_M_isBlank st_M_isBlank ln_M_75 (Nat.le_of_ble_eq_true rfl) (Nat.le_of_ble_eq_true rfl) (am_G.mono (c_M_isBlank (v := (gx L j))) ?_)
      intro r h1 hq
      rw [hq.1, hq.2]
      clear hq h1 r
      refine ⟨am_nti _, ?_⟩
      refine q_ifb_eq (pc := 103) (tgt := 112) dc_M_readLine_103 rfl (fun hc103 => ?_) (fun hc => absurd hc (hp))
      exact K
theorem v191_M_readLine {Q : Option Value → List va_E → Prop} {S : MS} (hA : A.length = 84) (hs : s + L.length ≤ 24000) (hX : tx S.texts s L) (ht : t ≤ L.length) : ∀ n i : Nat, i + n = t → am_G X mt_M_readLine (d + 5) 230 [some (.ref 84), none, none, some (.int (nI (s + e0))), none, none, none, none] [] (mput A ((S.s_valueFrom (s + (fw isBl L i t))).s_valueEnd (s + t)) B) Q → am_G X mt_M_readLine (d + 5) 191 [some (.ref 84), none, none, some (.int (nI (s + e0))), none, none, none, none] [] (mput A ((S.s_valueFrom (s + i)).s_valueEnd (s + t)) B) Q
  | 0, i, e9, K => by
    have e1 : fw isBl L i t = i := fw_0 (by omega)
    rw [e1] at K
    refine g_aload_n (pc := 191) dc_M_readLine_191 rfl ?_
    refine g_getfield (pc := 192) dc_M_readLine_192 fl_M_168 (mp_o hA) rfl ?_
    refine g_aload_n (pc := 195) dc_M_readLine_195 rfl ?_
    refine g_getfield (pc := 196) dc_M_readLine_196 fl_M_171 (mp_o hA) rfl ?_
    refine q_icmp_ge (pc := 199) (tgt := 230) (s + i) (s + t) dc_M_readLine_199 (by omega) (by omega) rfl (fun hc199 => ?_) (fun hc => absurd hc (by omega))
    exact K
  | n + 1, i, e9, K => by
    by_cases hp : isBl (gx L i) = true
    · rw [fw_t (by omega) hp] at K
      refine g_aload_n (pc := 191) dc_M_readLine_191 rfl ?_
      refine g_getfield (pc := 192) dc_M_readLine_192 fl_M_168 (mp_o hA) rfl ?_
      refine g_aload_n (pc := 195) dc_M_readLine_195 rfl ?_
      refine g_getfield (pc := 196) dc_M_readLine_196 fl_M_171 (mp_o hA) rfl ?_
      refine q_icmp_ge (pc := 199) (tgt := 230) (s + i) (s + t) dc_M_readLine_199 (by omega) (by omega) rfl (fun hc => absurd hc (by omega)) (fun hc199 => ?_)
      refine g_aload_n (pc := 202) dc_M_readLine_202 rfl ?_
      refine g_getfield (pc := 203) dc_M_readLine_203 fl_M_140 (mp_o hA) rfl ?_
      refine g_aload_n (pc := 206) dc_M_readLine_206 rfl ?_
      refine g_getfield (pc := 207) dc_M_readLine_207 fl_M_168 (mp_o hA) rfl ?_
      refine q_tx (pc := 210) i dc_M_readLine_210 (mp_a hA 12 rfl) hX hs (by omega) (by omega) ?_
      refine g_s1 (pc := 211) (M' := mt_M_isBlank) dc_M_readLine_211 mo_M_isBlank st_M_isBlank ln_M_75 (Nat.le_of_ble_eq_true rfl) (Nat.le_of_ble_eq_true rfl) (am_G.mono (c_M_isBlank (v := (gx L i))) ?_)
      intro r h1 hq
      rw [hq.1, hq.2]
      clear hq h1 r
      refine ⟨am_nti _, ?_⟩
      refine q_ifb_eq (pc := 214) (tgt := 230) dc_M_readLine_214 rfl (fun hc => absurd hc (by rw [hp]; decide)) (fun hc214 => ?_)
      refine g_aload_n (pc := 217) dc_M_readLine_217 rfl ?_
      refine g_dup (pc := 218) dc_M_readLine_218 rfl ?_
      refine g_getfield (pc := 219) dc_M_readLine_219 fl_M_168 (mp_o hA) rfl ?_
      refine g_iconst (pc := 222) (v := 1) dc_M_readLine_222 rfl ?_
      refine g_iadd (pc := 223) (v := (nI (s + (i + 1)))) dc_M_readLine_223 (q_as s i 1) ?_
      refine pf_valueFrom (pc := 224) (v := s + (i + 1)) hA dc_M_readLine_224 fp_M_readLine_168 ?_
      rw [vFE]
      refine g_goto (pc := 227) (tgt := 191) dc_M_readLine_227 rfl ?_
      exact v191_M_readLine hA hs hX ht n (i + 1) (by omega) K
    · rw [fw_f hp] at K
      refine g_aload_n (pc := 191) dc_M_readLine_191 rfl ?_
      refine g_getfield (pc := 192) dc_M_readLine_192 fl_M_168 (mp_o hA) rfl ?_
      refine g_aload_n (pc := 195) dc_M_readLine_195 rfl ?_
      refine g_getfield (pc := 196) dc_M_readLine_196 fl_M_171 (mp_o hA) rfl ?_
      refine q_icmp_ge (pc := 199) (tgt := 230) (s + i) (s + t) dc_M_readLine_199 (by omega) (by omega) rfl (fun hc => absurd hc (by omega)) (fun hc199 => ?_)
      refine g_aload_n (pc := 202) dc_M_readLine_202 rfl ?_
      refine g_getfield (pc := 203) dc_M_readLine_203 fl_M_140 (mp_o hA) rfl ?_
      refine g_aload_n (pc := 206) dc_M_readLine_206 rfl ?_
      refine g_getfield (pc := 207) dc_M_readLine_207 fl_M_168 (mp_o hA) rfl ?_
      refine q_tx (pc := 210) i dc_M_readLine_210 (mp_a hA 12 rfl) hX hs (by omega) (by omega) ?_
      refine g_s1 (pc := 211) (M' := mt_M_isBlank) dc_M_readLine_211 mo_M_isBlank st_M_isBlank ln_M_75 (Nat.le_of_ble_eq_true rfl) (Nat.le_of_ble_eq_true rfl) (am_G.mono (c_M_isBlank (v := (gx L i))) ?_)
      intro r h1 hq
      rw [hq.1, hq.2]
      clear hq h1 r
      refine ⟨am_nti _, ?_⟩
      refine q_ifb_eq (pc := 214) (tgt := 230) dc_M_readLine_214 rfl (fun hc214 => ?_) (fun hc => absurd hc (hp))
      exact K
theorem v230_M_readLine {Q : Option Value → List va_E → Prop} {S : MS} (hA : A.length = 84) (hs : s + L.length ≤ 24000) (hX : tx S.texts s L) : ∀ n i : Nat, i = f + n → i ≤ L.length → am_G X mt_M_readLine (d + 5) 271 [some (.ref 84), none, none, some (.int (nI (s + e0))), none, none, none, none] [] (mput A ((S.s_valueFrom (s + f)).s_valueEnd (s + (bw isBl L f i))) B) Q → am_G X mt_M_readLine (d + 5) 230 [some (.ref 84), none, none, some (.int (nI (s + e0))), none, none, none, none] [] (mput A ((S.s_valueFrom (s + f)).s_valueEnd (s + i)) B) Q
  | 0, i, e9, hl, K => by
    have e1 : bw isBl L f i = i := (bw_0 (by omega)).trans (by omega)
    rw [e1] at K
    refine g_aload_n (pc := 230) dc_M_readLine_230 rfl ?_
    refine g_getfield (pc := 231) dc_M_readLine_231 fl_M_171 (mp_o hA) rfl ?_
    refine g_aload_n (pc := 234) dc_M_readLine_234 rfl ?_
    refine g_getfield (pc := 235) dc_M_readLine_235 fl_M_168 (mp_o hA) rfl ?_
    refine q_icmp_le (pc := 238) (tgt := 271) (s + i) (s + f) dc_M_readLine_238 (by omega) (by omega) rfl (fun hc238 => ?_) (fun hc => absurd hc (by omega))
    exact K
  | n + 1, i, e9, hl, K => by
    obtain ⟨j, rfl⟩ : ∃ j, i = j + 1 := ⟨i - 1, by omega⟩
    by_cases hp : isBl (gx L j) = true
    · rw [bw_t (by omega) hp] at K
      refine g_aload_n (pc := 230) dc_M_readLine_230 rfl ?_
      refine g_getfield (pc := 231) dc_M_readLine_231 fl_M_171 (mp_o hA) rfl ?_
      refine g_aload_n (pc := 234) dc_M_readLine_234 rfl ?_
      refine g_getfield (pc := 235) dc_M_readLine_235 fl_M_168 (mp_o hA) rfl ?_
      refine q_icmp_le (pc := 238) (tgt := 271) (s + (j + 1)) (s + f) dc_M_readLine_238 (by omega) (by omega) rfl (fun hc => absurd hc (by omega)) (fun hc238 => ?_)
      refine g_aload_n (pc := 241) dc_M_readLine_241 rfl ?_
      refine g_getfield (pc := 242) dc_M_readLine_242 fl_M_140 (mp_o hA) rfl ?_
      refine g_aload_n (pc := 245) dc_M_readLine_245 rfl ?_
      refine g_getfield (pc := 246) dc_M_readLine_246 fl_M_171 (mp_o hA) rfl ?_
      refine g_iconst (pc := 249) (v := 1) dc_M_readLine_249 rfl ?_
      refine g_isub (pc := 250) (v := (nI (s + j))) dc_M_readLine_250 (q_sn (s := s) (a := j + 1) (b := 1) (by omega)) ?_
      refine q_tx (pc := 251) j dc_M_readLine_251 (mp_a hA 12 rfl) hX hs (by omega) (by omega) ?_
      refine g_s1 (pc := 252) (M' := mt_M_isBlank) dc_M_readLine_252 mo_M_isBlank st_M_isBlank ln_M_75 (Nat.le_of_ble_eq_true rfl) (Nat.le_of_ble_eq_true rfl) (am_G.mono (c_M_isBlank (v := (gx L j))) ?_)
      intro r h1 hq
      rw [hq.1, hq.2]
      clear hq h1 r
      refine ⟨am_nti _, ?_⟩
      refine q_ifb_eq (pc := 255) (tgt := 271) dc_M_readLine_255 rfl (fun hc => absurd hc (by rw [hp]; decide)) (fun hc255 => ?_)
      refine g_aload_n (pc := 258) dc_M_readLine_258 rfl ?_
      refine g_dup (pc := 259) dc_M_readLine_259 rfl ?_
      refine g_getfield (pc := 260) dc_M_readLine_260 fl_M_171 (mp_o hA) rfl ?_
      refine g_iconst (pc := 263) (v := 1) dc_M_readLine_263 rfl ?_
      refine g_isub (pc := 264) (v := (nI (s + j))) dc_M_readLine_264 (q_sn (s := s) (a := j + 1) (b := 1) (by omega)) ?_
      refine pf_valueEnd (pc := 265) (v := s + j) hA dc_M_readLine_265 fp_M_readLine_171 ?_
      rw [MS.ss_valueEnd]
      refine g_goto (pc := 268) (tgt := 230) dc_M_readLine_268 rfl ?_
      exact v230_M_readLine hA hs hX n j (by omega) (by omega) K
    · rw [bw_f (by omega) hp] at K
      refine g_aload_n (pc := 230) dc_M_readLine_230 rfl ?_
      refine g_getfield (pc := 231) dc_M_readLine_231 fl_M_171 (mp_o hA) rfl ?_
      refine g_aload_n (pc := 234) dc_M_readLine_234 rfl ?_
      refine g_getfield (pc := 235) dc_M_readLine_235 fl_M_168 (mp_o hA) rfl ?_
      refine q_icmp_le (pc := 238) (tgt := 271) (s + (j + 1)) (s + f) dc_M_readLine_238 (by omega) (by omega) rfl (fun hc => absurd hc (by omega)) (fun hc238 => ?_)
      refine g_aload_n (pc := 241) dc_M_readLine_241 rfl ?_
      refine g_getfield (pc := 242) dc_M_readLine_242 fl_M_140 (mp_o hA) rfl ?_
      refine g_aload_n (pc := 245) dc_M_readLine_245 rfl ?_
      refine g_getfield (pc := 246) dc_M_readLine_246 fl_M_171 (mp_o hA) rfl ?_
      refine g_iconst (pc := 249) (v := 1) dc_M_readLine_249 rfl ?_
      refine g_isub (pc := 250) (v := (nI (s + j))) dc_M_readLine_250 (q_sn (s := s) (a := j + 1) (b := 1) (by omega)) ?_
      refine q_tx (pc := 251) j dc_M_readLine_251 (mp_a hA 12 rfl) hX hs (by omega) (by omega) ?_
      refine g_s1 (pc := 252) (M' := mt_M_isBlank) dc_M_readLine_252 mo_M_isBlank st_M_isBlank ln_M_75 (Nat.le_of_ble_eq_true rfl) (Nat.le_of_ble_eq_true rfl) (am_G.mono (c_M_isBlank (v := (gx L j))) ?_)
      intro r h1 hq
      rw [hq.1, hq.2]
      clear hq h1 r
      refine ⟨am_nti _, ?_⟩
      refine q_ifb_eq (pc := 255) (tgt := 271) dc_M_readLine_255 rfl (fun hc255 => ?_) (fun hc => absurd hc (hp))
      exact K
theorem w191_M_readLine {S : MS} (hA : A.length = 84) (hs : s + L.length ≤ 24000) (hX : tx S.texts s L) (hp : p ≤ L.length) (hcs : ¬ rlC L p = rlS L p) (hK : S.key = rlO L p) (he : e0 = rlE L p) : am_G X mt_M_readLine (d + 5) 191 [some (.ref 84), none, none, some (.int (nI (s + e0))), none, none, none, none] [] (mput A ((S.s_valueFrom (s + (rlC L p + 1))).s_valueEnd (s + (rlS L p))) B) (fun r h1 => r = some (.int (nI (s + (rlE L p + 1)))) ∧ ∃ S1, h1 = mput A S1 B ∧ jkA S S1 ∧ rlM S1 s L p) := by
  have hrb := rl_bd (L := L) (p := p) hp
  have hvw := rl_vw (L := L) (p := p) (by omega)
  refine v191_M_readLine hA hs hX (by omega) (rlS L p - (rlC L p + 1)) (rlC L p + 1) (by omega) ?_
  rw [show fw isBl L (rlC L p + 1) (rlS L p) = rlV L p from rfl]
  refine v230_M_readLine hA hs hX (rlS L p - rlV L p) (rlS L p) (by omega) (by omega) ?_
  rw [show bw isBl L (rlV L p) (rlS L p) = rlW L p from rfl]
  subst he
  refine g_iload_n (pc := 271) dc_M_readLine_271 rfl ?_
  refine g_iconst (pc := 272) (v := 1) dc_M_readLine_272 rfl ?_
  refine g_iadd (pc := 273) (v := (nI (s + (rlE L p + 1)))) dc_M_readLine_273 (q_as s (rlE L p) 1) ?_
  exact g_ireturn dc_M_readLine_274 rfl ⟨rfl, _, rfl, (jkA.s_valueFrom _ _).tr (jkA.s_valueEnd _ _), hK, fun _ => ⟨rfl, rfl⟩⟩
theorem c_M_readLine {S : MS} (hA : A.length = 84) (hs : s + L.length ≤ 24000) (hX : tx S.texts s L) (hp : p ≤ L.length) : am_C X mt_M_readLine (d + 5) [.ref 84, .int (nI (s + p)), .int (nI (s + L.length))] (mput A S B) (fun r h1 => r = some (.int (nI (s + (rlE L p + 1)))) ∧ ∃ S1, h1 = mput A S1 B ∧ jkA S S1 ∧ rlM S1 s L p) := by
  show am_G X mt_M_readLine (d + 5) 0 [some (.ref 84), some (.int (nI (s + p))), some (.int (nI (s + L.length))), none, none, none, none, none] [] (mput A S B) _
  have hrb := rl_bd (L := L) (p := p) hp
  refine g_aload_n (pc := 0) dc_M_readLine_0 rfl ?_
  refine g_getfield (pc := 1) dc_M_readLine_1 fl_M_140 (mp_o hA) rfl ?_
  refine g_iload_n (pc := 4) dc_M_readLine_4 rfl ?_
  refine g_iload_n (pc := 5) dc_M_readLine_5 rfl ?_
  refine g_bipush (pc := 6) (v := 10) dc_M_readLine_6 rfl ?_
  refine g_s4 (pc := 8) (M' := mt_M_seek) dc_M_readLine_8 mo_M_seek st_M_seek ln_M_48 (Nat.le_of_ble_eq_true rfl) (Nat.le_of_ble_eq_true rfl) (am_G.mono (t_M_seek (v := 10) (f := p) (t := L.length) (tt_txt hA hX hs) (by omega) (by omega)) ?_)
  intro r h1 hq
  rw [hq.1, hq.2]
  clear hq h1 r
  refine ⟨am_nti _, ?_⟩
  rw [show fw (nev 10) L p L.length = rlE L p from rfl]
  refine g_istore_n (pc := 11) dc_M_readLine_11 (by decide) ?_
  show am_G X mt_M_readLine _ 12 [some (.ref 84), some (.int (nI (s + p))), some (.int (nI (s + L.length))), some (.int (nI (s + (rlE L p)))), none, none, none, none] [] _ _
  refine g_aload_n (pc := 12) dc_M_readLine_12 rfl ?_
  refine g_getfield (pc := 13) dc_M_readLine_13 fl_M_140 (mp_o hA) rfl ?_
  refine g_iload_n (pc := 16) dc_M_readLine_16 rfl ?_
  refine g_iload_n (pc := 17) dc_M_readLine_17 rfl ?_
  refine g_bipush (pc := 18) (v := 35) dc_M_readLine_18 rfl ?_
  refine g_s4 (pc := 20) (M' := mt_M_seek) dc_M_readLine_20 mo_M_seek st_M_seek ln_M_48 (Nat.le_of_ble_eq_true rfl) (Nat.le_of_ble_eq_true rfl) (am_G.mono (t_M_seek (v := 35) (f := p) (t := rlE L p) (tt_txt hA hX hs) (by omega) (by omega)) ?_)
  intro r h1 hq
  rw [hq.1, hq.2]
  clear hq h1 r
  refine ⟨am_nti _, ?_⟩
  rw [show fw (nev 35) L p (rlE L p) = rlS L p from rfl]
  refine g_istore (pc := 23) dc_M_readLine_23 (by decide) ?_
  show am_G X mt_M_readLine _ 25 [some (.ref 84), some (.int (nI (s + p))), some (.int (nI (s + L.length))), some (.int (nI (s + (rlE L p)))), some (.int (nI (s + (rlS L p)))), none, none, none] [] _ _
  refine g_aload_n (pc := 25) dc_M_readLine_25 rfl ?_
  refine g_iconst (pc := 26) (v := (-1)) dc_M_readLine_26 rfl ?_
  refine pf_key (pc := 27) (v := none) hA dc_M_readLine_27 fp_M_readLine_159 ?_
  refine g_aload_n (pc := 30) dc_M_readLine_30 rfl ?_
  refine g_getfield (pc := 31) dc_M_readLine_31 fl_M_140 (mp_o hA) rfl ?_
  refine g_iload_n (pc := 34) dc_M_readLine_34 rfl ?_
  refine g_iload (pc := 35) dc_M_readLine_35 rfl ?_
  refine g_bipush (pc := 37) (v := 58) dc_M_readLine_37 rfl ?_
  refine g_s4 (pc := 39) (M' := mt_M_seek) dc_M_readLine_39 mo_M_seek st_M_seek ln_M_48 (Nat.le_of_ble_eq_true rfl) (Nat.le_of_ble_eq_true rfl) (am_G.mono (t_M_seek (v := 58) (f := p) (t := rlS L p) (tt_txt hA hX hs) (by omega) (by omega)) ?_)
  intro r h1 hq
  rw [hq.1, hq.2]
  clear hq h1 r
  refine ⟨am_nti _, ?_⟩
  rw [show fw (nev 58) L p (rlS L p) = rlC L p from rfl]
  refine g_istore (pc := 42) dc_M_readLine_42 (by decide) ?_
  show am_G X mt_M_readLine _ 44 [some (.ref 84), some (.int (nI (s + p))), some (.int (nI (s + L.length))), some (.int (nI (s + (rlE L p)))), some (.int (nI (s + (rlS L p)))), some (.int (nI (s + (rlC L p)))), none, none] [] _ _
  refine g_iload (pc := 44) dc_M_readLine_44 rfl ?_
  refine g_iload (pc := 46) dc_M_readLine_46 rfl ?_
  refine q_icmp_ge (pc := 48) (tgt := 271) (s + (rlC L p)) (s + (rlS L p)) dc_M_readLine_48 (by omega) (by omega) rfl (fun hc48 => ?_) (fun hc48 => ?_)
  · refine g_iload_n (pc := 271) dc_M_readLine_271 rfl ?_
    refine g_iconst (pc := 272) (v := 1) dc_M_readLine_272 rfl ?_
    refine g_iadd (pc := 273) (v := (nI (s + (rlE L p + 1)))) dc_M_readLine_273 (q_as s (rlE L p) 1) ?_
    exact g_ireturn dc_M_readLine_274 rfl ⟨rfl, _, rfl, jkA.s_key _ _, by show (none : Option Nat) = rlO L p; unfold rlO rlK; rw [if_pos (show rlC L p = rlS L p by omega)]; rfl, fun h9 => absurd (show rlC L p = rlS L p by omega) h9⟩
  · refine g_iload_n (pc := 51) dc_M_readLine_51 rfl ?_
    refine g_istore (pc := 52) dc_M_readLine_52 (by decide) ?_
    show am_G X mt_M_readLine _ 54 [some (.ref 84), some (.int (nI (s + p))), some (.int (nI (s + L.length))), some (.int (nI (s + (rlE L p)))), some (.int (nI (s + (rlS L p)))), some (.int (nI (s + (rlC L p)))), some (.int (nI (s + p))), none] [] _ _
    refine g_iload (pc := 54) dc_M_readLine_54 rfl ?_
    refine g_istore (pc := 56) dc_M_readLine_56 (by decide) ?_
    show am_G X mt_M_readLine _ 58 [some (.ref 84), some (.int (nI (s + p))), some (.int (nI (s + L.length))), some (.int (nI (s + (rlE L p)))), some (.int (nI (s + (rlS L p)))), some (.int (nI (s + (rlC L p)))), some (.int (nI (s + p))), some (.int (nI (s + (rlC L p))))] [] _ _
    have hvw := rl_vw (L := L) (p := p) (by omega)
    have hcs : ¬ rlC L p = rlS L p := by omega
    refine am_wk (am_le_s (am_le_n (am_le_n (am_le_s (am_le_s (am_le_s (am_le_s (am_le_s am_le_0)))))))) ?_
    refine v58_M_readLine (S := S.s_key none) hA hs hX (by omega) (rlC L p - p) p (by omega) ?_
    rw [show fw isBl L p (rlC L p) = rlF L p from rfl]
    refine v84_M_readLine (S := S.s_key none) (f := rlF L p) hA hs hX (rlC L p - rlF L p) (rlC L p) (by omega) (by omega) ?_
    rw [show bw isBl L (rlF L p) (rlC L p) = rlG L p from rfl]
    refine g_aload_n (pc := 112) dc_M_readLine_112 rfl ?_
    refine g_aload_n (pc := 113) dc_M_readLine_113 rfl ?_
    refine g_getfield (pc := 114) dc_M_readLine_114 fl_M_140 (mp_o hA) rfl ?_
    refine g_iload (pc := 117) dc_M_readLine_117 rfl ?_
    refine g_iload (pc := 119) dc_M_readLine_119 rfl ?_
    refine g_ldcS (pc := 121) 31 dc_M_readLine_121 (by decide) rfl rfl ?_
    refine g_s4 (pc := 123) (M' := mt_M_isWord) dc_M_readLine_123 mo_M_isWord st_M_isWord ln_M_83 (Nat.le_of_ble_eq_true rfl) (Nat.le_of_ble_eq_true rfl) (am_G.mono (t_M_isWord (i := 31) (f := rlF L p) (t := rlG L p) (tt_txt hA hX hs) (by decide) (by omega) (by omega)) ?_)
    intro r h1 hz
    rw [hz.1, hz.2, isw_31]
    clear hz h1 r
    refine ⟨am_nti _, ?_⟩
    refine q_ifb_eq (pc := 126) (tgt := 133) dc_M_readLine_126 rfl (fun hc126 => ?_) (fun hc126 => ?_)
    · refine g_aload_n (pc := 133) dc_M_readLine_133 rfl ?_
      refine g_getfield (pc := 134) dc_M_readLine_134 fl_M_140 (mp_o hA) rfl ?_
      refine g_iload (pc := 137) dc_M_readLine_137 rfl ?_
      refine g_iload (pc := 139) dc_M_readLine_139 rfl ?_
      refine g_ldcS (pc := 141) 32 dc_M_readLine_141 (by decide) rfl rfl ?_
      refine g_s4 (pc := 143) (M' := mt_M_isWord) dc_M_readLine_143 mo_M_isWord st_M_isWord ln_M_83 (Nat.le_of_ble_eq_true rfl) (Nat.le_of_ble_eq_true rfl) (am_G.mono (t_M_isWord (i := 32) (f := rlF L p) (t := rlG L p) (tt_txt hA hX hs) (by decide) (by omega) (by omega)) ?_)
      intro r h1 hz
      rw [hz.1, hz.2, isw_32]
      clear hz h1 r
      refine ⟨am_nti _, ?_⟩
      refine q_ifb_eq (pc := 146) (tgt := 153) dc_M_readLine_146 rfl (fun hc146 => ?_) (fun hc146 => ?_)
      · refine g_aload_n (pc := 153) dc_M_readLine_153 rfl ?_
        refine g_getfield (pc := 154) dc_M_readLine_154 fl_M_140 (mp_o hA) rfl ?_
        refine g_iload (pc := 157) dc_M_readLine_157 rfl ?_
        refine g_iload (pc := 159) dc_M_readLine_159 rfl ?_
        refine g_ldcS (pc := 161) 33 dc_M_readLine_161 (by decide) rfl rfl ?_
        refine g_s4 (pc := 163) (M' := mt_M_isWord) dc_M_readLine_163 mo_M_isWord st_M_isWord ln_M_83 (Nat.le_of_ble_eq_true rfl) (Nat.le_of_ble_eq_true rfl) (am_G.mono (t_M_isWord (i := 33) (f := rlF L p) (t := rlG L p) (tt_txt hA hX hs) (by decide) (by omega) (by omega)) ?_)
        intro r h1 hz
        rw [hz.1, hz.2, isw_33]
        clear hz h1 r
        refine ⟨am_nti _, ?_⟩
        refine q_ifb_eq (pc := 166) (tgt := 173) dc_M_readLine_166 rfl (fun hc166 => ?_) (fun hc166 => ?_)
        · refine g_iconst (pc := 173) (v := (-1)) dc_M_readLine_173 rfl ?_
          refine pf_key (pc := 174) (v := none) hA dc_M_readLine_174 fp_M_readLine_159 ?_
          rw [MS.ss_key]
          refine g_aload_n (pc := 177) dc_M_readLine_177 rfl ?_
          refine g_iload (pc := 178) dc_M_readLine_178 rfl ?_
          refine g_iconst (pc := 180) (v := 1) dc_M_readLine_180 rfl ?_
          refine g_iadd (pc := 181) (v := (nI (s + (rlC L p + 1)))) dc_M_readLine_181 (q_as s (rlC L p) 1) ?_
          refine pf_valueFrom (pc := 182) (v := s + (rlC L p + 1)) hA dc_M_readLine_182 fp_M_readLine_168 ?_
          refine g_aload_n (pc := 185) dc_M_readLine_185 rfl ?_
          refine g_iload (pc := 186) dc_M_readLine_186 rfl ?_
          refine pf_valueEnd (pc := 188) (v := s + (rlS L p)) hA dc_M_readLine_188 fp_M_readLine_171 ?_
          have hkk : rlK L p = 3 := by unfold rlK; rw [if_neg hcs, if_neg (by rw [hc126]; decide), if_neg (by rw [hc146]; decide), if_neg (by rw [hc166]; decide)]
          have hOk : (none : Option Nat) = rlO L p := by unfold rlO; rw [hkk]; rfl
          refine am_wk (am_le_s (am_le_n (am_le_n (am_le_s (am_le_n (am_le_n (am_le_n (am_le_n am_le_0)))))))) ?_
          refine am_G.mono (w191_M_readLine (S := (S.s_key none)) hA hs hX hp hcs hOk rfl) (fun r h1 hz => ?_)
          obtain ⟨y1, S1, y2, y3, y4⟩ := hz
          exact ⟨y1, S1, y2, jkA.tr (jkA.s_key _ _) y3, y4⟩
        · refine g_iconst (pc := 169) (v := 2) dc_M_readLine_169 rfl ?_
          refine g_goto (pc := 170) (tgt := 174) dc_M_readLine_170 rfl ?_
          refine pf_key (pc := 174) (v := some 2) hA dc_M_readLine_174 fp_M_readLine_159 ?_
          rw [MS.ss_key]
          refine g_aload_n (pc := 177) dc_M_readLine_177 rfl ?_
          refine g_iload (pc := 178) dc_M_readLine_178 rfl ?_
          refine g_iconst (pc := 180) (v := 1) dc_M_readLine_180 rfl ?_
          refine g_iadd (pc := 181) (v := (nI (s + (rlC L p + 1)))) dc_M_readLine_181 (q_as s (rlC L p) 1) ?_
          refine pf_valueFrom (pc := 182) (v := s + (rlC L p + 1)) hA dc_M_readLine_182 fp_M_readLine_168 ?_
          refine g_aload_n (pc := 185) dc_M_readLine_185 rfl ?_
          refine g_iload (pc := 186) dc_M_readLine_186 rfl ?_
          refine pf_valueEnd (pc := 188) (v := s + (rlS L p)) hA dc_M_readLine_188 fp_M_readLine_171 ?_
          have hkk : rlK L p = 2 := by unfold rlK; rw [if_neg hcs, if_neg (by rw [hc126]; decide), if_neg (by rw [hc146]; decide), if_pos hc166]
          have hOk : (some 2 : Option Nat) = rlO L p := by unfold rlO; rw [hkk]; rfl
          refine am_wk (am_le_s (am_le_n (am_le_n (am_le_s (am_le_n (am_le_n (am_le_n (am_le_n am_le_0)))))))) ?_
          refine am_G.mono (w191_M_readLine (S := (S.s_key (some 2))) hA hs hX hp hcs hOk rfl) (fun r h1 hz => ?_)
          obtain ⟨y1, S1, y2, y3, y4⟩ := hz
          exact ⟨y1, S1, y2, jkA.tr (jkA.s_key _ _) y3, y4⟩
      · refine g_iconst (pc := 149) (v := 1) dc_M_readLine_149 rfl ?_
        refine g_goto (pc := 150) (tgt := 174) dc_M_readLine_150 rfl ?_
        refine pf_key (pc := 174) (v := some 1) hA dc_M_readLine_174 fp_M_readLine_159 ?_
        rw [MS.ss_key]
        refine g_aload_n (pc := 177) dc_M_readLine_177 rfl ?_
        refine g_iload (pc := 178) dc_M_readLine_178 rfl ?_
        refine g_iconst (pc := 180) (v := 1) dc_M_readLine_180 rfl ?_
        refine g_iadd (pc := 181) (v := (nI (s + (rlC L p + 1)))) dc_M_readLine_181 (q_as s (rlC L p) 1) ?_
        refine pf_valueFrom (pc := 182) (v := s + (rlC L p + 1)) hA dc_M_readLine_182 fp_M_readLine_168 ?_
        refine g_aload_n (pc := 185) dc_M_readLine_185 rfl ?_
        refine g_iload (pc := 186) dc_M_readLine_186 rfl ?_
        refine pf_valueEnd (pc := 188) (v := s + (rlS L p)) hA dc_M_readLine_188 fp_M_readLine_171 ?_
        have hkk : rlK L p = 1 := by unfold rlK; rw [if_neg hcs, if_neg (by rw [hc126]; decide), if_pos hc146]
        have hOk : (some 1 : Option Nat) = rlO L p := by unfold rlO; rw [hkk]; rfl
        refine am_wk (am_le_s (am_le_n (am_le_n (am_le_s (am_le_n (am_le_n (am_le_n (am_le_n am_le_0)))))))) ?_
        refine am_G.mono (w191_M_readLine (S := (S.s_key (some 1))) hA hs hX hp hcs hOk rfl) (fun r h1 hz => ?_)
        obtain ⟨y1, S1, y2, y3, y4⟩ := hz
        exact ⟨y1, S1, y2, jkA.tr (jkA.s_key _ _) y3, y4⟩
    · refine g_iconst (pc := 129) (v := 0) dc_M_readLine_129 rfl ?_
      refine g_goto (pc := 130) (tgt := 174) dc_M_readLine_130 rfl ?_
      refine pf_key (pc := 174) (v := some 0) hA dc_M_readLine_174 fp_M_readLine_159 ?_
      rw [MS.ss_key]
      refine g_aload_n (pc := 177) dc_M_readLine_177 rfl ?_
      refine g_iload (pc := 178) dc_M_readLine_178 rfl ?_
      refine g_iconst (pc := 180) (v := 1) dc_M_readLine_180 rfl ?_
      refine g_iadd (pc := 181) (v := (nI (s + (rlC L p + 1)))) dc_M_readLine_181 (q_as s (rlC L p) 1) ?_
      refine pf_valueFrom (pc := 182) (v := s + (rlC L p + 1)) hA dc_M_readLine_182 fp_M_readLine_168 ?_
      refine g_aload_n (pc := 185) dc_M_readLine_185 rfl ?_
      refine g_iload (pc := 186) dc_M_readLine_186 rfl ?_
      refine pf_valueEnd (pc := 188) (v := s + (rlS L p)) hA dc_M_readLine_188 fp_M_readLine_171 ?_
      have hkk : rlK L p = 0 := by unfold rlK; rw [if_neg hcs, if_pos hc126]
      have hOk : (some 0 : Option Nat) = rlO L p := by unfold rlO; rw [hkk]; rfl
      refine am_wk (am_le_s (am_le_n (am_le_n (am_le_s (am_le_n (am_le_n (am_le_n (am_le_n am_le_0)))))))) ?_
      refine am_G.mono (w191_M_readLine (S := (S.s_key (some 0))) hA hs hX hp hcs hOk rfl) (fun r h1 hz => ?_)
      obtain ⟨y1, S1, y2, y3, y4⟩ := hz
      exact ⟨y1, S1, y2, jkA.tr (jkA.s_key _ _) y3, y4⟩
theorem isw_st {L : List Int32} {f t : Nat} : isw 15 L f t = true ↔ t - f = 1 ∧ gx L f = 42 := by
  unfold isw
  rw [decide_eq_true_eq, show cln 15 = 1 from rfl]
  have k0 : toLo (gx L (f + 0)) = ch 15 0 ↔ gx L f = 42 := toLo_k (k := 42) (by decide) (by decide)
  exact ⟨fun h => ⟨h.1, k0.mp (h.2 0 (by omega))⟩, fun h => ⟨h.1, fun j hj => by obtain rfl : j = 0 := (by omega); exact k0.mpr h.2⟩⟩
theorem c1_M_isAgent {S : MS} (hA : A.length = 84) (hs : s + L.length ≤ 24000) (hX : tx S.texts s L) (h1 : S.valueFrom = s + f) (h2 : S.valueEnd = s + t) (hft : f ≤ t) (ht : t ≤ L.length) : am_C X mt_M_isAgent (d + 5) [.ref 84, .int 1] (mput A S B) (fun r h1 => r = some (.int (b1 (isw 15 L f t))) ∧ h1 = mput A S B) := by
  show am_G X mt_M_isAgent (d + 5) 0 [some (.ref 84), some (.int 1)] [] (mput A S B) _
  refine g_iload_n (pc := 0) dc_M_isAgent_0 rfl ?_
  refine g_if_eq (pc := 1) (tgt := 39) dc_M_isAgent_1 rfl (fun hc => absurd hc (by decide)) (fun _ => ?_)
  refine g_aload_n (pc := 4) dc_M_isAgent_4 rfl ?_
  refine g_getfield (pc := 5) (v := .int (nI (s + t))) dc_M_isAgent_5 fl_M_171 (mp_o hA) (congrArg (fun z => some (Value.int (nI z))) h2) ?_
  refine g_aload_n (pc := 8) dc_M_isAgent_8 rfl ?_
  refine g_getfield (pc := 9) (v := .int (nI (s + f))) dc_M_isAgent_9 fl_M_168 (mp_o hA) (congrArg (fun z => some (Value.int (nI z))) h1) ?_
  refine g_isub (pc := 12) (v := (nI (t - f))) dc_M_isAgent_12 (q_ss (s := s) (a := t) (b := f) (by omega)) ?_
  refine g_iconst (pc := 13) (v := 1) dc_M_isAgent_13 rfl ?_
  refine q_icmp_ne (pc := 14) (tgt := 35) (t - f) 1 dc_M_isAgent_14 (by omega) (by omega) rfl (fun hc14 => ?_) (fun hc14 => ?_)
  · refine g_iconst (pc := 35) (v := 0) dc_M_isAgent_35 rfl ?_
    refine g_goto (pc := 36) (tgt := 56) dc_M_isAgent_36 rfl ?_
    exact g_zreturn dc_M_isAgent_56 rfl rfl ⟨by rw [show isw 15 L f t = false from by cases h9 : isw 15 L f t with | false => rfl | true => exact absurd h9 (fun h9 => absurd (isw_st.mp h9).1 (by omega))]; rfl, rfl⟩
  · refine g_aload_n (pc := 17) dc_M_isAgent_17 rfl ?_
    refine g_getfield (pc := 18) dc_M_isAgent_18 fl_M_140 (mp_o hA) rfl ?_
    refine g_aload_n (pc := 21) dc_M_isAgent_21 rfl ?_
    refine g_getfield (pc := 22) (v := .int (nI (s + f))) dc_M_isAgent_22 fl_M_168 (mp_o hA) (congrArg (fun z => some (Value.int (nI z))) h1) ?_
    refine q_tx (pc := 25) f dc_M_isAgent_25 (mp_a hA 12 rfl) hX hs (by omega) (by omega) ?_
    refine g_bipush (pc := 26) (v := 42) dc_M_isAgent_26 rfl ?_
    refine g_icmp_ne (pc := 28) (tgt := 35) dc_M_isAgent_28 rfl (fun hc28 => ?_) (fun hc28 => ?_)
    · refine g_iconst (pc := 35) (v := 0) dc_M_isAgent_35 rfl ?_
      refine g_goto (pc := 36) (tgt := 56) dc_M_isAgent_36 rfl ?_
      exact g_zreturn dc_M_isAgent_56 rfl rfl ⟨by rw [show isw 15 L f t = false from by cases h9 : isw 15 L f t with | false => rfl | true => exact absurd h9 (fun h9 => hc28 (isw_st.mp h9).2)]; rfl, rfl⟩
    · refine g_iconst (pc := 31) (v := 1) dc_M_isAgent_31 rfl ?_
      refine g_goto (pc := 32) (tgt := 56) dc_M_isAgent_32 rfl ?_
      exact g_zreturn dc_M_isAgent_56 rfl rfl ⟨by rw [isw_st.mpr ⟨by omega, hc28⟩]; rfl, rfl⟩
theorem c0_M_isAgent {S : MS} (hA : A.length = 84) (hs : s + L.length ≤ 24000) (hX : tx S.texts s L) (h1 : S.valueFrom = s + f) (h2 : S.valueEnd = s + t) (hft : f ≤ t) (ht : t ≤ L.length) : am_C X mt_M_isAgent (d + 5) [.ref 84, .int 0] (mput A S B) (fun r h1 => r = some (.int (b1 (isw 11 L f t))) ∧ h1 = mput A S B) := by
  show am_G X mt_M_isAgent (d + 5) 0 [some (.ref 84), some (.int 0)] [] (mput A S B) _
  refine g_iload_n (pc := 0) dc_M_isAgent_0 rfl ?_
  refine g_if_eq (pc := 1) (tgt := 39) dc_M_isAgent_1 rfl (fun _ => ?_) (fun hc => absurd hc (by decide))
  refine g_aload_n (pc := 39) dc_M_isAgent_39 rfl ?_
  refine g_getfield (pc := 40) dc_M_isAgent_40 fl_M_140 (mp_o hA) rfl ?_
  refine g_aload_n (pc := 43) dc_M_isAgent_43 rfl ?_
  refine g_getfield (pc := 44) (v := .int (nI (s + f))) dc_M_isAgent_44 fl_M_168 (mp_o hA) (congrArg (fun z => some (Value.int (nI z))) h1) ?_
  refine g_aload_n (pc := 47) dc_M_isAgent_47 rfl ?_
  refine g_getfield (pc := 48) (v := .int (nI (s + t))) dc_M_isAgent_48 fl_M_171 (mp_o hA) (congrArg (fun z => some (Value.int (nI z))) h2) ?_
  refine g_ldcS (pc := 51) 34 dc_M_isAgent_51 (by decide) rfl rfl ?_
  refine g_s4 (pc := 53) (M' := mt_M_isWord) dc_M_isAgent_53 mo_M_isWord st_M_isWord ln_M_83 (Nat.le_of_ble_eq_true rfl) (Nat.le_of_ble_eq_true rfl) (am_G.mono (t_M_isWord (i := 34) (f := f) (t := t) (tt_txt hA hX hs) (by decide) (by omega) (by omega)) ?_)
  intro r h1 hz
  rw [hz.1, hz.2, isw_34]
  clear hz h1 r
  refine ⟨am_nti _, ?_⟩
  exact g_zreturn dc_M_isAgent_56 rfl b1_z ⟨rfl, rfl⟩
def hfd (L : List Int32) (l : List Nat) : Bool := l.any (fun p => decide (rlK L p = 0) && isw 11 L (rlV L p) (rlW L p))
def tyT (S : MS) (j s : Nat) (L : List Int32) : Prop := tx S.texts s L ∧ S.textAt j = nI s ∧ S.textEnd j = nI (s + L.length)
theorem tyT.j {S S1 : MS} {j s : Nat} {L : List Int32} (h : tyT S j s L) (e : jkA S S1) : tyT S1 j s L := by
  unfold tyT at h ⊢
  rw [e.texts, e.textAt, e.textEnd]
  exact h
theorem rlK_c {L : List Int32} {p : Nat} (h : ¬ rlK L p = 3) : ¬ rlC L p = rlS L p := fun h9 => h (if_pos h9)
theorem rlK_b (L : List Int32) (p : Nat) : rlK L p ≤ 3 := by
  unfold rlK
  (repeat' split) <;> omega
theorem l_M_hasFinder {j : Nat} (hA : A.length = 84) (hs : s + L.length ≤ 24000) (hj : j < 1100) : ∀ (n p : Nat) (S : MS) (b : Bool), L.length - p ≤ n → p ≤ L.length + 1 → tyT S j s L → am_G X mt_M_hasFinder (d + 6) 9 [some (.ref 84), some (.int (nI j)), some (.int (b1 b)), some (.int (nI (s + p)))] [] (mput A S B) (fun r h1 => r = some (.int (b1 (b || hfd L (lns L n p)))) ∧ ∃ S1, h1 = mput A S1 B ∧ jkA S S1)
  | 0, p, S, b, hm, hp1, hX => by
    refine g_iload_n (pc := 9) dc_M_hasFinder_9 rfl ?_
    refine g_aload_n (pc := 10) dc_M_hasFinder_10 rfl ?_
    refine g_getfield (pc := 11) dc_M_hasFinder_11 fl_M_146 (mp_o hA) rfl ?_
    refine g_iload_n (pc := 14) dc_M_hasFinder_14 rfl ?_
    refine q_ialoadV (pc := 15) j dc_M_hasFinder_15 (mp_a hA 14 rfl) (by omega) (by omega) (v := (nI (s + L.length))) hX.2.2 ?_
    refine q_icmp_ge (pc := 16) (tgt := 59) (s + p) (s + L.length) dc_M_hasFinder_16 (by omega) (by omega) rfl (fun hc16 => ?_) (fun hc => absurd hc (by omega))
    refine g_iload_n (pc := 59) dc_M_hasFinder_59 rfl ?_
    exact g_zreturn dc_M_hasFinder_60 rfl b1_z ⟨by rw [show lns L 0 p = [] from rfl, show hfd L [] = false from rfl, Bool.or_false], S, rfl, jkA.rf S⟩
  | n + 1, p, S, b, hm, hp1, hX => by
    by_cases hp : p < L.length
    · have hrb := rl_bd (L := L) (p := p) (by omega)
      rw [lns_s hp]
      refine g_iload_n (pc := 9) dc_M_hasFinder_9 rfl ?_
      refine g_aload_n (pc := 10) dc_M_hasFinder_10 rfl ?_
      refine g_getfield (pc := 11) dc_M_hasFinder_11 fl_M_146 (mp_o hA) rfl ?_
      refine g_iload_n (pc := 14) dc_M_hasFinder_14 rfl ?_
      refine q_ialoadV (pc := 15) j dc_M_hasFinder_15 (mp_a hA 14 rfl) (by omega) (by omega) (v := (nI (s + L.length))) hX.2.2 ?_
      refine q_icmp_ge (pc := 16) (tgt := 59) (s + p) (s + L.length) dc_M_hasFinder_16 (by omega) (by omega) rfl (fun hc => absurd hc (by omega)) (fun hc16 => ?_)
      refine g_aload_n (pc := 19) dc_M_hasFinder_19 rfl ?_
      refine g_iload_n (pc := 20) dc_M_hasFinder_20 rfl ?_
      refine g_aload_n (pc := 21) dc_M_hasFinder_21 rfl ?_
      refine g_getfield (pc := 22) dc_M_hasFinder_22 fl_M_146 (mp_o hA) rfl ?_
      refine g_iload_n (pc := 25) dc_M_hasFinder_25 rfl ?_
      refine q_ialoadV (pc := 26) j dc_M_hasFinder_26 (mp_a hA 14 rfl) (by omega) (by omega) (v := (nI (s + L.length))) hX.2.2 ?_
      refine g_v2 (pc := 27) (M' := mt_M_readLine) dc_M_hasFinder_27 mo_M_readLine im_M_readLine se_M_readLine ln_M_176 (mp_o hA) rfl rfl (Nat.le_of_ble_eq_true rfl) (Nat.le_of_ble_eq_true rfl) (am_G.mono (c_M_readLine (d := d) hA hs hX.1 (show p ≤ L.length by omega)) ?_)
      intro r h1 hz
      obtain ⟨hz1, S2, hz2, hz3, hz4⟩ := hz
      rw [hz1, hz2]
      clear hz1 hz2 h1 r
      have hX2 := hX.j hz3
      refine ⟨am_nti _, ?_⟩
      refine g_istore_n (pc := 30) dc_M_hasFinder_30 (by decide) ?_
      show am_G X mt_M_hasFinder _ 31 [some (.ref 84), some (.int (nI j)), some (.int (b1 b)), some (.int (nI (s + (rlE L p + 1))))] [] _ _
      refine g_iload_n (pc := 31) dc_M_hasFinder_31 rfl ?_
      refine q_ifb_ne (pc := 32) (tgt := 50) dc_M_hasFinder_32 rfl (fun hc32 => ?_) (fun hc32 => ?_)
      · refine g_iconst (pc := 50) (v := 1) dc_M_hasFinder_50 rfl ?_
        refine g_goto (pc := 51) (tgt := 55) dc_M_hasFinder_51 rfl ?_
        refine g_istore_n (pc := 55) dc_M_hasFinder_55 (by decide) ?_
        show am_G X mt_M_hasFinder _ 56 [some (.ref 84), some (.int (nI j)), some (.int 1), some (.int (nI (s + (rlE L p + 1))))] [] _ _
        refine g_goto (pc := 56) (tgt := 9) dc_M_hasFinder_56 rfl ?_
        have hb9 : (b || hfd L (p :: lns L n (rlE L p + 1))) = (true || hfd L (lns L n (rlE L p + 1))) := by rw [hc32, Bool.true_or, Bool.true_or]
        rw [hb9]
        refine am_G.mono (l_M_hasFinder hA hs hj n (rlE L p + 1) S2 true (by omega) (by omega) hX2) (fun r h1 hz => ?_)
        obtain ⟨y1, S1, y2, y3⟩ := hz
        exact ⟨y1, S1, y2, jkA.tr hz3 y3⟩
      · refine g_aload_n (pc := 35) dc_M_hasFinder_35 rfl ?_
        refine g_getfield (pc := 36) (v := .int (er (rlO L p))) dc_M_hasFinder_36 fl_M_159 (mp_o hA) (congrArg (fun z => some (Value.int (er z))) hz4.1) ?_
        by_cases hk0 : rlK L p = 0
        · have hko : rlO L p = some 0 := by unfold rlO; rw [hk0]; rfl
          rw [hko]
          have hcs := rlK_c (L := L) (p := p) (by rw [hk0]; decide)
          have hvw := rl_vw (L := L) (p := p) (by omega)
          show am_G X mt_M_hasFinder (d + 6) 39 [some (.ref 84), some (.int (nI j)), some (.int (b1 b)), some (.int (nI (s + (rlE L p + 1))))] [.int 0] (mput A S2 B) _
          refine g_if_ne (pc := 39) (tgt := 54) dc_M_hasFinder_39 rfl (fun hc => absurd hc (by decide)) (fun _ => ?_)
          refine g_aload_n (pc := 42) dc_M_hasFinder_42 rfl ?_
          refine g_iconst (pc := 43) (v := 0) dc_M_hasFinder_43 rfl ?_
          refine g_v1 (pc := 44) (M' := mt_M_isAgent) dc_M_hasFinder_44 mo_M_isAgent im_M_isAgent se_M_isAgent ln_M_180 (mp_o hA) rfl rfl (Nat.le_of_ble_eq_true rfl) (Nat.le_of_ble_eq_true rfl) (am_G.mono (c0_M_isAgent (d := d) (f := rlV L p) (t := rlW L p) hA hs hX2.1 (hz4.2 hcs).1 (hz4.2 hcs).2 (by omega) (by omega)) ?_)
          intro r h1 hq
          rw [hq.1, hq.2]
          clear hq h1 r
          refine ⟨am_nti _, ?_⟩
          refine q_ifb_eq (pc := 47) (tgt := 54) dc_M_hasFinder_47 rfl (fun hc47 => ?_) (fun hc47 => ?_)
          · refine g_iconst (pc := 54) (v := 0) dc_M_hasFinder_54 rfl ?_
            refine g_istore_n (pc := 55) dc_M_hasFinder_55 (by decide) ?_
            show am_G X mt_M_hasFinder _ 56 [some (.ref 84), some (.int (nI j)), some (.int 0), some (.int (nI (s + (rlE L p + 1))))] [] _ _
            refine g_goto (pc := 56) (tgt := 9) dc_M_hasFinder_56 rfl ?_
            have hb9 : (b || hfd L (p :: lns L n (rlE L p + 1))) = (false || hfd L (lns L n (rlE L p + 1))) := by unfold hfd; rw [hc32, List.any_cons, decide_eq_true hk0, hc47]; rfl
            rw [hb9]
            refine am_G.mono (l_M_hasFinder hA hs hj n (rlE L p + 1) S2 false (by omega) (by omega) hX2) (fun r h1 hz => ?_)
            obtain ⟨y1, S1, y2, y3⟩ := hz
            exact ⟨y1, S1, y2, jkA.tr hz3 y3⟩
          · refine g_iconst (pc := 50) (v := 1) dc_M_hasFinder_50 rfl ?_
            refine g_goto (pc := 51) (tgt := 55) dc_M_hasFinder_51 rfl ?_
            refine g_istore_n (pc := 55) dc_M_hasFinder_55 (by decide) ?_
            show am_G X mt_M_hasFinder _ 56 [some (.ref 84), some (.int (nI j)), some (.int 1), some (.int (nI (s + (rlE L p + 1))))] [] _ _
            refine g_goto (pc := 56) (tgt := 9) dc_M_hasFinder_56 rfl ?_
            have hb9 : (b || hfd L (p :: lns L n (rlE L p + 1))) = (true || hfd L (lns L n (rlE L p + 1))) := by unfold hfd; rw [hc32, List.any_cons, decide_eq_true hk0, hc47]; rfl
            rw [hb9]
            refine am_G.mono (l_M_hasFinder hA hs hj n (rlE L p + 1) S2 true (by omega) (by omega) hX2) (fun r h1 hz => ?_)
            obtain ⟨y1, S1, y2, y3⟩ := hz
            exact ⟨y1, S1, y2, jkA.tr hz3 y3⟩
        · have hkn : ¬ er (rlO L p) = 0 := by
            unfold rlO
            by_cases h3 : rlK L p = 3
            · rw [if_pos h3]; decide
            · rw [if_neg h3]; exact fun h9 => hk0 ((nI_eq (a := rlK L p) (b := 0) (by have := rlK_b L p; omega) (by omega)).mp h9)
          refine g_if_ne (pc := 39) (tgt := 54) dc_M_hasFinder_39 rfl (fun hc39 => ?_) (fun hc => absurd hc (hkn))
          refine g_iconst (pc := 54) (v := 0) dc_M_hasFinder_54 rfl ?_
          refine g_istore_n (pc := 55) dc_M_hasFinder_55 (by decide) ?_
          show am_G X mt_M_hasFinder _ 56 [some (.ref 84), some (.int (nI j)), some (.int 0), some (.int (nI (s + (rlE L p + 1))))] [] _ _
          refine g_goto (pc := 56) (tgt := 9) dc_M_hasFinder_56 rfl ?_
          have hb9 : (b || hfd L (p :: lns L n (rlE L p + 1))) = (false || hfd L (lns L n (rlE L p + 1))) := by unfold hfd; rw [hc32, List.any_cons, decide_eq_false hk0]; rfl
          rw [hb9]
          refine am_G.mono (l_M_hasFinder hA hs hj n (rlE L p + 1) S2 false (by omega) (by omega) hX2) (fun r h1 hz => ?_)
          obtain ⟨y1, S1, y2, y3⟩ := hz
          exact ⟨y1, S1, y2, jkA.tr hz3 y3⟩
    · have hz : True := trivial
      refine g_iload_n (pc := 9) dc_M_hasFinder_9 rfl ?_
      refine g_aload_n (pc := 10) dc_M_hasFinder_10 rfl ?_
      refine g_getfield (pc := 11) dc_M_hasFinder_11 fl_M_146 (mp_o hA) rfl ?_
      refine g_iload_n (pc := 14) dc_M_hasFinder_14 rfl ?_
      refine q_ialoadV (pc := 15) j dc_M_hasFinder_15 (mp_a hA 14 rfl) (by omega) (by omega) (v := (nI (s + L.length))) hX.2.2 ?_
      refine q_icmp_ge (pc := 16) (tgt := 59) (s + p) (s + L.length) dc_M_hasFinder_16 (by omega) (by omega) rfl (fun hc16 => ?_) (fun hc => absurd hc (by omega))
      refine g_iload_n (pc := 59) dc_M_hasFinder_59 rfl ?_
      exact g_zreturn dc_M_hasFinder_60 rfl b1_z ⟨by rw [lns_out (by omega), show hfd L [] = false from rfl, Bool.or_false], S, rfl, jkA.rf S⟩
theorem c_M_hasFinder {S : MS} {j : Nat} (hA : A.length = 84) (hs : s + L.length ≤ 24000) (hj : j < 1100) (hX : tyT S j s L) : am_C X mt_M_hasFinder (d + 6) [.ref 84, .int (nI j)] (mput A S B) (fun r h1 => r = some (.int (b1 (hfd L (lnm L 0)))) ∧ ∃ S1, h1 = mput A S1 B ∧ jkA S S1) := by
  show am_G X mt_M_hasFinder (d + 6) 0 [some (.ref 84), some (.int (nI j)), none, none] [] (mput A S B) _
  refine g_iconst (pc := 0) (v := 0) dc_M_hasFinder_0 rfl ?_
  refine g_istore_n (pc := 1) dc_M_hasFinder_1 (by decide) ?_
  show am_G X mt_M_hasFinder _ 2 [some (.ref 84), some (.int (nI j)), some (.int 0), none] [] _ _
  refine g_aload_n (pc := 2) dc_M_hasFinder_2 rfl ?_
  refine g_getfield (pc := 3) dc_M_hasFinder_3 fl_M_131 (mp_o hA) rfl ?_
  refine g_iload_n (pc := 6) dc_M_hasFinder_6 rfl ?_
  refine q_ialoadV (pc := 7) j dc_M_hasFinder_7 (mp_a hA 13 rfl) (by omega) (by omega) (v := (nI s)) hX.2.1 ?_
  refine g_istore_n (pc := 8) dc_M_hasFinder_8 (by decide) ?_
  show am_G X mt_M_hasFinder _ 9 [some (.ref 84), some (.int (nI j)), some (.int 0), some (.int (nI s))] [] _ _
  have h9 := l_M_hasFinder (X := X) (d := d) (B := B) hA hs hj L.length 0 S false (by omega) (by omega) hX
  exact h9
end MRL
