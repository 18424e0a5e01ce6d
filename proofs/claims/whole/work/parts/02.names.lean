/-! the words of the tables that every state keeps; the classes whose objects the memory holds (written by gen02.py out of the printed names) -/
def kx_good : List Cond := lw_tbl.filter goodWord
theorem kx_in {w : Cond} (i : Nat) (h : tables_1[i]? = some w) (hg : goodWord w = true) : w ∈ kx_good := List.mem_filter.mpr ⟨List.mem_append_right _ (List.mem_of_getElem? h), hg⟩
theorem kx_inl {w : Cond} (h : w ∈ lw_tbl) (hg : goodWord w = true) : w ∈ kx_good := List.mem_filter.mpr ⟨h, hg⟩
def kx_C0 : String := "java/util/ArrayList"
def kx_T0 : u_T := fun k => match k with
  | 0 => ("java/util/AbstractList", "modCount", "I", false)
  | 1 => ("java/util/ArrayList", "elementData", "[Ljava/lang/Object;", false)
  | _ => ("java/util/ArrayList", "size", "I", false)
def kx_y0 : Nat → FieldType := fun k => match k with
  | 0 => .int
  | 1 => .array (.object "java/lang/Object")
  | _ => .int
def kx_C1 : String := "TreatyClaims$Claim"
def kx_T1 : u_T := fun k => match k with
  | 0 => ("TreatyClaims$Claim", "claimant", "I", true)
  | 1 => ("TreatyClaims$Claim", "nation", "I", true)
  | 2 => ("TreatyClaims$Claim", "thing", "I", true)
  | 3 => ("TreatyClaims$Claim", "role", "I", true)
  | 4 => ("TreatyClaims$Claim", "amount", "I", true)
  | 5 => ("TreatyClaims$Claim", "filedOn", "I", true)
  | 6 => ("TreatyClaims$Claim", "word", "J", true)
  | 7 => ("TreatyClaims$Claim", "marks", "I", false)
  | 8 => ("TreatyClaims$Claim", "state", "I", false)
  | 9 => ("TreatyClaims$Claim", "sum", "I", false)
  | 10 => ("TreatyClaims$Claim", "award", "I", false)
  | 11 => ("TreatyClaims$Claim", "paid", "I", false)
  | 12 => ("TreatyClaims$Claim", "decidedOn", "I", false)
  | 13 => ("TreatyClaims$Claim", "oneVote", "I", false)
  | 14 => ("TreatyClaims$Claim", "otherVote", "I", false)
  | 15 => ("TreatyClaims$Claim", "keptFailures", "I", false)
  | 16 => ("TreatyClaims$Claim", "keptDue", "I", false)
  | _ => ("TreatyClaims$Claim", "share", "I", false)
def kx_y1 : Nat → FieldType := fun k => match k with
  | 0 => .int
  | 1 => .int
  | 2 => .int
  | 3 => .int
  | 4 => .int
  | 5 => .int
  | 6 => .long
  | 7 => .int
  | 8 => .int
  | 9 => .int
  | 10 => .int
  | 11 => .int
  | 12 => .int
  | 13 => .int
  | 14 => .int
  | 15 => .int
  | 16 => .int
  | _ => .int
def kx_C2 : String := "TreatyClaims$Docket"
def kx_T2 : u_T := fun k => match k with
  | 0 => ("TreatyClaims$Docket", "people", "LTreatyClaims$People;", true)
  | 1 => ("TreatyClaims$Docket", "things", "LTreatyClaims$Things;", true)
  | 2 => ("TreatyClaims$Docket", "claims", "Ljava/util/ArrayList;", true)
  | _ => ("TreatyClaims$Docket", "papers", "Ljava/util/ArrayList;", true)
def kx_y2 : Nat → FieldType := fun k => match k with
  | 0 => .object "TreatyClaims$People"
  | 1 => .object "TreatyClaims$Things"
  | 2 => .object "java/util/ArrayList"
  | _ => .object "java/util/ArrayList"
def kx_C3 : String := "TreatyClaims$Fund"
def kx_T3 : u_T := fun k => match k with
  | 0 => ("TreatyClaims$Fund", "people", "LTreatyClaims$People;", true)
  | 1 => ("TreatyClaims$Fund", "docket", "LTreatyClaims$Docket;", true)
  | 2 => ("TreatyClaims$Fund", "came", "I", false)
  | 3 => ("TreatyClaims$Fund", "coin", "I", false)
  | 4 => ("TreatyClaims$Fund", "shares", "[J", true)
  | _ => ("TreatyClaims$Fund", "rests", "[J", true)
def kx_y3 : Nat → FieldType := fun k => match k with
  | 0 => .object "TreatyClaims$People"
  | 1 => .object "TreatyClaims$Docket"
  | 2 => .int
  | 3 => .int
  | 4 => .array .long
  | _ => .array .long
def kx_C4 : String := "TreatyClaims$Paper"
def kx_T4 : u_T := fun k => match k with
  | 0 => ("TreatyClaims$Paper", "claim", "LTreatyClaims$Claim;", true)
  | 1 => ("TreatyClaims$Paper", "word", "J", true)
  | 2 => ("TreatyClaims$Paper", "issuer", "I", true)
  | 3 => ("TreatyClaims$Paper", "day", "I", true)
  | _ => ("TreatyClaims$Paper", "known", "I", true)
def kx_y4 : Nat → FieldType := fun k => match k with
  | 0 => .object "TreatyClaims$Claim"
  | 1 => .long
  | 2 => .int
  | 3 => .int
  | _ => .int
def kx_C5 : String := "TreatyClaims$People"
def kx_T5 : u_T := fun k => match k with
  | 0 => ("TreatyClaims$People", "persons", "I", false)
  | 1 => ("TreatyClaims$People", "listed", "[Z", true)
  | 2 => ("TreatyClaims$People", "purses", "[I", true)
  | 3 => ("TreatyClaims$People", "tellings", "I", false)
  | 4 => ("TreatyClaims$People", "tellingKinds", "[I", true)
  | 5 => ("TreatyClaims$People", "tellingOf", "[I", true)
  | 6 => ("TreatyClaims$People", "tellingKnown", "[I", true)
  | 7 => ("TreatyClaims$People", "tellingFrom", "[I", true)
  | 8 => ("TreatyClaims$People", "tellingSays", "[I", true)
  | 9 => ("TreatyClaims$People", "heirs", "[[I", true)
  | _ => ("TreatyClaims$People", "parts", "[[I", true)
def kx_y5 : Nat → FieldType := fun k => match k with
  | 0 => .int
  | 1 => .array .boolean
  | 2 => .array .int
  | 3 => .int
  | 4 => .array .int
  | 5 => .array .int
  | 6 => .array .int
  | 7 => .array .int
  | 8 => .array .int
  | 9 => .array (.array .int)
  | _ => .array (.array .int)
def kx_C6 : String := "TreatyClaims$Rates"
def kx_T6 : u_T := fun k => match k with
  | 0 => ("TreatyClaims$Rates", "told", "I", false)
  | 1 => ("TreatyClaims$Rates", "currencies", "[I", true)
  | 2 => ("TreatyClaims$Rates", "days", "[I", true)
  | _ => ("TreatyClaims$Rates", "pence", "[I", true)
def kx_y6 : Nat → FieldType := fun k => match k with
  | 0 => .int
  | 1 => .array .int
  | 2 => .array .int
  | _ => .array .int
def kx_C7 : String := "TreatyClaims$Rules"
def kx_T7 : u_T := fun k => match k with
  | 0 => ("TreatyClaims$Rules", "settings", "[I", true)
  | 1 => ("TreatyClaims$Rules", "order", "[I", true)
  | 2 => ("TreatyClaims$Rules", "kinds", "I", false)
  | 3 => ("TreatyClaims$Rules", "kindWords", "[J", true)
  | 4 => ("TreatyClaims$Rules", "weights", "[I", true)
  | 5 => ("TreatyClaims$Rules", "needs", "I", false)
  | 6 => ("TreatyClaims$Rules", "needWords", "[J", true)
  | 7 => ("TreatyClaims$Rules", "needPoints", "[I", true)
  | 8 => ("TreatyClaims$Rules", "musts", "I", false)
  | 9 => ("TreatyClaims$Rules", "eithers", "I", false)
  | 10 => ("TreatyClaims$Rules", "demandWords", "[J", true)
  | _ => ("TreatyClaims$Rules", "demandKinds", "[I", true)
def kx_y7 : Nat → FieldType := fun k => match k with
  | 0 => .array .int
  | 1 => .array .int
  | 2 => .int
  | 3 => .array .long
  | 4 => .array .int
  | 5 => .int
  | 6 => .array .long
  | 7 => .array .int
  | 8 => .int
  | 9 => .int
  | 10 => .array .long
  | _ => .array .int
def kx_C8 : String := "TreatyClaims$RulesReader"
def kx_T8 : u_T := fun k => match k with
  | 0 => ("TreatyClaims$RulesReader", "tape", "LTreatyClaims$Tape;", true)
  | 1 => ("TreatyClaims$RulesReader", "draft", "LTreatyClaims$Rules;", false)
  | 2 => ("TreatyClaims$RulesReader", "told", "I", false)
  | 3 => ("TreatyClaims$RulesReader", "faultKind", "I", false)
  | _ => ("TreatyClaims$RulesReader", "faultPlace", "I", false)
def kx_y8 : Nat → FieldType := fun k => match k with
  | 0 => .object "TreatyClaims$Tape"
  | 1 => .object "TreatyClaims$Rules"
  | 2 => .int
  | 3 => .int
  | _ => .int
def kx_C9 : String := "TreatyClaims$Tape"
def kx_T9 : u_T := fun k => match k with
  | 0 => ("TreatyClaims$Tape", "bytes", "[B", true)
  | 1 => ("TreatyClaims$Tape", "length", "I", false)
  | 2 => ("TreatyClaims$Tape", "next", "I", false)
  | 3 => ("TreatyClaims$Tape", "token", "I", false)
  | 4 => ("TreatyClaims$Tape", "place", "I", false)
  | 5 => ("TreatyClaims$Tape", "number", "I", false)
  | _ => ("TreatyClaims$Tape", "word", "J", false)
def kx_y9 : Nat → FieldType := fun k => match k with
  | 0 => .array .byte
  | 1 => .int
  | 2 => .int
  | 3 => .int
  | 4 => .int
  | 5 => .int
  | _ => .long
def kx_C10 : String := "TreatyClaims$TestCases"
def kx_T10 : u_T := fun k => match k with
  | 0 => ("TreatyClaims$TestCases", "likes", "[J", true)
  | 1 => ("TreatyClaims$TestCases", "chosen", "[I", true)
  | 2 => ("TreatyClaims$TestCases", "size", "I", false)
  | 3 => ("TreatyClaims$TestCases", "covered", "I", false)
  | 4 => ("TreatyClaims$TestCases", "claims", "I", false)
  | _ => ("TreatyClaims$TestCases", "widest", "I", false)
def kx_y10 : Nat → FieldType := fun k => match k with
  | 0 => .array .long
  | 1 => .array .int
  | 2 => .int
  | 3 => .int
  | 4 => .int
  | _ => .int
def kx_C11 : String := "TreatyClaims$Things"
def kx_T11 : u_T := fun k => match k with
  | 0 => ("TreatyClaims$Things", "things", "I", false)
  | 1 => ("TreatyClaims$Things", "days", "[I", true)
  | 2 => ("TreatyClaims$Things", "marks", "[I", true)
  | 3 => ("TreatyClaims$Things", "worths", "[I", true)
  | _ => ("TreatyClaims$Things", "likes", "[I", true)
def kx_y11 : Nat → FieldType := fun k => match k with
  | 0 => .int
  | 1 => .array .int
  | 2 => .array .int
  | 3 => .array .int
  | _ => .array .int
def kx_C12 : String := "TreatyClaims"
def kx_T12 : u_T := fun k => match k with
  | 0 => ("TreatyClaims", "tape", "LTreatyClaims$Tape;", true)
  | 1 => ("TreatyClaims", "reader", "LTreatyClaims$RulesReader;", true)
  | 2 => ("TreatyClaims", "versions", "[LTreatyClaims$Rules;", true)
  | 3 => ("TreatyClaims", "people", "LTreatyClaims$People;", true)
  | 4 => ("TreatyClaims", "rates", "LTreatyClaims$Rates;", true)
  | 5 => ("TreatyClaims", "things", "LTreatyClaims$Things;", true)
  | 6 => ("TreatyClaims", "docket", "LTreatyClaims$Docket;", true)
  | 7 => ("TreatyClaims", "testCases", "LTreatyClaims$TestCases;", true)
  | 8 => ("TreatyClaims", "coffer", "LTreatyClaims$Fund;", true)
  | 9 => ("TreatyClaims", "clock", "I", false)
  | 10 => ("TreatyClaims", "inForce", "I", false)
  | 11 => ("TreatyClaims", "oneSide", "I", false)
  | _ => ("TreatyClaims", "otherSide", "I", false)
def kx_y12 : Nat → FieldType := fun k => match k with
  | 0 => .object "TreatyClaims$Tape"
  | 1 => .object "TreatyClaims$RulesReader"
  | 2 => .array (.object "TreatyClaims$Rules")
  | 3 => .object "TreatyClaims$People"
  | 4 => .object "TreatyClaims$Rates"
  | 5 => .object "TreatyClaims$Things"
  | 6 => .object "TreatyClaims$Docket"
  | 7 => .object "TreatyClaims$TestCases"
  | 8 => .object "TreatyClaims$Fund"
  | 9 => .int
  | 10 => .int
  | 11 => .int
  | _ => .int
def kx_C13 : String := "TreatyClaimsModel$Stop"
def kx_T13 : u_T := fun k => match k with
  | 0 => ("java/lang/Throwable", "cause", "Ljava/lang/Throwable;", false)
  | 1 => ("java/lang/Throwable", "stackTrace", "[Ljava/lang/StackTraceElement;", false)
  | 2 => ("java/lang/Throwable", "suppressedExceptions", "Ljava/util/List;", false)
  | 3 => ("java/lang/Throwable", "detailMessage", "Ljava/lang/String;", false)
  | 4 => ("java/lang/Throwable", "backtrace", "Ljava/lang/Object;", false)
  | _ => ("java/lang/Throwable", "depth", "I", false)
def kx_y13 : Nat → FieldType := fun k => match k with
  | 0 => .object "java/lang/Throwable"
  | 1 => .array (.object "java/lang/StackTraceElement")
  | 2 => .object "java/util/List"
  | 3 => .object "java/lang/String"
  | 4 => .object "java/lang/Object"
  | _ => .int
def kx_C14 : String := "TreatyClaimsModel"
def kx_T14 : u_T := fun k => match k with
  | 0 => ("TreatyClaimsModel", "wordLetters", "[B", true)
  | 1 => ("TreatyClaimsModel", "wordSize", "[I", true)
  | 2 => ("TreatyClaimsModel", "words", "I", false)
  | 3 => ("TreatyClaimsModel", "stop", "LTreatyClaimsModel$Stop;", true)
  | 4 => ("TreatyClaimsModel", "tape", "[B", true)
  | 5 => ("TreatyClaimsModel", "taped", "I", false)
  | 6 => ("TreatyClaimsModel", "size", "I", false)
  | 7 => ("TreatyClaimsModel", "from", "I", false)
  | 8 => ("TreatyClaimsModel", "behind", "I", false)
  | 9 => ("TreatyClaimsModel", "hand", "I", false)
  | 10 => ("TreatyClaimsModel", "value", "I", false)
  | 11 => ("TreatyClaimsModel", "fault", "I", false)
  | 12 => ("TreatyClaimsModel", "faultAt", "I", false)
  | 13 => ("TreatyClaimsModel", "rule", "[I", true)
  | 14 => ("TreatyClaimsModel", "order", "[I", true)
  | 15 => ("TreatyClaimsModel", "kinds", "[I", true)
  | 16 => ("TreatyClaimsModel", "kindWord", "[I", true)
  | 17 => ("TreatyClaimsModel", "kindWeighs", "[I", true)
  | 18 => ("TreatyClaimsModel", "needs", "[I", true)
  | 19 => ("TreatyClaimsModel", "needWord", "[I", true)
  | 20 => ("TreatyClaimsModel", "needPoints", "[I", true)
  | 21 => ("TreatyClaimsModel", "musts", "[I", true)
  | 22 => ("TreatyClaimsModel", "mustWord", "[I", true)
  | 23 => ("TreatyClaimsModel", "mustKind", "[I", true)
  | 24 => ("TreatyClaimsModel", "eithers", "[I", true)
  | 25 => ("TreatyClaimsModel", "eitherWord", "[I", true)
  | 26 => ("TreatyClaimsModel", "eitherOne", "[I", true)
  | 27 => ("TreatyClaimsModel", "eitherTwo", "[I", true)
  | 28 => ("TreatyClaimsModel", "isTold", "[Z", true)
  | 29 => ("TreatyClaimsModel", "isWeighed", "[Z", true)
  | 30 => ("TreatyClaimsModel", "isRole", "[Z", true)
  | 31 => ("TreatyClaimsModel", "inForce", "I", false)
  | 32 => ("TreatyClaimsModel", "clauses", "I", false)
  | 33 => ("TreatyClaimsModel", "persons", "I", false)
  | 34 => ("TreatyClaimsModel", "tellings", "I", false)
  | 35 => ("TreatyClaimsModel", "rates", "I", false)
  | 36 => ("TreatyClaimsModel", "clock", "I", false)
  | 37 => ("TreatyClaimsModel", "sideOne", "I", false)
  | 38 => ("TreatyClaimsModel", "sideTwo", "I", false)
  | 39 => ("TreatyClaimsModel", "tellWhat", "[I", true)
  | 40 => ("TreatyClaimsModel", "tellWho", "[I", true)
  | 41 => ("TreatyClaimsModel", "tellNumber", "[I", true)
  | 42 => ("TreatyClaimsModel", "tellOther", "[I", true)
  | 43 => ("TreatyClaimsModel", "tellFrom", "[I", true)
  | 44 => ("TreatyClaimsModel", "tellKnown", "[I", true)
  | 45 => ("TreatyClaimsModel", "rateOf", "[I", true)
  | 46 => ("TreatyClaimsModel", "rateDay", "[I", true)
  | 47 => ("TreatyClaimsModel", "ratePence", "[I", true)
  | 48 => ("TreatyClaimsModel", "purse", "[I", true)
  | 49 => ("TreatyClaimsModel", "isUmpire", "[Z", true)
  | 50 => ("TreatyClaimsModel", "things", "I", false)
  | 51 => ("TreatyClaimsModel", "claims", "I", false)
  | 52 => ("TreatyClaimsModel", "papers", "I", false)
  | 53 => ("TreatyClaimsModel", "thingDay", "[I", true)
  | 54 => ("TreatyClaimsModel", "thingMarks", "[I", true)
  | 55 => ("TreatyClaimsModel", "thingWorth", "[I", true)
  | 56 => ("TreatyClaimsModel", "sorted", "[I", true)
  | 57 => ("TreatyClaimsModel", "sortedMany", "I", false)
  | 58 => ("TreatyClaimsModel", "claimant", "[I", true)
  | 59 => ("TreatyClaimsModel", "asOf", "[I", true)
  | 60 => ("TreatyClaimsModel", "claimThing", "[I", true)
  | 61 => ("TreatyClaimsModel", "role", "[I", true)
  | 62 => ("TreatyClaimsModel", "amount", "[I", true)
  | 63 => ("TreatyClaimsModel", "claimWord", "[I", true)
  | 64 => ("TreatyClaimsModel", "filed", "[I", true)
  | 65 => ("TreatyClaimsModel", "claimMarks", "[I", true)
  | 66 => ("TreatyClaimsModel", "state", "[I", true)
  | 67 => ("TreatyClaimsModel", "decided", "[I", true)
  | 68 => ("TreatyClaimsModel", "award", "[I", true)
  | 69 => ("TreatyClaimsModel", "paid", "[I", true)
  | 70 => ("TreatyClaimsModel", "decidedDay", "[I", true)
  | 71 => ("TreatyClaimsModel", "voteOne", "[I", true)
  | 72 => ("TreatyClaimsModel", "voteTwo", "[I", true)
  | 73 => ("TreatyClaimsModel", "failedThen", "[I", true)
  | 74 => ("TreatyClaimsModel", "dueThen", "[I", true)
  | 75 => ("TreatyClaimsModel", "paperOf", "[I", true)
  | 76 => ("TreatyClaimsModel", "paperWord", "[I", true)
  | 77 => ("TreatyClaimsModel", "paperIssuer", "[I", true)
  | 78 => ("TreatyClaimsModel", "paperDay", "[I", true)
  | 79 => ("TreatyClaimsModel", "paperKnown", "[I", true)
  | 80 => ("TreatyClaimsModel", "isProven", "[Z", true)
  | 81 => ("TreatyClaimsModel", "due", "[I", true)
  | 82 => ("TreatyClaimsModel", "likes", "[J", true)
  | 83 => ("TreatyClaimsModel", "tested", "[I", true)
  | 84 => ("TreatyClaimsModel", "trial", "[I", true)
  | 85 => ("TreatyClaimsModel", "testMany", "I", false)
  | 86 => ("TreatyClaimsModel", "bestLike", "I", false)
  | 87 => ("TreatyClaimsModel", "fund", "I", false)
  | 88 => ("TreatyClaimsModel", "coin", "I", false)
  | 89 => ("TreatyClaimsModel", "heirWho", "[I", true)
  | 90 => ("TreatyClaimsModel", "heirParts", "[I", true)
  | 91 => ("TreatyClaimsModel", "wants", "[I", true)
  | 92 => ("TreatyClaimsModel", "gets", "[I", true)
  | _ => ("TreatyClaimsModel", "rests", "[J", true)
def kx_y14 : Nat → FieldType := fun k => match k with
  | 0 => .array .byte
  | 1 => .array .int
  | 2 => .int
  | 3 => .object "TreatyClaimsModel$Stop"
  | 4 => .array .byte
  | 5 => .int
  | 6 => .int
  | 7 => .int
  | 8 => .int
  | 9 => .int
  | 10 => .int
  | 11 => .int
  | 12 => .int
  | 13 => .array .int
  | 14 => .array .int
  | 15 => .array .int
  | 16 => .array .int
  | 17 => .array .int
  | 18 => .array .int
  | 19 => .array .int
  | 20 => .array .int
  | 21 => .array .int
  | 22 => .array .int
  | 23 => .array .int
  | 24 => .array .int
  | 25 => .array .int
  | 26 => .array .int
  | 27 => .array .int
  | 28 => .array .boolean
  | 29 => .array .boolean
  | 30 => .array .boolean
  | 31 => .int
  | 32 => .int
  | 33 => .int
  | 34 => .int
  | 35 => .int
  | 36 => .int
  | 37 => .int
  | 38 => .int
  | 39 => .array .int
  | 40 => .array .int
  | 41 => .array .int
  | 42 => .array .int
  | 43 => .array .int
  | 44 => .array .int
  | 45 => .array .int
  | 46 => .array .int
  | 47 => .array .int
  | 48 => .array .int
  | 49 => .array .boolean
  | 50 => .int
  | 51 => .int
  | 52 => .int
  | 53 => .array .int
  | 54 => .array .int
  | 55 => .array .int
  | 56 => .array .int
  | 57 => .int
  | 58 => .array .int
  | 59 => .array .int
  | 60 => .array .int
  | 61 => .array .int
  | 62 => .array .int
  | 63 => .array .int
  | 64 => .array .int
  | 65 => .array .int
  | 66 => .array .int
  | 67 => .array .int
  | 68 => .array .int
  | 69 => .array .int
  | 70 => .array .int
  | 71 => .array .int
  | 72 => .array .int
  | 73 => .array .int
  | 74 => .array .int
  | 75 => .array .int
  | 76 => .array .int
  | 77 => .array .int
  | 78 => .array .int
  | 79 => .array .int
  | 80 => .array .boolean
  | 81 => .array .int
  | 82 => .array .long
  | 83 => .array .int
  | 84 => .array .int
  | 85 => .int
  | 86 => .int
  | 87 => .int
  | 88 => .int
  | 89 => .array .int
  | 90 => .array .int
  | 91 => .array .int
  | 92 => .array .int
  | _ => .array .long
abbrev kx_cl : List vw_C := [(kx_C0, kx_T0, 3), (kx_C1, kx_T1, 18), (kx_C2, kx_T2, 4), (kx_C3, kx_T3, 6), (kx_C4, kx_T4, 5), (kx_C5, kx_T5, 11), (kx_C6, kx_T6, 4), (kx_C7, kx_T7, 12), (kx_C8, kx_T8, 5), (kx_C9, kx_T9, 7), (kx_C10, kx_T10, 6), (kx_C11, kx_T11, 5), (kx_C12, kx_T12, 13), (kx_C13, kx_T13, 6), (kx_C14, kx_T14, 94)]
def kx_ty : Nat → Nat → FieldType := fun c => match c with
  | 0 => kx_y0
  | 1 => kx_y1
  | 2 => kx_y2
  | 3 => kx_y3
  | 4 => kx_y4
  | 5 => kx_y5
  | 6 => kx_y6
  | 7 => kx_y7
  | 8 => kx_y8
  | 9 => kx_y9
  | 10 => kx_y10
  | 11 => kx_y11
  | 12 => kx_y12
  | 13 => kx_y13
  | _ => kx_y14
/-- what is told of a class by its number -/
def kx_cwf (ci : Nat) (r : vw_C) : Prop := (∀ w ∈ u_ws r.1 r.2.1 r.2.2, w ∈ kx_good) ∧ (∀ k, k < r.2.2 → parseFieldDescriptor (r.2.1 k).2.2.1 = some (kx_ty ci k)) ∧ ∀ a, a < r.2.2 → ∀ b, b < r.2.2 → a ≠ b → (r.2.1 a).2.1 ≠ (r.2.1 b).2.1
set_option maxRecDepth 20000 in
theorem kx_u0 : u_ws kx_C0 kx_T0 3 = [271, 267, 269].filterMap (fun i => tables_1[i]?) := by decide +kernel
set_option maxRecDepth 20000 in
theorem kx_w0 : kx_cwf 0 (kx_C0, kx_T0, 3) := by
  refine ⟨fun w hw => ?_, by decide +kernel, by decide +kernel⟩
  have hg : (u_ws kx_C0 kx_T0 3).all goodWord = true := by decide +kernel
  have h1 := List.all_eq_true.mp hg w hw
  have hw : w ∈ u_ws kx_C0 kx_T0 3 := hw
  rw [kx_u0] at hw
  obtain ⟨i, -, hi⟩ := List.mem_filterMap.mp hw
  exact kx_in i hi h1
set_option maxRecDepth 20000 in
theorem kx_u1 : u_ws kx_C1 kx_T1 18 = [861, 863, 865, 867, 869, 871, 873, 875, 877, 879, 881, 883, 885, 887, 889, 891, 893, 895].filterMap (fun i => tables_1[i]?) := by decide +kernel
set_option maxRecDepth 20000 in
theorem kx_w1 : kx_cwf 1 (kx_C1, kx_T1, 18) := by
  refine ⟨fun w hw => ?_, by decide +kernel, by decide +kernel⟩
  have hg : (u_ws kx_C1 kx_T1 18).all goodWord = true := by decide +kernel
  have h1 := List.all_eq_true.mp hg w hw
  have hw : w ∈ u_ws kx_C1 kx_T1 18 := hw
  rw [kx_u1] at hw
  obtain ⟨i, -, hi⟩ := List.mem_filterMap.mp hw
  exact kx_in i hi h1
set_option maxRecDepth 20000 in
theorem kx_u2 : u_ws kx_C2 kx_T2 4 = [282, 284, 286, 288].filterMap (fun i => tables_1[i]?) := by decide +kernel
set_option maxRecDepth 20000 in
theorem kx_w2 : kx_cwf 2 (kx_C2, kx_T2, 4) := by
  refine ⟨fun w hw => ?_, by decide +kernel, by decide +kernel⟩
  have hg : (u_ws kx_C2 kx_T2 4).all goodWord = true := by decide +kernel
  have h1 := List.all_eq_true.mp hg w hw
  have hw : w ∈ u_ws kx_C2 kx_T2 4 := hw
  rw [kx_u2] at hw
  obtain ⟨i, -, hi⟩ := List.mem_filterMap.mp hw
  exact kx_in i hi h1
set_option maxRecDepth 20000 in
theorem kx_u3 : u_ws kx_C3 kx_T3 6 = [330, 332, 334, 336, 338, 340].filterMap (fun i => tables_1[i]?) := by decide +kernel
set_option maxRecDepth 20000 in
theorem kx_w3 : kx_cwf 3 (kx_C3, kx_T3, 6) := by
  refine ⟨fun w hw => ?_, by decide +kernel, by decide +kernel⟩
  have hg : (u_ws kx_C3 kx_T3 6).all goodWord = true := by decide +kernel
  have h1 := List.all_eq_true.mp hg w hw
  have hw : w ∈ u_ws kx_C3 kx_T3 6 := hw
  rw [kx_u3] at hw
  obtain ⟨i, -, hi⟩ := List.mem_filterMap.mp hw
  exact kx_in i hi h1
set_option maxRecDepth 20000 in
theorem kx_u4 : u_ws kx_C4 kx_T4 5 = [1005, 1007, 1009, 1011, 1013].filterMap (fun i => tables_1[i]?) := by decide +kernel
set_option maxRecDepth 20000 in
theorem kx_w4 : kx_cwf 4 (kx_C4, kx_T4, 5) := by
  refine ⟨fun w hw => ?_, by decide +kernel, by decide +kernel⟩
  have hg : (u_ws kx_C4 kx_T4 5).all goodWord = true := by decide +kernel
  have h1 := List.all_eq_true.mp hg w hw
  have hw : w ∈ u_ws kx_C4 kx_T4 5 := hw
  rw [kx_u4] at hw
  obtain ⟨i, -, hi⟩ := List.mem_filterMap.mp hw
  exact kx_in i hi h1
set_option maxRecDepth 20000 in
theorem kx_u5 : u_ws kx_C5 kx_T5 11 = [176, 178, 180, 182, 184, 186, 188, 190, 192, 194, 196].filterMap (fun i => tables_1[i]?) := by decide +kernel
set_option maxRecDepth 20000 in
theorem kx_w5 : kx_cwf 5 (kx_C5, kx_T5, 11) := by
  refine ⟨fun w hw => ?_, by decide +kernel, by decide +kernel⟩
  have hg : (u_ws kx_C5 kx_T5 11).all goodWord = true := by decide +kernel
  have h1 := List.all_eq_true.mp hg w hw
  have hw : w ∈ u_ws kx_C5 kx_T5 11 := hw
  rw [kx_u5] at hw
  obtain ⟨i, -, hi⟩ := List.mem_filterMap.mp hw
  exact kx_in i hi h1
set_option maxRecDepth 20000 in
theorem kx_u6 : u_ws kx_C6 kx_T6 4 = [210, 212, 214, 216].filterMap (fun i => tables_1[i]?) := by decide +kernel
set_option maxRecDepth 20000 in
theorem kx_w6 : kx_cwf 6 (kx_C6, kx_T6, 4) := by
  refine ⟨fun w hw => ?_, by decide +kernel, by decide +kernel⟩
  have hg : (u_ws kx_C6 kx_T6 4).all goodWord = true := by decide +kernel
  have h1 := List.all_eq_true.mp hg w hw
  have hw : w ∈ u_ws kx_C6 kx_T6 4 := hw
  rw [kx_u6] at hw
  obtain ⟨i, -, hi⟩ := List.mem_filterMap.mp hw
  exact kx_in i hi h1
set_option maxRecDepth 20000 in
theorem kx_u7 : u_ws kx_C7 kx_T7 12 = [108, 110, 112, 114, 116, 118, 120, 122, 124, 126, 128, 130].filterMap (fun i => tables_1[i]?) := by decide +kernel
set_option maxRecDepth 20000 in
theorem kx_w7 : kx_cwf 7 (kx_C7, kx_T7, 12) := by
  refine ⟨fun w hw => ?_, by decide +kernel, by decide +kernel⟩
  have hg : (u_ws kx_C7 kx_T7 12).all goodWord = true := by decide +kernel
  have h1 := List.all_eq_true.mp hg w hw
  have hw : w ∈ u_ws kx_C7 kx_T7 12 := hw
  rw [kx_u7] at hw
  obtain ⟨i, -, hi⟩ := List.mem_filterMap.mp hw
  exact kx_in i hi h1
set_option maxRecDepth 20000 in
theorem kx_u8 : u_ws kx_C8 kx_T8 5 = [142, 144, 146, 148, 150].filterMap (fun i => tables_1[i]?) := by decide +kernel
set_option maxRecDepth 20000 in
theorem kx_w8 : kx_cwf 8 (kx_C8, kx_T8, 5) := by
  refine ⟨fun w hw => ?_, by decide +kernel, by decide +kernel⟩
  have hg : (u_ws kx_C8 kx_T8 5).all goodWord = true := by decide +kernel
  have h1 := List.all_eq_true.mp hg w hw
  have hw : w ∈ u_ws kx_C8 kx_T8 5 := hw
  rw [kx_u8] at hw
  obtain ⟨i, -, hi⟩ := List.mem_filterMap.mp hw
  exact kx_in i hi h1
set_option maxRecDepth 20000 in
theorem kx_u9 : u_ws kx_C9 kx_T9 7 = [57, 59, 61, 63, 65, 67, 69].filterMap (fun i => tables_1[i]?) := by decide +kernel
set_option maxRecDepth 20000 in
theorem kx_w9 : kx_cwf 9 (kx_C9, kx_T9, 7) := by
  refine ⟨fun w hw => ?_, by decide +kernel, by decide +kernel⟩
  have hg : (u_ws kx_C9 kx_T9 7).all goodWord = true := by decide +kernel
  have h1 := List.all_eq_true.mp hg w hw
  have hw : w ∈ u_ws kx_C9 kx_T9 7 := hw
  rw [kx_u9] at hw
  obtain ⟨i, -, hi⟩ := List.mem_filterMap.mp hw
  exact kx_in i hi h1
set_option maxRecDepth 20000 in
theorem kx_u10 : u_ws kx_C10 kx_T10 6 = [303, 305, 307, 309, 311, 313].filterMap (fun i => tables_1[i]?) := by decide +kernel
set_option maxRecDepth 20000 in
theorem kx_w10 : kx_cwf 10 (kx_C10, kx_T10, 6) := by
  refine ⟨fun w hw => ?_, by decide +kernel, by decide +kernel⟩
  have hg : (u_ws kx_C10 kx_T10 6).all goodWord = true := by decide +kernel
  have h1 := List.all_eq_true.mp hg w hw
  have hw : w ∈ u_ws kx_C10 kx_T10 6 := hw
  rw [kx_u10] at hw
  obtain ⟨i, -, hi⟩ := List.mem_filterMap.mp hw
  exact kx_in i hi h1
set_option maxRecDepth 20000 in
theorem kx_u11 : u_ws kx_C11 kx_T11 5 = [231, 233, 235, 237, 239].filterMap (fun i => tables_1[i]?) := by decide +kernel
set_option maxRecDepth 20000 in
theorem kx_w11 : kx_cwf 11 (kx_C11, kx_T11, 5) := by
  refine ⟨fun w hw => ?_, by decide +kernel, by decide +kernel⟩
  have hg : (u_ws kx_C11 kx_T11 5).all goodWord = true := by decide +kernel
  have h1 := List.all_eq_true.mp hg w hw
  have hw : w ∈ u_ws kx_C11 kx_T11 5 := hw
  rw [kx_u11] at hw
  obtain ⟨i, -, hi⟩ := List.mem_filterMap.mp hw
  exact kx_in i hi h1
set_option maxRecDepth 20000 in
theorem kx_u12 : u_ws kx_C12 kx_T12 13 = [357, 359, 361, 363, 365, 367, 369, 371, 373, 375, 377, 379, 381].filterMap (fun i => tables_1[i]?) := by decide +kernel
set_option maxRecDepth 20000 in
theorem kx_w12 : kx_cwf 12 (kx_C12, kx_T12, 13) := by
  refine ⟨fun w hw => ?_, by decide +kernel, by decide +kernel⟩
  have hg : (u_ws kx_C12 kx_T12 13).all goodWord = true := by decide +kernel
  have h1 := List.all_eq_true.mp hg w hw
  have hw : w ∈ u_ws kx_C12 kx_T12 13 := hw
  rw [kx_u12] at hw
  obtain ⟨i, -, hi⟩ := List.mem_filterMap.mp hw
  exact kx_in i hi h1
set_option maxRecDepth 20000 in
theorem kx_u13 : u_ws kx_C13 kx_T13 6 = [1533, 1535, 1537, 1539, 1541, 1579].filterMap (fun i => tables_1[i]?) := by decide +kernel
set_option maxRecDepth 20000 in
theorem kx_w13 : kx_cwf 13 (kx_C13, kx_T13, 6) := by
  refine ⟨fun w hw => ?_, by decide +kernel, by decide +kernel⟩
  have hg : (u_ws kx_C13 kx_T13 6).all goodWord = true := by decide +kernel
  have h1 := List.all_eq_true.mp hg w hw
  have hw : w ∈ u_ws kx_C13 kx_T13 6 := hw
  rw [kx_u13] at hw
  obtain ⟨i, -, hi⟩ := List.mem_filterMap.mp hw
  exact kx_in i hi h1
set_option maxRecDepth 20000 in
theorem kx_u14 : u_ws kx_C14 kx_T14 94 = [1676, 1678, 1680, 1682, 1684, 1686, 1688, 1690, 1692, 1694, 1696, 1698, 1700, 1702, 1704, 1706, 1708, 1710, 1712, 1714, 1716, 1718, 1720, 1722, 1724, 1726, 1728, 1730, 1732, 1734, 1736, 1738, 1740, 1742, 1744, 1746, 1748, 1750, 1752, 1754, 1756, 1758, 1760, 1762, 1764, 1766, 1768, 1770, 1772, 1774, 1776, 1778, 1780, 1782, 1784, 1786, 1788, 1790, 1792, 1794, 1796, 1798, 1800, 1802, 1804, 1806, 1808, 1810, 1812, 1814, 1816, 1818, 1820, 1822, 1824, 1826, 1828, 1830, 1832, 1834, 1836, 1838, 1840, 1842, 1844, 1846, 1848, 1850, 1852, 1854, 1856, 1858, 1860, 1862].filterMap (fun i => tables_1[i]?) := by decide +kernel
set_option maxRecDepth 20000 in
theorem kx_w14 : kx_cwf 14 (kx_C14, kx_T14, 94) := by
  refine ⟨fun w hw => ?_, by decide +kernel, by decide +kernel⟩
  have hg : (u_ws kx_C14 kx_T14 94).all goodWord = true := by decide +kernel
  have h1 := List.all_eq_true.mp hg w hw
  have hw : w ∈ u_ws kx_C14 kx_T14 94 := hw
  rw [kx_u14] at hw
  obtain ⟨i, -, hi⟩ := List.mem_filterMap.mp hw
  exact kx_in i hi h1
theorem kx_cw : ∀ (ci : Nat) (r : vw_C), kx_cl[ci]? = some r → kx_cwf ci r := by
  intro ci r h
  match ci, h with
  | 0, h => cases h; exact kx_w0
  | 1, h => cases h; exact kx_w1
  | 2, h => cases h; exact kx_w2
  | 3, h => cases h; exact kx_w3
  | 4, h => cases h; exact kx_w4
  | 5, h => cases h; exact kx_w5
  | 6, h => cases h; exact kx_w6
  | 7, h => cases h; exact kx_w7
  | 8, h => cases h; exact kx_w8
  | 9, h => cases h; exact kx_w9
  | 10, h => cases h; exact kx_w10
  | 11, h => cases h; exact kx_w11
  | 12, h => cases h; exact kx_w12
  | 13, h => cases h; exact kx_w13
  | 14, h => cases h; exact kx_w14
  | n + 15, h => simp [kx_cl] at h
/-- the words that are carried beside: nest mates' links, casts (their places in tables_1) -/
def kx_nk : List Nat := [41, 47, 49, 52, 53, 56, 90, 91, 92, 94, 99, 103, 105, 139, 141, 157, 164, 168, 202, 221, 226, 277, 278, 279, 281, 293, 325, 327, 510, 607, 818, 819, 821, 823, 825, 827, 829, 831, 832, 834, 836, 837, 838, 840, 842, 843, 845, 847, 848, 850, 851, 853, 854, 855, 856, 858, 859, 860, 996, 998, 1000, 1002, 1004, 1049, 1526, 2201, 2202, 2203, 2204, 2205, 2206, 2207, 2208, 2209, 2210, 2211, 2212, 2213, 2214, 2215, 2216, 2217, 2221, 2222, 2223, 2224, 2225, 2226, 2227]
def kx_nw : List Cond := kx_nk.filterMap (fun i => tables_1[i]?)
