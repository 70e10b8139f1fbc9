/-! part 23: the tables: classes, methods, words -/
noncomputable def zt_T0 : u_T := fun k => match k with
  | 0 => ("WoundTown$Day", "rules", "LWoundTown$Rules;", true)
  | 1 => ("WoundTown$Day", "town", "LWoundTown$Town;", false)
  | 2 => ("WoundTown$Day", "going", "LWoundTown$Going;", false)
  | 3 => ("WoundTown$Day", "power", "[I", true)
  | 4 => ("WoundTown$Day", "done", "[I", true)
  | _ => ("WoundTown$Day", "ends", "[I", true)
noncomputable def zt_T1 : u_T := fun k => match k with
  | 0 => ("WoundTown$Decade", "going", "LWoundTown$Going;", true)
  | 1 => ("WoundTown$Decade", "seed", "I", false)
  | 2 => ("WoundTown$Decade", "daysRun", "I", false)
  | _ => ("WoundTown$Decade", "works", "I", false)
noncomputable def zt_T2 : u_T := fun k => match k with
  | 0 => ("WoundTown$Going", "oil", "[I", true)
  | 1 => ("WoundTown$Going", "little", "[I", true)
  | 2 => ("WoundTown$Going", "done", "[I", true)
  | 3 => ("WoundTown$Going", "life", "I", false)
  | 4 => ("WoundTown$Going", "snapped", "Z", false)
  | 5 => ("WoundTown$Going", "turns", "I", false)
  | _ => ("WoundTown$Going", "day", "I", false)
noncomputable def zt_T3 : u_T := fun k => match k with
  | 0 => ("WoundTown$Orderly", "row", "[I", true)
  | 1 => ("WoundTown$Orderly", "speeds", "[I", true)
  | 2 => ("WoundTown$Orderly", "done", "[I", true)
  | 3 => ("WoundTown$Orderly", "ends", "[I", true)
  | 4 => ("WoundTown$Orderly", "best", "[I", true)
  | 5 => ("WoundTown$Orderly", "size", "I", false)
  | _ => ("WoundTown$Orderly", "worth", "I", false)
noncomputable def zt_T4 : u_T := fun k => match k with
  | 0 => ("WoundTown$Places", "ways", "[I", true)
  | _ => ("WoundTown$Places", "least", "[I", true)
noncomputable def zt_T5 : u_T := fun k => match k with
  | 0 => ("WoundTown$Reader", "tape", "LWoundTown$Tape;", true)
  | 1 => ("WoundTown$Reader", "text", "LWoundTown$Text;", true)
  | 2 => ("WoundTown$Reader", "fault", "I", false)
  | 3 => ("WoundTown$Reader", "ofOrders", "Z", false)
  | _ => ("WoundTown$Reader", "parts", "I", false)
noncomputable def zt_T6 : u_T := fun k => match k with
  | 0 => ("WoundTown$Rules", "words", "[I", true)
  | 1 => ("WoundTown$Rules", "stack", "[J", true)
  | _ => ("WoundTown$Rules", "law", "LWoundTown$Text;", false)
noncomputable def zt_T7 : u_T := fun k => match k with
  | 0 => ("WoundTown$Tape", "bytes", "[I", true)
  | 1 => ("WoundTown$Tape", "length", "I", false)
  | 2 => ("WoundTown$Tape", "kind", "I", false)
  | 3 => ("WoundTown$Tape", "start", "I", false)
  | 4 => ("WoundTown$Tape", "behind", "I", false)
  | _ => ("WoundTown$Tape", "sign", "I", false)
noncomputable def zt_T8 : u_T := fun k => match k with
  | 0 => ("WoundTown$Text", "kinds", "[I", true)
  | 1 => ("WoundTown$Text", "sums", "[I", true)
  | 2 => ("WoundTown$Text", "seconds", "[I", true)
  | 3 => ("WoundTown$Text", "times", "[I", true)
  | 4 => ("WoundTown$Text", "tests", "[I", true)
  | 5 => ("WoundTown$Text", "code", "[I", true)
  | 6 => ("WoundTown$Text", "clauses", "I", false)
  | _ => ("WoundTown$Text", "size", "I", false)
noncomputable def zt_T9 : u_T := fun k => match k with
  | 0 => ("WoundTown$Town", "roads", "[I", true)
  | 1 => ("WoundTown$Town", "people", "I", false)
  | 2 => ("WoundTown$Town", "place", "[I", true)
  | 3 => ("WoundTown$Town", "works", "I", false)
  | 4 => ("WoundTown$Town", "owner", "[I", true)
  | 5 => ("WoundTown$Town", "minutes", "[I", true)
  | 6 => ("WoundTown$Town", "due", "[I", true)
  | 7 => ("WoundTown$Town", "worth", "[I", true)
  | 8 => ("WoundTown$Town", "ahead", "[I", true)
  | 9 => ("WoundTown$Town", "sights", "I", false)
  | 10 => ("WoundTown$Town", "sightWork", "[I", true)
  | 11 => ("WoundTown$Town", "sightHour", "[I", true)
  | 12 => ("WoundTown$Town", "sightMinutes", "[I", true)
  | 13 => ("WoundTown$Town", "laws", "[LWoundTown$Text;", true)
  | 14 => ("WoundTown$Town", "lawCount", "I", false)
  | 15 => ("WoundTown$Town", "force", "I", false)
  | 16 => ("WoundTown$Town", "sunday", "I", false)
  | 17 => ("WoundTown$Town", "mood", "I", false)
  | _ => ("WoundTown$Town", "going", "LWoundTown$Going;", true)
noncomputable def zt_T10 : u_T := fun k => match k with
  | 0 => ("WoundTown$Undo", "kinds", "[I", true)
  | 1 => ("WoundTown$Undo", "rows", "[I", true)
  | 2 => ("WoundTown$Undo", "first", "I", false)
  | _ => ("WoundTown$Undo", "size", "I", false)
noncomputable def zt_T11 : u_T := fun k => match k with
  | 0 => ("WoundTown", "town", "LWoundTown$Town;", true)
  | 1 => ("WoundTown", "images", "[LWoundTown$Town;", true)
  | 2 => ("WoundTown", "undo", "LWoundTown$Undo;", true)
  | 3 => ("WoundTown", "rules", "LWoundTown$Rules;", true)
  | 4 => ("WoundTown", "day", "LWoundTown$Day;", true)
  | 5 => ("WoundTown", "orderly", "LWoundTown$Orderly;", true)
  | 6 => ("WoundTown", "ways", "LWoundTown$Places;", true)
  | 7 => ("WoundTown", "decade", "LWoundTown$Decade;", true)
  | 8 => ("WoundTown", "tape", "LWoundTown$Tape;", true)
  | 9 => ("WoundTown", "reader", "LWoundTown$Reader;", true)
  | 10 => ("WoundTown", "goingBefore", "LWoundTown$Going;", true)
  | 11 => ("WoundTown", "undoBefore", "LWoundTown$Undo;", true)
  | 12 => ("WoundTown", "orderWords", "[I", true)
  | 13 => ("WoundTown", "ordersDone", "I", false)
  | 14 => ("WoundTown", "ordersEnded", "I", false)
  | 15 => ("WoundTown", "stopped", "I", false)
  | 16 => ("WoundTown", "trial", "LWoundTown$Going;", true)
  | 17 => ("WoundTown", "dust", "I", false)
  | 18 => ("WoundTown", "status", "I", false)
  | _ => ("WoundTown", "refusals", "[I", true)
noncomputable def zt_T12 : u_T := fun k => match k with
  | 0 => ("WoundTownModel", "thrown", "I", false)
  | 1 => ("WoundTownModel", "status", "I", false)
  | 2 => ("WoundTownModel", "refusals", "[I", true)
  | 3 => ("WoundTownModel", "row", "[I", true)
  | 4 => ("WoundTownModel", "images", "[I", true)
  | 5 => ("WoundTownModel", "isKept", "[Z", true)
  | 6 => ("WoundTownModel", "undos", "[I", true)
  | 7 => ("WoundTownModel", "sorts", "[I", true)
  | 8 => ("WoundTownModel", "nUndo", "I", false)
  | 9 => ("WoundTownModel", "undosBefore", "[I", true)
  | 10 => ("WoundTownModel", "sortsBefore", "[I", true)
  | 11 => ("WoundTownModel", "dust", "I", false)
  | 12 => ("WoundTownModel", "tape", "[I", true)
  | 13 => ("WoundTownModel", "taped", "I", false)
  | 14 => ("WoundTownModel", "from", "I", false)
  | 15 => ("WoundTownModel", "to", "I", false)
  | 16 => ("WoundTownModel", "sort", "I", false)
  | 17 => ("WoundTownModel", "worth", "J", false)
  | 18 => ("WoundTownModel", "fault", "I", false)
  | 19 => ("WoundTownModel", "bad", "Z", false)
  | 20 => ("WoundTownModel", "ordered", "Z", false)
  | 21 => ("WoundTownModel", "nClauses", "I", false)
  | 22 => ("WoundTownModel", "nClause", "[I", true)
  | 23 => ("WoundTownModel", "nCode", "I", false)
  | 24 => ("WoundTownModel", "nOp", "[I", true)
  | 25 => ("WoundTownModel", "nArg", "[I", true)
  | 26 => ("WoundTownModel", "nLeaves", "I", false)
  | 27 => ("WoundTownModel", "pile", "[I", true)
  | 28 => ("WoundTownModel", "pileAt", "[I", true)
  | 29 => ("WoundTownModel", "piled", "I", false)
  | 30 => ("WoundTownModel", "opened", "I", false)
  | 31 => ("WoundTownModel", "words", "[J", true)
  | 32 => ("WoundTownModel", "orderWords", "[J", true)
  | 33 => ("WoundTownModel", "heads", "[J", true)
  | 34 => ("WoundTownModel", "law", "I", false)
  | 35 => ("WoundTownModel", "set", "[J", true)
  | 36 => ("WoundTownModel", "now", "[J", true)
  | 37 => ("WoundTownModel", "rest", "[J", true)
  | 38 => ("WoundTownModel", "broken", "Z", false)
  | 39 => ("WoundTownModel", "value", "J", false)
  | 40 => ("WoundTownModel", "sum", "J", false)
  | 41 => ("WoundTownModel", "powerAt", "[I", true)
  | 42 => ("WoundTownModel", "speedAt", "[I", true)
  | 43 => ("WoundTownModel", "doneAt", "[I", true)
  | 44 => ("WoundTownModel", "worked", "[I", true)
  | 45 => ("WoundTownModel", "endedIn", "[I", true)
  | 46 => ("WoundTownModel", "isReady", "[Z", true)
  | 47 => ("WoundTownModel", "orderly", "I", false)
  | 48 => ("WoundTownModel", "order", "[I", true)
  | 49 => ("WoundTownModel", "nOrdered", "I", false)
  | 50 => ("WoundTownModel", "mine", "[I", true)
  | 51 => ("WoundTownModel", "tried", "[I", true)
  | 52 => ("WoundTownModel", "bestOrder", "[I", true)
  | 53 => ("WoundTownModel", "most", "I", false)
  | 54 => ("WoundTownModel", "far", "[I", true)
  | 55 => ("WoundTownModel", "wins", "[I", true)
  | 56 => ("WoundTownModel", "nOrder", "[I", true)
  | 57 => ("WoundTownModel", "done", "I", false)
  | 58 => ("WoundTownModel", "ended", "I", false)
  | 59 => ("WoundTownModel", "stopped", "I", false)
  | 60 => ("WoundTownModel", "off", "Z", false)
  | 61 => ("WoundTownModel", "state", "J", false)
  | 62 => ("WoundTownModel", "drawn", "[I", true)
  | _ => ("WoundTownModel", "nDrawn", "I", false)
noncomputable def zt_cl : List vw_C := [("WoundTown$Day", zt_T0, 6), ("WoundTown$Decade", zt_T1, 4), ("WoundTown$Going", zt_T2, 7), ("WoundTown$Orderly", zt_T3, 7), ("WoundTown$Places", zt_T4, 2), ("WoundTown$Reader", zt_T5, 5), ("WoundTown$Rules", zt_T6, 3), ("WoundTown$Tape", zt_T7, 6), ("WoundTown$Text", zt_T8, 8), ("WoundTown$Town", zt_T9, 19), ("WoundTown$Undo", zt_T10, 4), ("WoundTown", zt_T11, 20), ("WoundTownModel", zt_T12, 64)]
noncomputable def zt_privs : List (MethodName × Nat) := [(⟨"WoundTown", "refused", "(I)I"⟩, 0), (⟨"WoundTown", "answered", "(I)I"⟩, 0), (⟨"WoundTown", "addWorkOfRow", "(I)Z"⟩, 0), (⟨"WoundTown$Reader", "orderClause", "()Z"⟩, 0), (⟨"WoundTown$Reader", "wholeSum", "([I)Z"⟩, 0), (⟨"WoundTown$Reader", "sum", "(I)Z"⟩, 0), (⟨"WoundTown$Reader", "term", "(I)Z"⟩, 0), (⟨"WoundTown$Reader", "part", "(I)Z"⟩, 0), (⟨"WoundTown$Reader", "timesOrBy", "()I"⟩, 0), (⟨"WoundTown$Reader", "repeats", "()Z"⟩, 0), (⟨"WoundTown$Reader", "condition", "()Z"⟩, 0), (⟨"WoundTown$Reader", "test", "(I)Z"⟩, 0), (⟨"WoundTown$Reader", "both", "(I)Z"⟩, 0), (⟨"WoundTown$Reader", "plain", "(I)Z"⟩, 0), (⟨"WoundTown$Reader", "bracketed", "(I)Z"⟩, 0), (⟨"WoundTown$Reader", "comparison", "()I"⟩, 0), (⟨"WoundTown$Reader", "lawClause", "()Z"⟩, 0), (⟨"WoundTown", "isClauseRun", "(LWoundTown$Text;I)Z"⟩, 0), (⟨"WoundTown", "tellOrderWords", "()V"⟩, 0), (⟨"WoundTown", "windBy", "(I)I"⟩, 0), (⟨"WoundTown$Rules", "tellHour", "(II)V"⟩, 0), (⟨"WoundTown$Rules", "tellPerson", "(III)V"⟩, 0), (⟨"WoundTown$Rules", "told", "(I)J"⟩, 0), (⟨"WoundTown", "keyBy", "(II)I"⟩, 0), (⟨"WoundTown", "runDay", "()I"⟩, 0), (⟨"WoundTown$Day", "passHour", "(I)V"⟩, 0), (⟨"WoundTown$Day", "workOf", "(II)I"⟩, 0), (⟨"WoundTown$Day", "isReady", "(II)Z"⟩, 0), (⟨"WoundTown$Day", "isEnding", "(I)Z"⟩, 0), (⟨"WoundTown", "mendBy", "(I)I"⟩, 0), (⟨"WoundTown", "settled", "(I)I"⟩, 0), (⟨"WoundTown$Orderly", "begin", "(LWoundTown$Town;LWoundTown$Day;I)V"⟩, 0), (⟨"WoundTown$Orderly", "pass", "(LWoundTown$Town;)V"⟩, 0), (⟨"WoundTown$Orderly", "workOf", "(LWoundTown$Town;I)I"⟩, 0), (⟨"WoundTown$Orderly", "isReady", "(LWoundTown$Town;II)Z"⟩, 0), (⟨"WoundTown$Orderly", "worthInTime", "(LWoundTown$Town;)I"⟩, 0), (⟨"WoundTown$Orderly", "isNextRow", "()Z"⟩, 0), (⟨"WoundTown$Orderly", "exchange", "(II)V"⟩, 0), (⟨"WoundTown$Places", "measureWays", "([I)V"⟩, 0), (⟨"WoundTown$Places", "way", "(II)I"⟩, 0), (⟨"WoundTown$Places", "leastOf", "(II)I"⟩, 0), (⟨"WoundTown$Places", "by", "(III)I"⟩, 0), (⟨"WoundTown$Places", "firstOf", "(II)I"⟩, 0), (⟨"WoundTown$Decade", "windByDraws", "(LWoundTown$Town;LWoundTown$Rules;)V"⟩, 0), (⟨"WoundTown$Decade", "draw", "(I)I"⟩, 0), (⟨"WoundTownModel", "tell", "(I)I"⟩, 0), (⟨"WoundTownModel", "putBack", "(I)V"⟩, 0), (⟨"WoundTownModel", "settled", "(I)I"⟩, 0), (⟨"WoundTownModel", "change", "(II)I"⟩, 0), (⟨"WoundTownModel", "isPerson", "(I)Z"⟩, 0), (⟨"WoundTownModel", "ofPerson", "(II)I"⟩, 0), (⟨"WoundTownModel", "ofWork", "(II)I"⟩, 0), (⟨"WoundTownModel", "isOver", "(I)Z"⟩, 0), (⟨"WoundTownModel", "work1", "(IIIII)I"⟩, 0), (⟨"WoundTownModel", "isWork", "(I)Z"⟩, 0), (⟨"WoundTownModel", "four", "(I)V"⟩, 0), (⟨"WoundTownModel", "beginText", "(Z)V"⟩, 0), (⟨"WoundTownModel", "begin", "()V"⟩, 0), (⟨"WoundTownModel", "next", "()V"⟩, 0), (⟨"WoundTownModel", "readLaw", "()V"⟩, 0), (⟨"WoundTownModel", "isWord", "(J)Z"⟩, 0), (⟨"WoundTownModel", "must", "(Z)V"⟩, 0), (⟨"WoundTownModel", "readExpression", "(Z)V"⟩, 0), (⟨"WoundTownModel", "readPlain", "()I"⟩, 0), (⟨"WoundTownModel", "push", "(II)V"⟩, 0), (⟨"WoundTownModel", "isSign", "(I)Z"⟩, 0), (⟨"WoundTownModel", "openBracket", "(I)V"⟩, 0), (⟨"WoundTownModel", "readPart", "()I"⟩, 0), (⟨"WoundTownModel", "orderPartAt", "()I"⟩, 0), (⟨"WoundTownModel", "partAt", "()I"⟩, 0), (⟨"WoundTownModel", "leaf", "(ZII)V"⟩, 0), (⟨"WoundTownModel", "emit", "(II)V"⟩, 0), (⟨"WoundTownModel", "number", "(JJ)I"⟩, 0), (⟨"WoundTownModel", "behindSum", "(Z)I"⟩, 0), (⟨"WoundTownModel", "settle", "(I)V"⟩, 0), (⟨"WoundTownModel", "inner", "()I"⟩, 0), (⟨"WoundTownModel", "isCompared", "()Z"⟩, 0), (⟨"WoundTownModel", "behindTest", "()I"⟩, 0), (⟨"WoundTownModel", "endText", "()V"⟩, 0), (⟨"WoundTownModel", "wearsOf", "(I)I"⟩, 0), (⟨"WoundTownModel", "setHour", "(IIII)V"⟩, 0), (⟨"WoundTownModel", "tells", "(IJ)J"⟩, 0), (⟨"WoundTownModel", "today", "()I"⟩, 0), (⟨"WoundTownModel", "isSo", "(I)Z"⟩, 0), (⟨"WoundTownModel", "reckonAll", "(II)V"⟩, 0), (⟨"WoundTownModel", "reckon", "(IJJ)J"⟩, 0), (⟨"WoundTownModel", "snapsOf", "(I)I"⟩, 0), (⟨"WoundTownModel", "layDay", "(I)V"⟩, 0), (⟨"WoundTownModel", "speedsOf", "(IIII)I"⟩, 0), (⟨"WoundTownModel", "pick", "(I)I"⟩, 0), (⟨"WoundTownModel", "canGoOn", "(I)Z"⟩, 0), (⟨"WoundTownModel", "runsOf", "(III)I"⟩, 0), (⟨"WoundTownModel", "standsFrom", "()I"⟩, 0), (⟨"WoundTownModel", "isInTime", "(I)Z"⟩, 0), (⟨"WoundTownModel", "isFresh", "(I)Z"⟩, 0), (⟨"WoundTownModel", "weighOrder", "(I)V"⟩, 0), (⟨"WoundTownModel", "keepAll", "(I)V"⟩, 0), (⟨"WoundTownModel", "findWays", "()V"⟩, 0), (⟨"WoundTownModel", "goRound", "(I)I"⟩, 0), (⟨"WoundTownModel", "windNow", "(I)I"⟩, 0), (⟨"WoundTownModel", "remember", "(I)V"⟩, 0), (⟨"WoundTownModel", "wear", "(I)Z"⟩, 0), (⟨"WoundTownModel", "keyNow", "(II)I"⟩, 0), (⟨"WoundTownModel", "isBarred", "(II)Z"⟩, 0), (⟨"WoundTownModel", "runNow", "()I"⟩, 0), (⟨"WoundTownModel", "runDay", "()I"⟩, 0), (⟨"WoundTownModel", "mendNow", "(I)I"⟩, 0), (⟨"WoundTownModel", "readOrder", "()V"⟩, 0), (⟨"WoundTownModel", "readSum", "(I)V"⟩, 0), (⟨"WoundTownModel", "runOne", "(I)I"⟩, 0), (⟨"WoundTownModel", "sumOf", "(I)I"⟩, 0), (⟨"WoundTownModel", "giveBack", "(I)V"⟩, 0), (⟨"WoundTownModel", "drawMorning", "()V"⟩, 0), (⟨"WoundTownModel", "draw", "(I)I"⟩, 0)]
noncomputable def zt_tbl : List Jvm.Cond := k2_sels zt_privs ++ tables_1
noncomputable def zt_TB : List Jvm.Cond := zt_tbl.filter goodWord
noncomputable def zt_ms : List MethodName := [⟨"WoundTown", "<init>", "()V"⟩, ⟨"WoundTown$Town", "<init>", "()V"⟩, ⟨"WoundTown$Going", "<init>", "()V"⟩, ⟨"WoundTown$Undo", "<init>", "()V"⟩, ⟨"WoundTown$Rules", "<init>", "()V"⟩, ⟨"WoundTown$Day", "<init>", "(LWoundTown$Rules;LWoundTown$Town;)V"⟩, ⟨"WoundTown$Orderly", "<init>", "()V"⟩, ⟨"WoundTown$Places", "<init>", "()V"⟩, ⟨"WoundTown$Decade", "<init>", "()V"⟩, ⟨"WoundTown$Tape", "<init>", "()V"⟩, ⟨"WoundTown$Reader", "<init>", "(LWoundTown$Tape;)V"⟩, ⟨"WoundTown$Text", "<init>", "(II)V"⟩, ⟨"java/lang/Math", "min", "(II)I"⟩, ⟨"java/lang/Math", "max", "(II)I"⟩, ⟨"WoundTown", "road", "(III)I"⟩, ⟨"WoundTown", "isWithin", "(III)Z"⟩, ⟨"WoundTown", "refused", "(I)I"⟩, ⟨"WoundTown", "answered", "(I)I"⟩, ⟨"WoundTown", "person", "(II)I"⟩, ⟨"WoundTown$Undo", "clear", "()V"⟩, ⟨"WoundTown$Town", "addPerson", "(II)I"⟩, ⟨"WoundTown", "oil", "(II)I"⟩, ⟨"WoundTown$Town", "hasPerson", "(I)Z"⟩, ⟨"WoundTown", "of", "(II)I"⟩, ⟨"WoundTown$Town", "worksLeft", "(I)I"⟩, ⟨"WoundTown$Town", "isDone", "(I)Z"⟩, ⟨"WoundTown$Town", "hasWork", "(I)Z"⟩, ⟨"WoundTown", "work", "(IIIII)I"⟩, ⟨"WoundTown$Town", "addWork", "(IIIII)I"⟩, ⟨"WoundTown", "at", "(II)I"⟩, ⟨"WoundTown", "terms", "(II)I"⟩, ⟨"WoundTown", "feed", "(IIIII)I"⟩, ⟨"WoundTown$Tape", "hasRoomFor", "(I)Z"⟩, ⟨"WoundTown$Tape", "addNumber", "(I)V"⟩, ⟨"WoundTown", "end", "(I)I"⟩, ⟨"WoundTown", "row", "()I"⟩, ⟨"WoundTown", "addWorkOfRow", "(I)Z"⟩, ⟨"WoundTown$Tape", "byteAt", "(I)I"⟩, ⟨"WoundTown", "dust", "()I"⟩, ⟨"WoundTown", "law", "()I"⟩, ⟨"WoundTown$Reader", "read", "(Z)Z"⟩, ⟨"WoundTown$Text", "clear", "()V"⟩, ⟨"WoundTown$Tape", "rewind", "()V"⟩, ⟨"WoundTown$Tape", "next", "()V"⟩, ⟨"WoundTown$Tape", "kindOf", "(I)I"⟩, ⟨"WoundTown$Reader", "orderClause", "()Z"⟩, ⟨"WoundTown$Tape", "wordIn", "(Ljava/lang/String;)I"⟩, ⟨"java/lang/String", "length", "()I"⟩, ⟨"java/lang/String", "coder", "()B"⟩, ⟨"java/lang/String", "charAt", "(I)C"⟩, ⟨"java/lang/String", "isLatin1", "()Z"⟩, ⟨"java/lang/StringLatin1", "charAt", "([BI)C"⟩, ⟨"java/lang/String", "checkIndex", "(II)V"⟩, ⟨"jdk/internal/util/Preconditions", "checkIndex", "(IILjava/util/function/BiFunction;)I"⟩, ⟨"java/lang/StringUTF16", "charAt", "([BI)C"⟩, ⟨"java/lang/StringUTF16", "checkIndex", "(I[B)V"⟩, ⟨"java/lang/StringUTF16", "length", "([B)I"⟩, ⟨"java/lang/StringUTF16", "getChar", "([BI)C"⟩, ⟨"WoundTown$Text", "isOpened", "(I)Z"⟩, ⟨"WoundTown$Reader", "wholeSum", "([I)Z"⟩, ⟨"WoundTown$Text", "tell", "([II)V"⟩, ⟨"WoundTown$Reader", "sum", "(I)Z"⟩, ⟨"WoundTown$Reader", "term", "(I)Z"⟩, ⟨"WoundTown$Reader", "part", "(I)Z"⟩, ⟨"WoundTown$Tape", "isSign", "(C)Z"⟩, ⟨"WoundTown$Tape", "numberWithin", "(II)I"⟩, ⟨"WoundTown$Text", "add", "(II)I"⟩, ⟨"WoundTown$Reader", "timesOrBy", "()I"⟩, ⟨"WoundTown$Tape", "isWord", "(Ljava/lang/String;)Z"⟩, ⟨"WoundTown$Reader", "repeats", "()Z"⟩, ⟨"WoundTown$Reader", "condition", "()Z"⟩, ⟨"WoundTown$Reader", "test", "(I)Z"⟩, ⟨"WoundTown$Reader", "both", "(I)Z"⟩, ⟨"WoundTown$Reader", "plain", "(I)Z"⟩, ⟨"WoundTown$Reader", "bracketed", "(I)Z"⟩, ⟨"WoundTown$Reader", "comparison", "()I"⟩, ⟨"WoundTown$Text", "leapHere", "(I)V"⟩, ⟨"WoundTown$Reader", "lawClause", "()Z"⟩, ⟨"WoundTown$Text", "copy", "()LWoundTown$Text;"⟩, ⟨"WoundTown", "orders", "()I"⟩, ⟨"WoundTown$Going", "copyFrom", "(LWoundTown$Going;)V"⟩, ⟨"WoundTown$Undo", "copyFrom", "(LWoundTown$Undo;)V"⟩, ⟨"WoundTown", "isClauseRun", "(LWoundTown$Text;I)Z"⟩, ⟨"WoundTown", "tellOrderWords", "()V"⟩, ⟨"WoundTown$Rules", "value", "(LWoundTown$Text;I[I)J"⟩, ⟨"WoundTown", "windBy", "(I)I"⟩, ⟨"WoundTown", "areTurns", "(I)Z"⟩, ⟨"WoundTown$Town", "mostTurns", "(LWoundTown$Going;)I"⟩, ⟨"WoundTown$Undo", "keep", "(ILWoundTown$Going;)V"⟩, ⟨"WoundTown$Going", "keepIn", "([II)V"⟩, ⟨"WoundTown$Rules", "about", "(LWoundTown$Town;LWoundTown$Going;I)V"⟩, ⟨"WoundTown$Town", "lawInForce", "()LWoundTown$Text;"⟩, ⟨"WoundTown$Rules", "wears", "()I"⟩, ⟨"WoundTown$Rules", "tellHour", "(II)V"⟩, ⟨"WoundTown$Rules", "tellPerson", "(III)V"⟩, ⟨"WoundTown$Rules", "told", "(I)J"⟩, ⟨"WoundTown$Rules", "nearest", "(JI)I"⟩, ⟨"java/lang/Math", "min", "(JJ)J"⟩, ⟨"java/lang/Math", "max", "(JJ)J"⟩, ⟨"WoundTown$Going", "windBy", "(II)V"⟩, ⟨"WoundTown$Going", "wear", "(I)V"⟩, ⟨"WoundTown", "keyBy", "(II)I"⟩, ⟨"WoundTown$Rules", "bars", "(III)Z"⟩, ⟨"WoundTown", "runDay", "()I"⟩, ⟨"WoundTown$Day", "runs", "(LWoundTown$Town;LWoundTown$Going;)I"⟩, ⟨"WoundTown$Day", "begin", "(LWoundTown$Town;LWoundTown$Going;I)V"⟩, ⟨"WoundTown$Rules", "runs", "(II)I"⟩, ⟨"java/util/Arrays", "fill", "([II)V"⟩, ⟨"WoundTown$Day", "passHour", "(I)V"⟩, ⟨"WoundTown$Day", "workOf", "(II)I"⟩, ⟨"WoundTown$Day", "isReady", "(II)Z"⟩, ⟨"WoundTown$Rules", "speeds", "(IIIII)I"⟩, ⟨"WoundTown$Going", "sleep", "()V"⟩, ⟨"WoundTown$Day", "isEnding", "(I)Z"⟩, ⟨"WoundTown", "mendBy", "(I)I"⟩, ⟨"WoundTown", "fault", "()I"⟩, ⟨"WoundTown", "stopped", "()I"⟩, ⟨"WoundTown", "force", "(I)I"⟩, ⟨"WoundTown", "asks", "(II)I"⟩, ⟨"WoundTown$Rules", "snaps", "()I"⟩, ⟨"WoundTown", "wind", "(I)I"⟩, ⟨"WoundTown", "settled", "(I)I"⟩, ⟨"WoundTown", "key", "(II)I"⟩, ⟨"WoundTown", "run", "()I"⟩, ⟨"WoundTown", "mend", "(I)I"⟩, ⟨"WoundTown", "undo", "()I"⟩, ⟨"WoundTown$Undo", "takeBack", "(LWoundTown$Going;)I"⟩, ⟨"WoundTown$Going", "takeFrom", "([II)V"⟩, ⟨"WoundTown", "hour", "(III)I"⟩, ⟨"WoundTown$Day", "speed", "(II)I"⟩, ⟨"WoundTown", "ends", "(III)I"⟩, ⟨"WoundTown$Day", "pass", "(LWoundTown$Town;LWoundTown$Going;I)V"⟩, ⟨"WoundTown", "day", "(II)I"⟩, ⟨"WoundTown$Day", "standsFrom", "()I"⟩, ⟨"WoundTown$Day", "worthInTime", "()I"⟩, ⟨"WoundTown$Day", "isInTime", "(I)Z"⟩, ⟨"WoundTown$Day", "leftInTheMiddle", "()I"⟩, ⟨"WoundTown", "least", "(I)I"⟩, ⟨"WoundTown$Day", "areInTime", "(I)Z"⟩, ⟨"WoundTown", "orderly", "(III)I"⟩, ⟨"WoundTown$Orderly", "isFound", "(LWoundTown$Town;LWoundTown$Day;I)Z"⟩, ⟨"WoundTown$Orderly", "begin", "(LWoundTown$Town;LWoundTown$Day;I)V"⟩, ⟨"WoundTown$Orderly", "pass", "(LWoundTown$Town;)V"⟩, ⟨"WoundTown$Orderly", "workOf", "(LWoundTown$Town;I)I"⟩, ⟨"WoundTown$Orderly", "isReady", "(LWoundTown$Town;II)Z"⟩, ⟨"WoundTown$Orderly", "worthInTime", "(LWoundTown$Town;)I"⟩, ⟨"WoundTown$Orderly", "isNextRow", "()Z"⟩, ⟨"WoundTown$Orderly", "exchange", "(II)V"⟩, ⟨"WoundTown", "little", "(II)I"⟩, ⟨"WoundTown", "lasts", "(I)I"⟩, ⟨"WoundTown", "odds", "(II)J"⟩, ⟨"WoundTown", "sight", "(III)I"⟩, ⟨"WoundTown$Town", "addSight", "(III)V"⟩, ⟨"WoundTown", "forget", "()I"⟩, ⟨"WoundTown", "fits", "()I"⟩, ⟨"WoundTown$Day", "areSightsSo", "()Z"⟩, ⟨"WoundTown", "guards", "(I)I"⟩, ⟨"WoundTown$Places", "fewestGuards", "([I)I"⟩, ⟨"java/lang/Integer", "bitCount", "(I)I"⟩, ⟨"WoundTown$Places", "isGuarded", "([II)Z"⟩, ⟨"WoundTown", "round", "(II)I"⟩, ⟨"WoundTown$Places", "measure", "([II)V"⟩, ⟨"WoundTown$Places", "measureWays", "([I)V"⟩, ⟨"WoundTown$Places", "way", "(II)I"⟩, ⟨"WoundTown$Places", "leastOf", "(II)I"⟩, ⟨"WoundTown$Places", "by", "(III)I"⟩, ⟨"WoundTown$Places", "roundOf", "(I)I"⟩, ⟨"WoundTown$Places", "stop", "(II)I"⟩, ⟨"WoundTown$Places", "firstOf", "(II)I"⟩, ⟨"WoundTown", "game", "(I)I"⟩, ⟨"WoundTown", "decade", "(II)I"⟩, ⟨"WoundTown$Decade", "play", "(LWoundTown$Town;LWoundTown$Day;LWoundTown$Rules;II)I"⟩, ⟨"WoundTown$Decade", "windByDraws", "(LWoundTown$Town;LWoundTown$Rules;)V"⟩, ⟨"WoundTown$Decade", "draw", "(I)I"⟩, ⟨"WoundTown", "drawn", "(I)I"⟩, ⟨"WoundTown$Decade", "told", "(I)I"⟩, ⟨"WoundTown", "image", "(I)I"⟩, ⟨"WoundTown$Town", "copyFrom", "(LWoundTown$Town;)V"⟩, ⟨"WoundTown", "back", "(I)I"⟩, ⟨"WoundTown", "count", "(I)I"⟩, ⟨"WoundTown", "status", "()I"⟩, ⟨"WoundTownModel", "<init>", "()V"⟩, ⟨"WoundTownModel", "undo", "()I"⟩, ⟨"WoundTownModel", "tell", "(I)I"⟩, ⟨"WoundTownModel", "putBack", "(I)V"⟩, ⟨"WoundTownModel", "image", "(I)I"⟩, ⟨"WoundTownModel", "in", "(JJJ)Z"⟩, ⟨"WoundTownModel", "back", "(I)I"⟩, ⟨"WoundTownModel", "settled", "(I)I"⟩, ⟨"WoundTownModel", "road", "(III)I"⟩, ⟨"WoundTownModel", "change", "(II)I"⟩, ⟨"WoundTownModel", "person", "(II)I"⟩, ⟨"WoundTownModel", "oil", "(II)I"⟩, ⟨"WoundTownModel", "isPerson", "(I)Z"⟩, ⟨"WoundTownModel", "of", "(II)I"⟩, ⟨"WoundTownModel", "ofPerson", "(II)I"⟩, ⟨"WoundTownModel", "ofWork", "(II)I"⟩, ⟨"WoundTownModel", "isOver", "(I)Z"⟩, ⟨"WoundTownModel", "work", "(IIIII)I"⟩, ⟨"WoundTownModel", "work1", "(IIIII)I"⟩, ⟨"WoundTownModel", "isWork", "(I)Z"⟩, ⟨"WoundTownModel", "at", "(II)I"⟩, ⟨"WoundTownModel", "terms", "(II)I"⟩, ⟨"WoundTownModel", "row", "()I"⟩, ⟨"WoundTownModel", "dust", "()I"⟩, ⟨"WoundTownModel", "feed", "(IIIII)I"⟩, ⟨"WoundTownModel", "four", "(I)V"⟩, ⟨"WoundTownModel", "end", "(I)I"⟩, ⟨"WoundTownModel", "fault", "()I"⟩, ⟨"WoundTownModel", "law", "()I"⟩, ⟨"WoundTownModel", "beginText", "(Z)V"⟩, ⟨"WoundTownModel", "begin", "()V"⟩, ⟨"WoundTownModel", "next", "()V"⟩, ⟨"WoundTownModel", "isSmall", "(I)Z"⟩, ⟨"WoundTownModel", "isDigit", "(I)Z"⟩, ⟨"WoundTownModel", "readLaw", "()V"⟩, ⟨"WoundTownModel", "isWord", "(J)Z"⟩, ⟨"WoundTownModel", "must", "(Z)V"⟩, ⟨"WoundTownModel", "readExpression", "(Z)V"⟩, ⟨"WoundTownModel", "readPlain", "()I"⟩, ⟨"WoundTownModel", "push", "(II)V"⟩, ⟨"WoundTownModel", "isSign", "(I)Z"⟩, ⟨"WoundTownModel", "openBracket", "(I)V"⟩, ⟨"WoundTownModel", "readPart", "()I"⟩, ⟨"WoundTownModel", "orderPartAt", "()I"⟩, ⟨"WoundTownModel", "partAt", "()I"⟩, ⟨"WoundTownModel", "leaf", "(ZII)V"⟩, ⟨"WoundTownModel", "emit", "(II)V"⟩, ⟨"WoundTownModel", "number", "(JJ)I"⟩, ⟨"WoundTownModel", "behindSum", "(Z)I"⟩, ⟨"WoundTownModel", "binds", "(I)I"⟩, ⟨"WoundTownModel", "settle", "(I)V"⟩, ⟨"WoundTownModel", "inner", "()I"⟩, ⟨"WoundTownModel", "isCompared", "()Z"⟩, ⟨"WoundTownModel", "behindTest", "()I"⟩, ⟨"WoundTownModel", "endText", "()V"⟩, ⟨"WoundTownModel", "force", "(I)I"⟩, ⟨"WoundTownModel", "asks", "(II)I"⟩, ⟨"WoundTownModel", "wearsOf", "(I)I"⟩, ⟨"WoundTownModel", "setHour", "(IIII)V"⟩, ⟨"WoundTownModel", "tells", "(IJ)J"⟩, ⟨"WoundTownModel", "today", "()I"⟩, ⟨"WoundTownModel", "isSo", "(I)Z"⟩, ⟨"WoundTownModel", "reckonAll", "(II)V"⟩, ⟨"WoundTownModel", "reckon", "(IJJ)J"⟩, ⟨"WoundTownModel", "within", "(JII)I"⟩, ⟨"WoundTownModel", "snapsOf", "(I)I"⟩, ⟨"WoundTownModel", "hour", "(III)I"⟩, ⟨"WoundTownModel", "layDay", "(I)V"⟩, ⟨"WoundTownModel", "speedsOf", "(IIII)I"⟩, ⟨"WoundTownModel", "pick", "(I)I"⟩, ⟨"WoundTownModel", "canGoOn", "(I)Z"⟩, ⟨"WoundTownModel", "runsOf", "(III)I"⟩, ⟨"WoundTownModel", "ends", "(III)I"⟩, ⟨"WoundTownModel", "day", "(II)I"⟩, ⟨"WoundTownModel", "standsFrom", "()I"⟩, ⟨"WoundTownModel", "isInTime", "(I)Z"⟩, ⟨"WoundTownModel", "least", "(I)I"⟩, ⟨"WoundTownModel", "is", "(II)Z"⟩, ⟨"WoundTownModel", "orderly", "(III)I"⟩, ⟨"WoundTownModel", "isFresh", "(I)Z"⟩, ⟨"WoundTownModel", "weighOrder", "(I)V"⟩, ⟨"WoundTownModel", "little", "(II)I"⟩, ⟨"WoundTownModel", "lasts", "(I)I"⟩, ⟨"WoundTownModel", "keepAll", "(I)V"⟩, ⟨"WoundTownModel", "odds", "(II)J"⟩, ⟨"WoundTownModel", "sight", "(III)I"⟩, ⟨"WoundTownModel", "forget", "()I"⟩, ⟨"WoundTownModel", "fits", "()I"⟩, ⟨"WoundTownModel", "guards", "(I)I"⟩, ⟨"WoundTownModel", "ones", "(I)I"⟩, ⟨"WoundTownModel", "round", "(II)I"⟩, ⟨"WoundTownModel", "findWays", "()V"⟩, ⟨"WoundTownModel", "goRound", "(I)I"⟩, ⟨"WoundTownModel", "game", "(I)I"⟩, ⟨"WoundTownModel", "wind", "(I)I"⟩, ⟨"WoundTownModel", "windNow", "(I)I"⟩, ⟨"WoundTownModel", "remember", "(I)V"⟩, ⟨"WoundTownModel", "wear", "(I)Z"⟩, ⟨"WoundTownModel", "key", "(II)I"⟩, ⟨"WoundTownModel", "keyNow", "(II)I"⟩, ⟨"WoundTownModel", "isBarred", "(II)Z"⟩, ⟨"WoundTownModel", "run", "()I"⟩, ⟨"WoundTownModel", "runNow", "()I"⟩, ⟨"WoundTownModel", "runDay", "()I"⟩, ⟨"WoundTownModel", "mend", "(I)I"⟩, ⟨"WoundTownModel", "mendNow", "(I)I"⟩, ⟨"WoundTownModel", "orders", "()I"⟩, ⟨"WoundTownModel", "readOrder", "()V"⟩, ⟨"WoundTownModel", "readSum", "(I)V"⟩, ⟨"WoundTownModel", "runOne", "(I)I"⟩, ⟨"WoundTownModel", "sumOf", "(I)I"⟩, ⟨"WoundTownModel", "giveBack", "(I)V"⟩, ⟨"WoundTownModel", "stopped", "()I"⟩, ⟨"WoundTownModel", "decade", "(II)I"⟩, ⟨"WoundTownModel", "drawMorning", "()V"⟩, ⟨"WoundTownModel", "draw", "(I)I"⟩, ⟨"WoundTownModel", "drawn", "(I)I"⟩, ⟨"WoundTownModel", "count", "(I)I"⟩, ⟨"WoundTownModel", "status", "()I"⟩]
noncomputable def zt_mn (k : Nat) : MethodName := zt_ms.getD k ⟨"", "", ""⟩
theorem zt_good : GoodIn zt_TB zt_TB := fun x h => ⟨h, good_of_word (List.mem_filter.mp h).2⟩
/-- the word at a place of the table -/
noncomputable def zt_wd (i : Nat) (x : Jvm.Cond) : Bool := (match zt_tbl[i]? with
  | some y => decide (y = x)
  | none => false) && goodWord x
theorem zt_wd_mem {i : Nat} {x : Jvm.Cond} (h : zt_wd i x = true) : x ∈ zt_TB := by
  unfold zt_wd at h
  rw [Bool.and_eq_true] at h
  obtain ⟨h1, h2⟩ := h
  split at h1
  · rename_i y hy
    have h1 := of_decide_eq_true h1
    rw [← h1] at h2 ⊢
    exact List.mem_filter.mpr ⟨List.mem_of_getElem? hy, h2⟩
  · cases h1
theorem zt_wd_ok {i : Nat} {x : Jvm.Cond} (h : zt_wd i x = true) {s : State} {args : Array Value} (hts : ∀ x ∈ zt_TB, x.before args s = true) : x.before args s = true := hts x (zt_wd_mem h)
noncomputable def zt_lb2 (own : String) (r : zk_L × List Nat) : Bool := match zt_cl[r.1.2.2.1]? with
    | some c => decide (r.1.2.2.2.1 < c.2.2) && zt_wd (r.2.getD 0 0) (.fieldLink own r.1.2.1 (c.2.1 r.1.2.2.2.1).1 (c.2.1 r.1.2.2.2.1).2.1 (c.2.1 r.1.2.2.2.1).2.2.1) && (match parseFieldDescriptor (c.2.1 r.1.2.2.2.1).2.2.1 with
      | some ty => decide (zk_tyc ty = r.1.2.2.2.2 % 16)
      | none => false) && decide ((c.2.1 r.1.2.2.2.1).2.2.2 = decide (16 ≤ r.1.2.2.2.2)) && (if 16 ≤ r.1.2.2.2.2 ∧ r.1.2.2.2.2 < 32 then decide ((c.2.1 r.1.2.2.2.1).1 = own) else true)
    | none => false
noncomputable def zt_lb3 (own : String) (r : zk_L × List Nat) : Bool := match zt_cl[r.1.2.2.1]? with
    | some c => decide (c.2.2 = r.1.2.2.2.1) && zt_wd (r.2.getD 0 0) (.classLink own r.1.2.1 c.1) && zt_wd (r.2.getD 1 0) (.instantiable c.1 r.1.2.2.2.1) && zt_wd (r.2.getD 2 0) (.initialized c.1)
    | none => false
noncomputable def zt_lb4 (own : String) (r : zk_L × List Nat) : Bool := match zt_cl[r.1.2.2.1]? with
    | some c => zt_wd (r.2.getD 0 0) (.classLink own r.1.2.1 c.1) && zt_wd (r.2.getD 1 0) (.arrayOver (.object c.1))
    | none => false
/-- a link's row holds -/
noncomputable def zt_lkb (own : String) (r : zk_L × List Nat) : Bool := match r.1.1 with
  | 0 => zt_wd (r.2.getD 0 0) (.constant own r.1.2.1 (Int32.ofInt r.1.2.2.2.2)) && decide (-2147483648 ≤ r.1.2.2.2.2) && decide (r.1.2.2.2.2 ≤ 2147483647)
  | 1 => zt_wd (r.2.getD 0 0) (.constantLong own r.1.2.1 (Int64.ofInt r.1.2.2.2.2)) && decide (-9223372036854775808 ≤ r.1.2.2.2.2) && decide (r.1.2.2.2.2 ≤ 9223372036854775807)
  | 2 => zt_lb2 own r
  | 3 => zt_lb3 own r
  | 4 => zt_lb4 own r
  | 5 => zt_wd (r.2.getD 0 0) (.arrayClass (zk_aty2 r.1.2.2.1))
  | 6 => zt_wd (r.2.getD 0 0) (.methodLink own r.1.2.1 (zk_math r.1.2.2.1).1) && zt_wd (r.2.getD 1 0) (.static (zk_math r.1.2.2.1).1) && zt_wd (r.2.getD 2 0) (.initialized "java/lang/Math") && zt_wd (r.2.getD 3 0) (.code (zk_math r.1.2.2.1).1 (zk_math r.1.2.2.1).2.1 (zk_math r.1.2.2.1).2.2.1 (some (zk_math r.1.2.2.1).2.2.2))
  | 7 => zt_wd (r.2.getD 0 0) (.methodLink own r.1.2.1 objectInit) && zt_wd (r.2.getD 1 0) (.instanceMethod objectInit) && zt_wd (r.2.getD 2 0) (.code objectInit ⟨#[0xb1]⟩ 1 none)
  | 8 => zt_wd (r.2.getD 0 0) (.methodLink own r.1.2.1 arraycopyName) && zt_wd (r.2.getD 1 0) (.native arraycopyName) && zt_wd (r.2.getD 2 0) (.static arraycopyName) && zt_wd (r.2.getD 3 0) (.initialized "java/lang/System")
  | _ => false
theorem zt_lb2_ok {w : zk_W} (hw : w.2.1 = zt_cl) {own : String} {idx a b : Nat} {v : Int} {ps : List Nat} (h : zt_lb2 own ((2, idx, a, b, v), ps) = true) {s : State} {args : Array Value} (hts : ∀ x ∈ zt_TB, x.before args s = true) : zk_lkok w s args own (2, idx, a, b, v) := by
  unfold zt_lb2 at h
  dsimp only at h
  split at h
  · rename_i c hc
    obtain ⟨C, T, n⟩ := c
    simp only [Bool.and_eq_true, decide_eq_true_eq] at h
    obtain ⟨⟨⟨⟨h1, h2⟩, h3⟩, h4⟩, h5⟩ := h
    split at h3
    · rename_i ty hty
      have h3 := of_decide_eq_true h3
      refine ⟨⟨C, T, n, (T b).1, by rw [hw]; exact hc, h1, fun _ z => z, Or.inl (zt_wd_ok h2 hts)⟩, C, T, n, ty, by rw [hw]; exact hc, hty, h3, h4, fun z => ?_⟩
      rw [if_pos z] at h5
      exact of_decide_eq_true h5
    · cases h3
  · cases h
theorem zt_lb3_ok {w : zk_W} (hw : w.2.1 = zt_cl) {own : String} {idx a b : Nat} {v : Int} {ps : List Nat} (h : zt_lb3 own ((3, idx, a, b, v), ps) = true) {s : State} {args : Array Value} (hts : ∀ x ∈ zt_TB, x.before args s = true) : zk_lkok w s args own (3, idx, a, b, v) := by
  unfold zt_lb3 at h
  dsimp only at h
  split at h
  · rename_i c hc
    obtain ⟨C, T, n⟩ := c
    simp only [Bool.and_eq_true, decide_eq_true_eq] at h
    obtain ⟨⟨⟨h1, h2⟩, h3⟩, h4⟩ := h
    subst h1
    exact ⟨C, T, by rw [hw]; exact hc, zt_wd_ok h2 hts, zt_wd_ok h3 hts, zt_wd_ok h4 hts⟩
  · cases h
theorem zt_lb4_ok {w : zk_W} (hw : w.2.1 = zt_cl) {own : String} {idx a b : Nat} {v : Int} {ps : List Nat} (h : zt_lb4 own ((4, idx, a, b, v), ps) = true) {s : State} {args : Array Value} (hts : ∀ x ∈ zt_TB, x.before args s = true) : zk_lkok w s args own (4, idx, a, b, v) := by
  unfold zt_lb4 at h
  dsimp only at h
  split at h
  · rename_i c hc
    obtain ⟨C, T, n⟩ := c
    simp only [Bool.and_eq_true] at h
    exact ⟨C, T, n, by rw [hw]; exact hc, zt_wd_ok h.1 hts, zt_wd_ok h.2 hts⟩
  · cases h
theorem zt_lkb_ok {w : zk_W} (hw : w.2.1 = zt_cl) {own : String} {r : zk_L × List Nat} (h : zt_lkb own r = true) {s : State} {args : Array Value} (hts : ∀ x ∈ zt_TB, x.before args s = true) : zk_lkok w s args own r.1 := by
  obtain ⟨⟨k, idx, a, b, v⟩, ps⟩ := r
  unfold zt_lkb at h
  unfold zk_lkok
  dsimp only at h ⊢
  match k, h with
  | 0, h =>
    simp only [Bool.and_eq_true, decide_eq_true_eq] at h
    exact ⟨zt_wd_ok h.1.1 hts, h.1.2, h.2⟩
  | 1, h =>
    simp only [Bool.and_eq_true, decide_eq_true_eq] at h
    exact ⟨zt_wd_ok h.1.1 hts, h.1.2, h.2⟩
  | 2, h => exact zt_lb2_ok hw h hts
  | 3, h => exact zt_lb3_ok hw h hts
  | 4, h => exact zt_lb4_ok hw h hts
  | 5, h => exact zt_wd_ok h hts
  | 6, h =>
    simp only [Bool.and_eq_true] at h
    exact ⟨zt_wd_ok h.1.1.1 hts, zt_wd_ok h.1.1.2 hts, zt_wd_ok h.1.2 hts, zt_wd_ok h.2 hts⟩
  | 7, h =>
    simp only [Bool.and_eq_true] at h
    exact ⟨zt_wd_ok h.1.1 hts, zt_wd_ok h.1.2 hts, zt_wd_ok h.2 hts⟩
  | 8, h =>
    simp only [Bool.and_eq_true] at h
    exact ⟨zt_wd_ok h.1.1.1 hts, zt_wd_ok h.1.1.2 hts, zt_wd_ok h.1.2 hts, zt_wd_ok h.2 hts⟩
  | k + 9, h => cases h
/-- a call's row holds -/
noncomputable def zt_lcb (own : String) (r : (Nat × Nat × Nat) × List Nat) : Bool := match r.1.1 with
  | 0 => zt_wd (r.2.getD 0 0) (.methodLink own r.1.2.1 (zt_mn r.1.2.2)) && zt_wd (r.2.getD 1 0) (.initialized (zt_mn r.1.2.2).cls) && zt_wd (r.2.getD 2 0) (.instanceMethod (zt_mn r.1.2.2)) && zt_wd (r.2.getD 3 0) (.selects (zt_mn r.1.2.2).cls (zt_mn r.1.2.2) (zt_mn r.1.2.2))
  | 1 => zt_wd (r.2.getD 0 0) (.methodLink own r.1.2.1 (zt_mn r.1.2.2)) && zt_wd (r.2.getD 1 0) (.initialized (zt_mn r.1.2.2).cls) && zt_wd (r.2.getD 2 0) (.static (zt_mn r.1.2.2))
  | 2 => zt_wd (r.2.getD 0 0) (.methodLink own r.1.2.1 (zt_mn r.1.2.2)) && zt_wd (r.2.getD 1 0) (.initialized (zt_mn r.1.2.2).cls) && zt_wd (r.2.getD 2 0) (.instanceMethod (zt_mn r.1.2.2))
  | _ => false
theorem zt_lcb_ok {own : String} {r : (Nat × Nat × Nat) × List Nat} (h : zt_lcb own r = true) {s : State} {args : Array Value} (hts : ∀ x ∈ zt_TB, x.before args s = true) : zk_lc s args own r.1.1 r.1.2.1 (zt_mn r.1.2.2) := by
  obtain ⟨⟨k, idx, a⟩, ps⟩ := r
  unfold zt_lcb at h
  dsimp only at h ⊢
  match k, h with
  | 0, h =>
    simp only [Bool.and_eq_true] at h
    exact ⟨zt_wd_ok h.1.1.1 hts, zt_wd_ok h.1.1.2 hts, zt_wd_ok h.1.2 hts, zt_wd_ok h.2 hts⟩
  | 1, h =>
    simp only [Bool.and_eq_true] at h
    exact ⟨zt_wd_ok h.1.1 hts, zt_wd_ok h.1.2 hts, zt_wd_ok h.2 hts⟩
  | 2, h =>
    simp only [Bool.and_eq_true] at h
    exact ⟨zt_wd_ok h.1.1 hts, zt_wd_ok h.1.2 hts, zt_wd_ok h.2 hts⟩
  | k + 3, h => cases h