/-! the small machine's tables, by program out of the printed names -/
abbrev zV : Type := Int32 ⊕ Int64 ⊕ Option Nat
abbrev zM : Type := ByteArray × Nat × Nat × Option FieldType × MethodName × Bool
def zRn (o : Nat) : String := match o with
  | 0 => RX0
  | 1 => RX1
  | 2 => RX2
  | 3 => RX3
  | 4 => RX4
  | 5 => RX5
  | 6 => RX6
  | 7 => RX7
  | 8 => RX8
  | 9 => RX9
  | 10 => RX10
  | 11 => RX11
  | 12 => RX12
  | 13 => RL
  | 14 => RJ0
  | 15 => RJ1
  | 16 => RJ6
  | 17 => RJ7
  | _ => RJ3
def zTT (c : Nat) : u_T := match c with
  | 0 => TX0
  | 1 => TX1
  | 2 => TX2
  | 3 => TX3
  | 4 => TX4
  | 5 => TX5
  | 6 => TX6
  | 7 => TX7
  | 8 => TX8
  | 9 => TX9
  | 10 => TX10
  | 11 => TX11
  | _ => TX12
def zty (c : Nat) : Nat → FieldType := match c with
  | 0 => tyX0
  | 1 => tyX1
  | 2 => tyX2
  | 3 => tyX3
  | 4 => tyX4
  | 5 => tyX5
  | 6 => tyX6
  | 7 => tyX7
  | 8 => tyX8
  | 9 => tyX9
  | 10 => tyX10
  | 11 => tyX11
  | _ => tyX12
/-- the sorts of a class's fields: 0 int, 1 boolean, 3 reference -/
def zft (c : Nat) : List Nat := match c with
  | 0 => [0, 0, 0, 0]
  | 1 => [3, 3, 0, 0, 3]
  | 2 => [0, 0, 3, 3, 3, 3, 3]
  | 3 => [3, 3, 3, 3]
  | 4 => [0, 0, 0, 0, 0, 0, 0, 0, 0, 3, 3, 3, 3, 3, 3]
  | 5 => [3, 0, 0, 0, 0, 0, 3, 3, 3, 3, 0, 0, 0]
  | 6 => [3, 3, 3, 3, 0, 0, 0]
  | 7 => [3, 0, 0, 0, 0, 3]
  | 8 => [0, 0, 0]
  | 9 => [0, 0, 0, 0]
  | 10 => [0, 0, 0, 0]
  | 11 => [3, 0, 0, 3, 3, 3, 3, 3, 3, 3, 3, 3, 0, 0, 3, 0]
  | 12 => [0, 3, 0, 0, 0, 0, 0, 0, 0, 0, 0, 0, 3, 1, 1, 3, 3, 3, 3, 3, 0, 0, 3, 0, 3, 3, 0, 0, 3, 3, 3, 0, 0, 0, 0, 3, 3, 3, 0]
  | _ => []
def zfin (c f : Nat) : Bool := (zTT c f).2.2.2
def zrc (k : Nat) : Nat := match k with
  | 16 => 0
  | 17 => 2
  | 18 => 8
  | 19 => 9
  | 20 => 10
  | _ => 99
def zak (c : Nat) : Nat := match c with
  | 0 => 16
  | 2 => 17
  | 8 => 18
  | 9 => 19
  | 10 => 20
  | _ => 0
abbrev mX0_init : zM := (cX0_init, 0, 1, none, yX0_init, true)
abbrev mX1_init : zM := (cX1_init, 1, 1, none, yX1_init, true)
abbrev mX1_solve : zM := (cX1_solve, 1, 7, none, yX1_solve, false)
abbrev mX1_worth : zM := (cX1_worth, 1, 5, (some .int), yX1_worth, false)
abbrev mX1_choose : zM := (cX1_choose, 1, 6, none, yX1_choose, false)
abbrev mX1_firstBest : zM := (cX1_firstBest, 1, 5, (some .int), yX1_firstBest, false)
abbrev mX2_init : zM := (cX2_init, 2, 1, none, yX2_init, true)
abbrev mX2_begin : zM := (cX2_begin, 2, 3, none, yX2_begin, false)
abbrev mX2_copyFrom : zM := (cX2_copyFrom, 2, 2, none, yX2_copyFrom, false)
abbrev mX2_isClosed : zM := (cX2_isClosed, 2, 2, (some .boolean), yX2_isClosed, false)
abbrev mX2_isSent : zM := (cX2_isSent, 2, 2, (some .boolean), yX2_isSent, false)
abbrev mX3_init : zM := (cX3_init, 3, 2, none, yX3_init, true)
abbrev mX3_fewestToWatch : zM := (cX3_fewestToWatch, 3, 9, (some .int), yX3_fewestToWatch, false)
abbrev mX3_waysOutOf : zM := (cX3_waysOutOf, 3, 4, (some .int), yX3_waysOutOf, false)
abbrev mX3_findRound : zM := (cX3_findRound, 3, 6, (some .int), yX3_findRound, false)
abbrev mX3_findShortest : zM := (cX3_findShortest, 3, 6, none, yX3_findShortest, false)
abbrev mX3_findRests : zM := (cX3_findRests, 3, 6, none, yX3_findRests, false)
abbrev mX3_daysOver : zM := (cX3_daysOver, 3, 4, (some .int), yX3_daysOver, false)
abbrev mX3_nextOf : zM := (cX3_nextOf, 3, 4, (some .int), yX3_nextOf, false)
abbrev mX4_init : zM := (cX4_init, 4, 2, none, yX4_init, true)
abbrev mX4_clear : zM := (cX4_clear, 4, 1, none, yX4_clear, false)
abbrev mX4_boxLength : zM := (cX4_boxLength, 4, 2, (some .int), yX4_boxLength, false)
abbrev mX4_wayBetween : zM := (cX4_wayBetween, 4, 5, (some .int), yX4_wayBetween, false)
abbrev mX4_hasSong : zM := (cX4_hasSong, 4, 4, (some .boolean), yX4_hasSong, false)
abbrev mX4_lastSpoutOf : zM := (cX4_lastSpoutOf, 4, 3, (some .int), yX4_lastSpoutOf, false)
abbrev mX5_init : zM := (cX5_init, 5, 3, none, yX5_init, true)
abbrev mX5_readPost : zM := (cX5_readPost, 5, 4, (some .boolean), yX5_readPost, false)
abbrev mX5_faulty : zM := (cX5_faulty, 5, 2, (some .boolean), yX5_faulty, false)
abbrev mX5_readLine : zM := (cX5_readLine, 5, 3, (some .boolean), yX5_readLine, false)
abbrev mX5_readHead : zM := (cX5_readHead, 5, 1, (some .boolean), yX5_readHead, false)
abbrev mX5_readIsland : zM := (cX5_readIsland, 5, 3, (some .boolean), yX5_readIsland, false)
abbrev mX5_readWay : zM := (cX5_readWay, 5, 2, (some .boolean), yX5_readWay, false)
abbrev mX5_readWhale : zM := (cX5_readWhale, 5, 2, (some .boolean), yX5_readWhale, false)
abbrev mX5_readBox : zM := (cX5_readBox, 5, 2, (some .boolean), yX5_readBox, false)
abbrev mX5_readSpout : zM := (cX5_readSpout, 5, 4, (some .boolean), yX5_readSpout, false)
abbrev mX5_word : zM := (cX5_word, 5, 2, (some .boolean), yX5_word, false)
abbrev mX5_whole : zM := (cX5_whole, 5, 4, (some .boolean), yX5_whole, false)
abbrev mX5_newName : zM := (cX5_newName, 5, 3, (some .boolean), yX5_newName, false)
abbrev mX5_toldName : zM := (cX5_toldName, 5, 3, (some .boolean), yX5_toldName, false)
abbrev mX5_nameOfToken : zM := (cX5_nameOfToken, 5, 4, (some .int), yX5_nameOfToken, false)
abbrev mX5_letters : zM := (cX5_letters, 5, 4, (some .long), yX5_letters, false)
abbrev mX5_songOfToken : zM := (cX5_songOfToken, 5, 5, (some .int), yX5_songOfToken, false)
abbrev mX5_kindOfToken : zM := (cX5_kindOfToken, 5, 1, (some .int), yX5_kindOfToken, false)
abbrev mX5_sortOfLine : zM := (cX5_sortOfLine, 5, 1, (some .int), yX5_sortOfLine, false)
abbrev mX5_isToken : zM := (cX5_isToken, 5, 3, (some .boolean), yX5_isToken, false)
abbrev mX5_nextToken : zM := (cX5_nextToken, 5, 1, none, yX5_nextToken, false)
abbrev mX5_passAll : zM := (cX5_passAll, 5, 3, (some .boolean), yX5_passAll, false)
abbrev mX6_init : zM := (cX6_init, 6, 4, none, yX6_init, true)
abbrev mX6_dayOfLeaving : zM := (cX6_dayOfLeaving, 6, 6, (some .int), yX6_dayOfLeaving, false)
abbrev mX6_findFirstDays : zM := (cX6_findFirstDays, 6, 10, none, yX6_findFirstDays, false)
abbrev mX6_goes : zM := (cX6_goes, 6, 7, (some .boolean), yX6_goes, false)
abbrev mX6_firstDayAt : zM := (cX6_firstDayAt, 6, 5, (some .int), yX6_firstDayAt, false)
abbrev mX6_dayOfBringing : zM := (cX6_dayOfBringing, 6, 6, (some .int), yX6_dayOfBringing, false)
abbrev mX6_soonestBringer : zM := (cX6_soonestBringer, 6, 6, (some .int), yX6_soonestBringer, false)
abbrev mX6_surestBringer : zM := (cX6_surestBringer, 6, 6, (some .int), yX6_surestBringer, false)
abbrev mX6_bringersBy : zM := (cX6_bringersBy, 6, 6, (some .int), yX6_bringersBy, false)
abbrev mX6_dayOfMeeting : zM := (cX6_dayOfMeeting, 6, 8, (some .int), yX6_dayOfMeeting, false)
abbrev mX6_fittingWhales : zM := (cX6_fittingWhales, 6, 3, (some .int), yX6_fittingWhales, false)
abbrev mX6_isFitting : zM := (cX6_isFitting, 6, 6, (some .boolean), yX6_isFitting, false)
abbrev mX6_islandsReached : zM := (cX6_islandsReached, 6, 7, (some .int), yX6_islandsReached, false)
abbrev mX6_bestPier : zM := (cX6_bestPier, 6, 7, (some .int), yX6_bestPier, false)
abbrev mX6_whalesReaching : zM := (cX6_whalesReaching, 6, 5, (some .int), yX6_whalesReaching, false)
abbrev mX7_init : zM := (cX7_init, 7, 2, none, yX7_init, true)
abbrev mX7_fallIn : zM := (cX7_fallIn, 7, 2, (some .int), yX7_fallIn, false)
abbrev mX7_raised : zM := (cX7_raised, 7, 6, (some .int), yX7_raised, false)
abbrev mX7_songIn : zM := (cX7_songIn, 7, 3, (some .int), yX7_songIn, false)
abbrev mX7_hearerOf : zM := (cX7_hearerOf, 7, 8, (some .int), yX7_hearerOf, false)
abbrev mX7_apartness : zM := (cX7_apartness, 7, 3, (some .int), yX7_apartness, false)
abbrev mX7_bearable : zM := (cX7_bearable, 7, 5, (some .int), yX7_bearable, false)
abbrev mX7_mixedPairs : zM := (cX7_mixedPairs, 7, 5, (some .int), yX7_mixedPairs, false)
abbrev mX7_findNew : zM := (cX7_findNew, 7, 9, (some .int), yX7_findNew, false)
abbrev mX7_keepSongsOf : zM := (cX7_keepSongsOf, 7, 5, (some .int), yX7_keepSongsOf, false)
abbrev mX7_isOfNotes : zM := (cX7_isOfNotes, 7, 4, (some .boolean), yX7_isOfNotes, false)
abbrev mX7_isFarFromKept : zM := (cX7_isFarFromKept, 7, 5, (some .boolean), yX7_isFarFromKept, false)
abbrev mX7_draw : zM := (cX7_draw, 7, 1, (some .int), yX7_draw, false)
abbrev mX7_slipped : zM := (cX7_slipped, 7, 4, (some .int), yX7_slipped, false)
abbrev mX8_init : zM := (cX8_init, 8, 1, none, yX8_init, true)
abbrev mX9_init : zM := (cX9_init, 9, 1, none, yX9_init, true)
abbrev mX10_init : zM := (cX10_init, 10, 1, none, yX10_init, true)
abbrev mX11_init : zM := (cX11_init, 11, 2, none, yX11_init, true)
abbrev mX11_feed : zM := (cX11_feed, 11, 6, (some .int), yX11_feed, false)
abbrev mX11_post : zM := (cX11_post, 11, 2, (some .int), yX11_post, false)
abbrev mX11_fault : zM := (cX11_fault, 11, 1, (some .int), yX11_fault, false)
abbrev mX11_where : zM := (cX11_where, 11, 1, (some .int), yX11_where, false)
abbrev mX11_whale : zM := (cX11_whale, 11, 3, (some .int), yX11_whale, false)
abbrev mX11_box : zM := (cX11_box, 11, 3, (some .int), yX11_box, false)
abbrev mX11_length : zM := (cX11_length, 11, 2, (some .int), yX11_length, false)
abbrev mX11_note : zM := (cX11_note, 11, 3, (some .int), yX11_note, false)
abbrev mX11_sung : zM := (cX11_sung, 11, 3, (some .int), yX11_sung, false)
abbrev mX11_heard : zM := (cX11_heard, 11, 2, (some .int), yX11_heard, false)
abbrev mX11_way : zM := (cX11_way, 11, 4, (some .int), yX11_way, false)
abbrev mX11_season : zM := (cX11_season, 11, 2, (some .int), yX11_season, false)
abbrev mX11_sets : zM := (cX11_sets, 11, 4, (some .int), yX11_sets, false)
abbrev mX11_sent : zM := (cX11_sent, 11, 4, (some .int), yX11_sent, false)
abbrev mX11_apart : zM := (cX11_apart, 11, 3, (some .int), yX11_apart, false)
abbrev mX11_bear : zM := (cX11_bear, 11, 1, (some .int), yX11_bear, false)
abbrev mX11_mixed : zM := (cX11_mixed, 11, 1, (some .int), yX11_mixed, false)
abbrev mX11_fresh : zM := (cX11_fresh, 11, 4, (some .int), yX11_fresh, false)
abbrev mX11_byTurns : zM := (cX11_byTurns, 11, 4, (some .int), yX11_byTurns, false)
abbrev mX11_near : zM := (cX11_near, 11, 2, (some .int), yX11_near, false)
abbrev mX11_asNear : zM := (cX11_asNear, 11, 2, (some .int), yX11_asNear, false)
abbrev mX11_heardIn : zM := (cX11_heardIn, 11, 3, (some .int), yX11_heardIn, false)
abbrev mX11_strange : zM := (cX11_strange, 11, 3, (some .int), yX11_strange, false)
abbrev mX11_arrival : zM := (cX11_arrival, 11, 5, (some .int), yX11_arrival, false)
abbrev mX11_brings : zM := (cX11_brings, 11, 3, (some .int), yX11_brings, false)
abbrev mX11_soonest : zM := (cX11_soonest, 11, 2, (some .int), yX11_soonest, false)
abbrev mX11_surest : zM := (cX11_surest, 11, 2, (some .int), yX11_surest, false)
abbrev mX11_by : zM := (cX11_by, 11, 3, (some .int), yX11_by, false)
abbrev mX11_registered : zM := (cX11_registered, 11, 8, (some .long), yX11_registered, false)
abbrev mX11_match : zM := (cX11_match, 11, 1, (some .int), yX11_match, false)
abbrev mX11_matchDays : zM := (cX11_matchDays, 11, 1, (some .int), yX11_matchDays, false)
abbrev mX11_matchOf : zM := (cX11_matchOf, 11, 2, (some .int), yX11_matchOf, false)
abbrev mX11_meet : zM := (cX11_meet, 11, 5, (some .int), yX11_meet, false)
abbrev mX11_fits : zM := (cX11_fits, 11, 1, (some .int), yX11_fits, false)
abbrev mX11_reach : zM := (cX11_reach, 11, 3, (some .int), yX11_reach, false)
abbrev mX11_pier : zM := (cX11_pier, 11, 2, (some .int), yX11_pier, false)
abbrev mX11_watch : zM := (cX11_watch, 11, 3, (some .int), yX11_watch, false)
abbrev mX11_round : zM := (cX11_round, 11, 2, (some .int), yX11_round, false)
abbrev mX11_roundAt : zM := (cX11_roundAt, 11, 3, (some .int), yX11_roundAt, false)
abbrev mX11_decade : zM := (cX11_decade, 11, 5, (some .int), yX11_decade, false)
abbrev mX11_send : zM := (cX11_send, 11, 4, (some .int), yX11_send, false)
abbrev mX11_tune : zM := (cX11_tune, 11, 5, (some .boolean), yX11_tune, false)
abbrev mX11_years : zM := (cX11_years, 11, 2, (some .int), yX11_years, false)
abbrev mX11_close : zM := (cX11_close, 11, 3, (some .boolean), yX11_close, false)
abbrev mX11_undo : zM := (cX11_undo, 11, 1, (some .boolean), yX11_undo, false)
abbrev mX11_image : zM := (cX11_image, 11, 1, (some .int), yX11_image, false)
abbrev mX11_back : zM := (cX11_back, 11, 2, (some .boolean), yX11_back, false)
abbrev mX11_led : zM := (cX11_led, 11, 4, (some .int), yX11_led, false)
abbrev mX11_size : zM := (cX11_size, 11, 2, (some .int), yX11_size, false)
abbrev mX11_trouble : zM := (cX11_trouble, 11, 1, (some .int), yX11_trouble, false)
abbrev mX11_granted : zM := (cX11_granted, 11, 2, (some .int), yX11_granted, false)
abbrev mX11_refused : zM := (cX11_refused, 11, 2, (some .int), yX11_refused, false)
abbrev mX11_hasGranted : zM := (cX11_hasGranted, 11, 1, (some .boolean), yX11_hasGranted, false)
abbrev mX11_hasRefused : zM := (cX11_hasRefused, 11, 2, (some .boolean), yX11_hasRefused, false)
abbrev mX11_hasPost : zM := (cX11_hasPost, 11, 1, (some .boolean), yX11_hasPost, false)
abbrev mX11_isIsland : zM := (cX11_isIsland, 11, 2, (some .boolean), yX11_isIsland, false)
abbrev mX11_areTwoIslands : zM := (cX11_areTwoIslands, 11, 3, (some .boolean), yX11_areTwoIslands, false)
abbrev mX11_isWay : zM := (cX11_isWay, 11, 2, (some .boolean), yX11_isWay, false)
abbrev mX11_isWhale : zM := (cX11_isWhale, 11, 2, (some .boolean), yX11_isWhale, false)
abbrev mX11_isBox : zM := (cX11_isBox, 11, 2, (some .boolean), yX11_isBox, false)
abbrev mX11_isNoteOfBox : zM := (cX11_isNoteOfBox, 11, 3, (some .boolean), yX11_isNoteOfBox, false)
abbrev mX11_isWithin : zM := (cX11_isWithin, 11, 2, (some .boolean), yX11_isWithin, false)
abbrev mX11_refusalOfNewSong : zM := (cX11_refusalOfNewSong, 11, 4, (some .int), yX11_refusalOfNewSong, false)
abbrev mX11_appendBytes : zM := (cX11_appendBytes, 11, 3, none, yX11_appendBytes, false)
abbrev mX11_takeDraft : zM := (cX11_takeDraft, 11, 2, none, yX11_takeDraft, false)
abbrev mX11_keepForUndo : zM := (cX11_keepForUndo, 11, 1, none, yX11_keepForUndo, false)
abbrev mX11_hearerIn : zM := (cX11_hearerIn, 11, 3, (some .int), yX11_hearerIn, false)
abbrev mX11_sentPart : zM := (cX11_sentPart, 11, 3, (some .int), yX11_sentPart, false)
abbrev mX11_heardWithSlips : zM := (cX11_heardWithSlips, 11, 6, (some .int), yX11_heardWithSlips, false)
abbrev mX11_solveMatch : zM := (cX11_solveMatch, 11, 3, none, yX11_solveMatch, false)
abbrev mX11_commonDivisor : zM := (cX11_commonDivisor, 11, 6, (some .int), yX11_commonDivisor, false)
abbrev mX11_noteAt : zM := (cX11_noteAt, 11, 3, (some .int), yX11_noteAt, false)
abbrev mX11_withNote : zM := (cX11_withNote, 11, 5, (some .int), yX11_withNote, false)
abbrev mX11_unlikeNotes : zM := (cX11_unlikeNotes, 11, 3, (some .int), yX11_unlikeNotes, false)
abbrev mX12_init : zM := (cX12_init, 12, 1, none, yX12_init, true)
abbrev mX12_good : zM := (cX12_good, 12, 1, none, yX12_good, false)
abbrev mX12_no : zM := (cX12_no, 12, 2, (some .int), yX12_no, false)
abbrev mX12_isNot : zM := (cX12_isNot, 12, 2, (some .boolean), yX12_isNot, false)
abbrev mX12_in : zM := (cX12_in, 12, 3, (some .boolean), yX12_in, false)
abbrev mX12_hasBit : zM := (cX12_hasBit, 12, 2, (some .boolean), yX12_hasBit, false)
abbrev mX12_ones : zM := (cX12_ones, 12, 3, (some .int), yX12_ones, false)
abbrev mX12_copy : zM := (cX12_copy, 12, 6, none, yX12_copy, false)
abbrev mX12_later : zM := (cX12_later, 12, 2, (some .int), yX12_later, false)
abbrev mX12_feed : zM := (cX12_feed, 12, 8, (some .int), yX12_feed, false)
abbrev mX12_look : zM := (cX12_look, 12, 2, (some .int), yX12_look, false)
abbrev mX12_isSmall : zM := (cX12_isSmall, 12, 1, (some .boolean), yX12_isSmall, false)
abbrev mX12_isDigit : zM := (cX12_isDigit, 12, 1, (some .boolean), yX12_isDigit, false)
abbrev mX12_next : zM := (cX12_next, 12, 4, none, yX12_next, false)
abbrev mX12_wrong : zM := (cX12_wrong, 12, 3, none, yX12_wrong, false)
abbrev mX12_isWord : zM := (cX12_isWord, 12, 4, (some .boolean), yX12_isWord, false)
abbrev mX12_takesWord : zM := (cX12_takesWord, 12, 2, (some .boolean), yX12_takesWord, false)
abbrev mX12_must : zM := (cX12_must, 12, 2, none, yX12_must, false)
abbrev mX12_mustName : zM := (cX12_mustName, 12, 1, none, yX12_mustName, false)
abbrev mX12_find : zM := (cX12_find, 12, 4, (some .int), yX12_find, false)
abbrev mX12_newName : zM := (cX12_newName, 12, 3, none, yX12_newName, false)
abbrev mX12_named : zM := (cX12_named, 12, 4, (some .int), yX12_named, false)
abbrev mX12_islandPassed : zM := (cX12_islandPassed, 12, 2, (some .int), yX12_islandPassed, false)
abbrev mX12_islandBehind : zM := (cX12_islandBehind, 12, 2, (some .int), yX12_islandBehind, false)
abbrev mX12_number : zM := (cX12_number, 12, 4, (some .int), yX12_number, false)
abbrev mX12_after : zM := (cX12_after, 12, 4, (some .int), yX12_after, false)
abbrev mX12_post : zM := (cX12_post, 12, 3, (some .int), yX12_post, false)
abbrev mX12_begins : zM := (cX12_begins, 12, 3, (some .boolean), yX12_begins, false)
abbrev mX12_readLine : zM := (cX12_readLine, 12, 1, none, yX12_readLine, false)
abbrev mX12_postLine : zM := (cX12_postLine, 12, 1, none, yX12_postLine, false)
abbrev mX12_islandLine : zM := (cX12_islandLine, 12, 6, none, yX12_islandLine, false)
abbrev mX12_isSong : zM := (cX12_isSong, 12, 5, (some .boolean), yX12_isSong, false)
abbrev mX12_wayLine : zM := (cX12_wayLine, 12, 6, none, yX12_wayLine, false)
abbrev mX12_joins : zM := (cX12_joins, 12, 6, (some .boolean), yX12_joins, false)
abbrev mX12_whaleLine : zM := (cX12_whaleLine, 12, 3, none, yX12_whaleLine, false)
abbrev mX12_boxLine : zM := (cX12_boxLine, 12, 2, none, yX12_boxLine, false)
abbrev mX12_spoutLine : zM := (cX12_spoutLine, 12, 6, none, yX12_spoutLine, false)
abbrev mX12_fault : zM := (cX12_fault, 12, 1, (some .int), yX12_fault, false)
abbrev mX12_where : zM := (cX12_where, 12, 1, (some .int), yX12_where, false)
abbrev mX12_isIsland : zM := (cX12_isIsland, 12, 2, (some .boolean), yX12_isIsland, false)
abbrev mX12_isWhale : zM := (cX12_isWhale, 12, 2, (some .boolean), yX12_isWhale, false)
abbrev mX12_isBox : zM := (cX12_isBox, 12, 2, (some .boolean), yX12_isBox, false)
abbrev mX12_ofWhale : zM := (cX12_ofWhale, 12, 3, (some .int), yX12_ofWhale, false)
abbrev mX12_ofBox : zM := (cX12_ofBox, 12, 3, (some .int), yX12_ofBox, false)
abbrev mX12_songLong : zM := (cX12_songLong, 12, 2, (some .int), yX12_songLong, false)
abbrev mX12_boxLong : zM := (cX12_boxLong, 12, 2, (some .int), yX12_boxLong, false)
abbrev mX12_noteIn : zM := (cX12_noteIn, 12, 5, (some .int), yX12_noteIn, false)
abbrev mX12_whale : zM := (cX12_whale, 12, 3, (some .int), yX12_whale, false)
abbrev mX12_box : zM := (cX12_box, 12, 4, (some .int), yX12_box, false)
abbrev mX12_length : zM := (cX12_length, 12, 2, (some .int), yX12_length, false)
abbrev mX12_note : zM := (cX12_note, 12, 3, (some .int), yX12_note, false)
abbrev mX12_sung : zM := (cX12_sung, 12, 3, (some .int), yX12_sung, false)
abbrev mX12_unlike : zM := (cX12_unlike, 12, 8, (some .int), yX12_unlike, false)
abbrev mX12_hearsIn : zM := (cX12_hearsIn, 12, 9, (some .int), yX12_hearsIn, false)
abbrev mX12_heardNow : zM := (cX12_heardNow, 12, 2, (some .int), yX12_heardNow, false)
abbrev mX12_heard : zM := (cX12_heard, 12, 2, (some .int), yX12_heard, false)
abbrev mX12_isClosed : zM := (cX12_isClosed, 12, 2, (some .boolean), yX12_isClosed, false)
abbrev mX12_wayOf : zM := (cX12_wayOf, 12, 4, (some .int), yX12_wayOf, false)
abbrev mX12_way : zM := (cX12_way, 12, 4, (some .int), yX12_way, false)
abbrev mX12_nearOf : zM := (cX12_nearOf, 12, 7, (some .int), yX12_nearOf, false)
abbrev mX12_near : zM := (cX12_near, 12, 2, (some .int), yX12_near, false)
abbrev mX12_asNear : zM := (cX12_asNear, 12, 2, (some .int), yX12_asNear, false)
abbrev mX12_sent : zM := (cX12_sent, 12, 4, (some .int), yX12_sent, false)
abbrev mX12_apartOf : zM := (cX12_apartOf, 12, 5, (some .int), yX12_apartOf, false)
abbrev mX12_apart : zM := (cX12_apart, 12, 3, (some .int), yX12_apart, false)
abbrev mX12_bear : zM := (cX12_bear, 12, 4, (some .int), yX12_bear, false)
abbrev mX12_mixed : zM := (cX12_mixed, 12, 4, (some .int), yX12_mixed, false)
abbrev mX12_power : zM := (cX12_power, 12, 4, (some .int), yX12_power, false)
abbrev mX12_digitsApart : zM := (cX12_digitsApart, 12, 8, (some .int), yX12_digitsApart, false)
abbrev mX12_newSongs : zM := (cX12_newSongs, 12, 8, (some .int), yX12_newSongs, false)
abbrev mX12_songWhy : zM := (cX12_songWhy, 12, 3, (some .int), yX12_songWhy, false)
abbrev mX12_fresh : zM := (cX12_fresh, 12, 4, (some .int), yX12_fresh, false)
abbrev mX12_byTurns : zM := (cX12_byTurns, 12, 4, (some .int), yX12_byTurns, false)
abbrev mX12_heardIn : zM := (cX12_heardIn, 12, 3, (some .int), yX12_heardIn, false)
abbrev mX12_hearsItself : zM := (cX12_hearsItself, 12, 8, (some .boolean), yX12_hearsItself, false)
abbrev mX12_strange : zM := (cX12_strange, 12, 3, (some .int), yX12_strange, false)
abbrev mX12_dayBy : zM := (cX12_dayBy, 12, 4, (some .int), yX12_dayBy, false)
abbrev mX12_setsOut : zM := (cX12_setsOut, 12, 5, (some .int), yX12_setsOut, false)
abbrev mX12_seasonOf : zM := (cX12_seasonOf, 12, 1, (some .int), yX12_seasonOf, false)
abbrev mX12_season : zM := (cX12_season, 12, 2, (some .int), yX12_season, false)
abbrev mX12_sets : zM := (cX12_sets, 12, 4, (some .int), yX12_sets, false)
abbrev mX12_layDays : zM := (cX12_layDays, 12, 7, none, yX12_layDays, false)
abbrev mX12_goesBy : zM := (cX12_goesBy, 12, 8, none, yX12_goesBy, false)
abbrev mX12_arrivalOf : zM := (cX12_arrivalOf, 12, 5, (some .int), yX12_arrivalOf, false)
abbrev mX12_arrival : zM := (cX12_arrival, 12, 5, (some .int), yX12_arrival, false)
abbrev mX12_lays : zM := (cX12_lays, 12, 7, (some .boolean), yX12_lays, false)
abbrev mX12_bringsOf : zM := (cX12_bringsOf, 12, 3, (some .int), yX12_bringsOf, false)
abbrev mX12_brings : zM := (cX12_brings, 12, 3, (some .int), yX12_brings, false)
abbrev mX12_soonest : zM := (cX12_soonest, 12, 4, (some .int), yX12_soonest, false)
abbrev mX12_surestBut : zM := (cX12_surestBut, 12, 5, (some .int), yX12_surestBut, false)
abbrev mX12_surest : zM := (cX12_surest, 12, 2, (some .int), yX12_surest, false)
abbrev mX12_by : zM := (cX12_by, 12, 5, (some .int), yX12_by, false)
abbrev mX12_lowest : zM := (cX12_lowest, 12, 11, (some .long), yX12_lowest, false)
abbrev mX12_registered : zM := (cX12_registered, 12, 6, (some .long), yX12_registered, false)
abbrev mX12_tryMatch : zM := (cX12_tryMatch, 12, 6, none, yX12_tryMatch, false)
abbrev mX12_seekMatch : zM := (cX12_seekMatch, 12, 3, none, yX12_seekMatch, false)
abbrev mX12_match : zM := (cX12_match, 12, 1, (some .int), yX12_match, false)
abbrev mX12_matchDays : zM := (cX12_matchDays, 12, 1, (some .int), yX12_matchDays, false)
abbrev mX12_matchOf : zM := (cX12_matchOf, 12, 2, (some .int), yX12_matchOf, false)
abbrev mX12_meet : zM := (cX12_meet, 12, 8, (some .int), yX12_meet, false)
abbrev mX12_fitsAll : zM := (cX12_fitsAll, 12, 6, (some .boolean), yX12_fitsAll, false)
abbrev mX12_fits : zM := (cX12_fits, 12, 3, (some .int), yX12_fits, false)
abbrev mX12_reachOf : zM := (cX12_reachOf, 12, 5, (some .int), yX12_reachOf, false)
abbrev mX12_reach : zM := (cX12_reach, 12, 3, (some .int), yX12_reach, false)
abbrev mX12_pier : zM := (cX12_pier, 12, 8, (some .int), yX12_pier, false)
abbrev mX12_doLead : zM := (cX12_doLead, 12, 8, (some .boolean), yX12_doLead, false)
abbrev mX12_watch : zM := (cX12_watch, 12, 5, (some .int), yX12_watch, false)
abbrev mX12_layFar : zM := (cX12_layFar, 12, 4, none, yX12_layFar, false)
abbrev mX12_tryRound : zM := (cX12_tryRound, 12, 5, none, yX12_tryRound, false)
abbrev mX12_seekRound : zM := (cX12_seekRound, 12, 2, (some .int), yX12_seekRound, false)
abbrev mX12_round : zM := (cX12_round, 12, 2, (some .int), yX12_round, false)
abbrev mX12_roundAt : zM := (cX12_roundAt, 12, 3, (some .int), yX12_roundAt, false)
abbrev mX12_decade : zM := (cX12_decade, 12, 9, (some .int), yX12_decade, false)
abbrev mX12_note1 : zM := (cX12_note1, 12, 2, none, yX12_note1, false)
abbrev mX12_send : zM := (cX12_send, 12, 5, (some .int), yX12_send, false)
abbrev mX12_tune : zM := (cX12_tune, 12, 4, (some .boolean), yX12_tune, false)
abbrev mX12_years : zM := (cX12_years, 12, 2, (some .int), yX12_years, false)
abbrev mX12_close : zM := (cX12_close, 12, 3, (some .boolean), yX12_close, false)
abbrev mX12_undo : zM := (cX12_undo, 12, 1, (some .boolean), yX12_undo, false)
abbrev mX12_image : zM := (cX12_image, 12, 1, (some .int), yX12_image, false)
abbrev mX12_back : zM := (cX12_back, 12, 2, (some .boolean), yX12_back, false)
abbrev mX12_led : zM := (cX12_led, 12, 4, (some .int), yX12_led, false)
abbrev mX12_size : zM := (cX12_size, 12, 2, (some .int), yX12_size, false)
abbrev mX12_trouble : zM := (cX12_trouble, 12, 1, (some .int), yX12_trouble, false)
abbrev mJ0_length_8abf5 : zM := (cJ0_length_8abf5, 14, 1, (some .int), yJ0_length_8abf5, false)
abbrev mJ0_charAt_5068e : zM := (cJ0_charAt_5068e, 14, 2, (some .char), yJ0_charAt_5068e, false)
abbrev mJ0_coder_7d493 : zM := (cJ0_coder_7d493, 14, 1, (some .byte), yJ0_coder_7d493, false)
abbrev mJ0_isLatin1_aae02 : zM := (cJ0_isLatin1_aae02, 14, 1, (some .boolean), yJ0_isLatin1_aae02, false)
abbrev mJ0_checkIndex_df160 : zM := (cJ0_checkIndex_df160, 14, 2, none, yJ0_checkIndex_df160, false)
abbrev mJ1_charAt_3b067 : zM := (cJ1_charAt_3b067, 15, 2, (some .char), yJ1_charAt_3b067, false)
abbrev mJ3_checkIndex_8e157 : zM := (cJ3_checkIndex_8e157, 18, 3, (some .int), yJ3_checkIndex_8e157, false)
abbrev mJ7_fill_53178 : zM := (cJ7_fill_53178, 17, 4, none, yJ7_fill_53178, false)
abbrev mJ6_bitCount_0f7a4 : zM := (cJ6_bitCount_0f7a4, 16, 1, (some .int), yJ6_bitCount_0f7a4, false)
abbrev mL_law : zM := (cL_law, 13, 7, some .boolean, yL_law, false)
abbrev zledM : zM := mX11_led
def zlook {α : Type} (l : List (Nat × α)) (i : Nat) : Option α := match l with
  | [] => none
  | q :: t => if q.1 = i then some q.2 else zlook t i
/-- fields by (class, pool number): class, place, place of the word -/
def zfldT0 : List (Nat × Nat × Nat × Nat) := []
def zfldT1 : List (Nat × Nat × Nat × Nat) := [(9, 1, 0, 2184), (15, 1, 1, 2186), (18, 1, 2, 2188), (22, 1, 3, 2190), (25, 1, 4, 2192)]
def zfldT2 : List (Nat × Nat × Nat × Nat) := [(9, 2, 0, 2064), (15, 2, 1, 2067), (18, 2, 2, 2069), (22, 2, 3, 2072), (25, 2, 4, 2075), (28, 2, 5, 2077), (31, 2, 6, 2079), (34, 4, 6, 1178), (39, 4, 12, 1206), (43, 10, 1, 1087), (48, 4, 7, 1184), (51, 4, 9, 1192), (54, 4, 13, 1211), (58, 0, 1, 1113)]
def zfldT3 : List (Nat × Nat × Nat × Nat) := [(9, 3, 1, 2165), (15, 3, 2, 2167), (18, 3, 3, 2168), (21, 3, 0, 2163), (25, 4, 4, 1167), (40, 4, 5, 1174), (43, 4, 11, 1201), (47, 9, 0, 1053), (52, 9, 1, 1057), (73, 9, 2, 1062)]
def zfldT4 : List (Nat × Nat × Nat × Nat) := [(9, 4, 9, 1191), (15, 4, 10, 1196), (20, 4, 11, 1200), (26, 4, 12, 1205), (32, 4, 13, 1210), (38, 4, 14, 1215), (46, 4, 0, 1151), (50, 4, 1, 1155), (53, 4, 2, 1160), (56, 4, 3, 1163), (59, 4, 4, 1168), (62, 4, 5, 1173), (65, 4, 6, 1179), (68, 4, 7, 1183), (71, 4, 8, 1187), (74, 0, 1, 1114), (77, 9, 0, 1055), (80, 9, 1, 1059), (83, 8, 0, 1137)]
def zfldT5 : List (Nat × Nat × Nat × Nat) := [(9, 5, 1, 2016), (15, 5, 2, 2017), (18, 5, 3, 2018), (21, 5, 4, 2019), (24, 5, 5, 2020), (27, 5, 7, 2022), (31, 5, 8, 2023), (35, 5, 9, 2024), (38, 5, 10, 2025), (41, 5, 11, 2026), (44, 5, 12, 2028), (47, 5, 0, 2015), (51, 5, 6, 2021), (73, 4, 4, 1169), (84, 4, 0, 1153), (93, 4, 5, 1176), (96, 4, 11, 1203), (104, 4, 6, 1180), (107, 4, 12, 1207), (115, 4, 7, 1185), (118, 4, 13, 1212), (126, 4, 8, 1188), (129, 4, 14, 1216), (148, 4, 1, 1156), (152, 4, 2, 1161), (156, 4, 3, 1164), (167, 4, 9, 1194), (170, 4, 10, 1198), (176, 9, 0, 1056), (181, 9, 1, 1060), (189, 9, 2, 1063), (193, 9, 3, 1066), (198, 10, 0, 1086), (204, 10, 1, 1088), (209, 10, 2, 1092), (213, 10, 3, 1095), (217, 0, 0, 1112), (223, 0, 1, 1116), (227, 0, 2, 1119), (231, 0, 3, 1122), (233, 8, 0, 1138), (237, 8, 1, 1140), (244, 8, 2, 1142)]
def zfldT6 : List (Nat × Nat × Nat × Nat) := [(9, 6, 3, 2137), (15, 6, 4, 2138), (19, 6, 5, 2140), (22, 6, 6, 2141), (25, 6, 0, 2133), (29, 6, 1, 2135), (33, 6, 2, 2136), (44, 4, 4, 1170), (49, 4, 5, 1175), (52, 4, 11, 1202), (56, 9, 0, 1054), (61, 9, 1, 1058), (74, 9, 2, 1061), (77, 9, 3, 1065), (88, 4, 12, 1208), (92, 4, 13, 1213), (99, 0, 2, 1117), (107, 10, 0, 1084), (112, 2, 6, 2080), (119, 2, 0, 2065), (127, 2, 2, 2071), (130, 0, 0, 1110), (133, 2, 3, 2074), (140, 0, 3, 1120), (149, 10, 2, 1091), (152, 4, 6, 1181), (158, 10, 3, 1094), (167, 10, 1, 1089), (170, 4, 8, 1189), (173, 4, 14, 1217), (177, 8, 0, 1139), (181, 8, 1, 1141), (184, 8, 2, 1143)]
def zfldT7 : List (Nat × Nat × Nat × Nat) := [(9, 7, 1, 2105), (15, 7, 2, 2107), (18, 7, 3, 2109), (21, 7, 4, 2111), (24, 7, 5, 2113), (28, 7, 0, 2103), (32, 4, 2, 1159), (37, 4, 0, 1152), (44, 4, 9, 1193), (47, 4, 10, 1197), (57, 4, 4, 1172), (64, 4, 1, 1157), (89, 4, 3, 1165)]
def zfldT8 : List (Nat × Nat × Nat × Nat) := []
def zfldT9 : List (Nat × Nat × Nat × Nat) := []
def zfldT10 : List (Nat × Nat × Nat × Nat) := []
def zfldT11 : List (Nat × Nat × Nat × Nat) := [(9, 11, 0, 2205), (13, 11, 1, 2206), (17, 11, 2, 2207), (23, 11, 3, 2208), (27, 11, 4, 2209), (35, 11, 5, 2210), (42, 11, 6, 2211), (51, 11, 7, 2212), (60, 11, 8, 2213), (67, 11, 9, 2214), (74, 11, 10, 2215), (78, 11, 11, 2216), (82, 11, 12, 2217), (85, 11, 13, 2218), (88, 11, 14, 2219), (91, 11, 15, 2220), (109, 4, 4, 1171), (115, 5, 11, 2027), (118, 5, 12, 2029), (125, 4, 12, 1209), (129, 10, 0, 1085), (134, 2, 2, 2070), (138, 2, 3, 2073), (141, 10, 2, 1090), (144, 10, 3, 1093), (150, 4, 13, 1214), (154, 0, 0, 1111), (159, 0, 1, 1115), (162, 0, 2, 1118), (165, 0, 3, 1121), (168, 2, 4, 2076), (171, 2, 5, 2078), (177, 4, 10, 1199), (180, 2, 0, 2066), (195, 2, 6, 2081), (213, 4, 11, 1204), (217, 9, 2, 1064), (233, 9, 3, 1067), (239, 4, 7, 1186), (265, 7, 4, 2112), (268, 7, 2, 2108), (271, 7, 3, 2110), (274, 4, 9, 1195), (301, 1, 2, 2189), (304, 1, 3, 2191), (307, 1, 1, 2187), (322, 2, 1, 2068), (331, 3, 1, 2166), (335, 7, 1, 2106), (344, 6, 4, 2139), (350, 4, 0, 1154), (370, 4, 1, 1158), (373, 4, 2, 1162), (376, 4, 3, 1166), (379, 4, 5, 1177), (382, 4, 6, 1182), (385, 4, 8, 1190), (388, 7, 0, 2104), (389, 6, 0, 2134), (390, 3, 0, 2164), (402, 1, 0, 2185)]
def zfldT12 : List (Nat × Nat × Nat × Nat) := [(7, 12, 1, 6057), (13, 12, 10, 6066), (17, 12, 12, 6068), (20, 12, 15, 6071), (23, 12, 16, 6072), (26, 12, 17, 6073), (29, 12, 18, 6074), (32, 12, 19, 6075), (35, 12, 22, 6078), (38, 12, 24, 6080), (41, 12, 25, 6081), (44, 12, 28, 6084), (47, 12, 29, 6085), (50, 12, 30, 6086), (53, 12, 35, 6091), (56, 12, 36, 6092), (59, 12, 37, 6093), (62, 12, 0, 6056), (65, 12, 11, 6067), (68, 12, 2, 6058), (71, 12, 3, 6059), (74, 12, 5, 6061), (81, 12, 4, 6060), (84, 12, 8, 6064), (87, 12, 7, 6063), (90, 12, 6, 6062), (100, 12, 13, 6069), (104, 12, 9, 6065), (180, 12, 14, 6070), (183, 12, 20, 6076), (186, 12, 21, 6077), (315, 12, 23, 6079), (358, 12, 26, 6082), (361, 12, 27, 6083), (379, 12, 31, 6087), (382, 12, 32, 6088), (392, 12, 33, 6089), (395, 12, 34, 6090), (410, 12, 38, 6094)]
def zfldT13 : List (Nat × Nat × Nat × Nat) := []
def zfldT14 : List (Nat × Nat × Nat × Nat) := []
def zfldT15 : List (Nat × Nat × Nat × Nat) := []
def zfldT16 : List (Nat × Nat × Nat × Nat) := []
def zfldT17 : List (Nat × Nat × Nat × Nat) := []
def zfldT18 : List (Nat × Nat × Nat × Nat) := []
def zfldTT : List (List (Nat × Nat × Nat × Nat)) := [zfldT0, zfldT1, zfldT2, zfldT3, zfldT4, zfldT5, zfldT6, zfldT7, zfldT8, zfldT9, zfldT10, zfldT11, zfldT12, zfldT13, zfldT14, zfldT15, zfldT16, zfldT17, zfldT18]
def zfld (o k : Nat) : Option (Nat × Nat) := (zlook (zfldTT.getD o []) k).map (fun q => (q.1, q.2.1))
def zcstT0 : List (Nat × zV × Nat) := []
def zclsT0 : List (Nat × Nat × Nat) := []
def zcstT1 : List (Nat × zV × Nat) := [(48, .inl (10000000), 5029)]
def zclsT1 : List (Nat × Nat × Nat) := []
def zcstT2 : List (Nat × zV × Nat) := []
def zclsT2 : List (Nat × Nat × Nat) := []
def zcstT3 : List (Nat × zV × Nat) := [(62, .inl (1000000), 5120)]
def zclsT3 : List (Nat × Nat × Nat) := []
def zcstT4 : List (Nat × zV × Nat) := []
def zclsT4 : List (Nat × Nat × Nat) := [(18, 9, 1040), (24, 10, 1042), (30, 0, 1044), (36, 8, 1046)]
def zcstT5 : List (Nat × zV × Nat) := [(137, .inr (.inr (some 1000016)), 3123), (146, .inr (.inr (some 1000017)), 3132), (150, .inr (.inr (some 1000018)), 3133), (154, .inr (.inr (some 1000019)), 3134), (187, .inr (.inr (some 1000020)), 3171), (191, .inr (.inr (some 1000021)), 3172), (203, .inr (.inr (some 1000026)), 3185), (207, .inr (.inr (some 1000027)), 3186), (211, .inr (.inr (some 1000028)), 3187), (215, .inr (.inr (some 1000029)), 3192), (221, .inr (.inr (some 1000030)), 3193), (225, .inr (.inr (some 1000031)), 3194), (229, .inr (.inr (some 1000032)), 3195), (255, .inr (.inr (some 1000022)), 3181), (257, .inr (.inr (some 1000023)), 3182), (259, .inr (.inr (some 1000024)), 3183), (261, .inr (.inr (some 1000025)), 3184), (263, .inr (.inr (some 1000010)), 3057), (264, .inr (.inr (some 1000011)), 3110), (265, .inr (.inr (some 1000012)), 3111), (266, .inr (.inr (some 1000013)), 3112), (267, .inr (.inr (some 1000014)), 3113), (268, .inr (.inr (some 1000015)), 3114)]
def zclsT5 : List (Nat × Nat × Nat) := []
def zcstT6 : List (Nat × zV × Nat) := [(37, .inl (1000000000), 4192)]
def zclsT6 : List (Nat × Nat × Nat) := []
def zcstT7 : List (Nat × zV × Nat) := [(84, .inl (65537), 5156)]
def zclsT7 : List (Nat × Nat × Nat) := []
def zcstT8 : List (Nat × zV × Nat) := []
def zclsT8 : List (Nat × Nat × Nat) := []
def zcstT9 : List (Nat × zV × Nat) := []
def zclsT9 : List (Nat × Nat × Nat) := []
def zcstT10 : List (Nat × zV × Nat) := []
def zclsT10 : List (Nat × Nat × Nat) := []
def zcstT11 : List (Nat × zV × Nat) := [(226, .inl (99999), 4082), (334, .inl (65536), 5143), (365, .inr (.inr (some 1000033)), 6024)]
def zclsT11 : List (Nat × Nat × Nat) := [(20, 4, 1034), (30, 5, 2009), (39, 2, 2058), (46, 7, 2097), (55, 6, 2127), (64, 3, 2157), (71, 1, 2178), (363, 99, 5225)]
def zcstT12 : List (Nat × zV × Nat) := [(131, .inr (.inr (some 1000034)), 6211), (133, .inr (.inr (some 1000039)), 7006), (135, .inr (.inr (some 1000040)), 7023), (137, .inr (.inr (some 1000041)), 7024), (139, .inr (.inr (some 1000042)), 7025), (141, .inr (.inr (some 1000043)), 7026), (211, .inr (.inr (some 1000035)), 6226), (217, .inr (.inr (some 1000036)), 7003), (219, .inr (.inr (some 1000037)), 7004), (221, .inr (.inr (some 1000038)), 7005), (234, .inr (.inr (some 1000044)), 7050), (235, .inr (.inr (some 1000045)), 7051), (237, .inr (.inr (some 1000046)), 7056), (239, .inr (.inr (some 1000047)), 7057), (241, .inr (.inr (some 1000048)), 7058), (243, .inr (.inr (some 1000049)), 7059), (245, .inr (.inr (some 1000050)), 7060), (250, .inr (.inr (some 1000051)), 7065), (252, .inr (.inr (some 1000052)), 7066), (254, .inr (.inr (some 1000053)), 7071), (256, .inr (.inr (some 1000054)), 7072), (258, .inr (.inr (some 1000055)), 7073), (260, .inr (.inr (some 1000056)), 7074), (340, .inl (99999), 8005), (341, .inl (1000000), 8029), (373, .inr (.inl (10000)), 8073), (422, .inl (65536), 8156), (423, .inl (65537), 8157)]
def zclsT12 : List (Nat × Nat × Nat) := []
def zcstT13 : List (Nat × zV × Nat) := []
def zclsT13 : List (Nat × Nat × Nat) := [(8, 11, 1026), (13, 99, 5220), (16, 12, 6050)]
def zcstT14 : List (Nat × zV × Nat) := []
def zclsT14 : List (Nat × Nat × Nat) := []
def zcstT15 : List (Nat × zV × Nat) := []
def zclsT15 : List (Nat × Nat × Nat) := []
def zcstT16 : List (Nat × zV × Nat) := [(265, .inl (1431655765), 4058), (266, .inl (858993459), 4059), (267, .inl (252645135), 4060)]
def zclsT16 : List (Nat × Nat × Nat) := []
def zcstT17 : List (Nat × zV × Nat) := []
def zclsT17 : List (Nat × Nat × Nat) := []
def zcstT18 : List (Nat × zV × Nat) := []
def zclsT18 : List (Nat × Nat × Nat) := []
def zcstTT : List (List (Nat × zV × Nat)) := [zcstT0, zcstT1, zcstT2, zcstT3, zcstT4, zcstT5, zcstT6, zcstT7, zcstT8, zcstT9, zcstT10, zcstT11, zcstT12, zcstT13, zcstT14, zcstT15, zcstT16, zcstT17, zcstT18]
def zcst (o k : Nat) : Option zV := (zlook (zcstTT.getD o []) k).map (fun q => q.1)
def zclsTT : List (List (Nat × Nat × Nat)) := [zclsT0, zclsT1, zclsT2, zclsT3, zclsT4, zclsT5, zclsT6, zclsT7, zclsT8, zclsT9, zclsT10, zclsT11, zclsT12, zclsT13, zclsT14, zclsT15, zclsT16, zclsT17, zclsT18]
def zcls (o k : Nat) : Option Nat := (zlook (zclsTT.getD o []) k).map (fun q => q.1)
/-- calls by (class, pool number): kind, how many arguments (the receiver too), the method; places of link, instanceMethod or static, selects, initialized -/
def zmthT0 : List (Nat × Nat × Nat × zM × Nat × Nat × Nat × Nat) := [(1, 10, 0, zledM, 1109, 0, 0, 0)]
def zmthT1 : List (Nat × Nat × Nat × zM × Nat × Nat × Nat × Nat) := [(3, 10, 0, zledM, 2183, 0, 0, 0),
  (28, 1, 2, mJ7_fill_53178, 5024, 4194, 0, 1020),
  (34, 0, 4, mX1_worth, 5025, 5027, 42, 1012),
  (38, 11, 0, zledM, 5030, 0, 0, 0),
  (44, 0, 3, mX1_choose, 5031, 5033, 43, 1012),
  (49, 0, 4, mX1_firstBest, 5035, 5037, 44, 1012)]
def zmthT2 : List (Nat × Nat × Nat × zM × Nat × Nat × Nat × Nat) := [(3, 10, 0, zledM, 2063, 0, 0, 0),
  (63, 14, 0, zledM, 5172, 0, 0, 0)]
def zmthT3 : List (Nat × Nat × Nat × zM × Nat × Nat × Nat × Nat) := [(3, 10, 0, zledM, 2162, 0, 0, 0),
  (31, 0, 2, mX3_waysOutOf, 5103, 5105, 47, 1011),
  (35, 1, 1, mJ6_bitCount_0f7a4, 5107, 4056, 0, 1019),
  (55, 0, 2, mX3_findShortest, 5116, 5118, 48, 1011),
  (59, 0, 1, mX3_findRests, 5123, 5125, 49, 1011),
  (63, 0, 3, mX3_nextOf, 5131, 5133, 51, 1011),
  (67, 1, 2, mJ7_fill_53178, 5121, 4194, 0, 1020),
  (76, 12, 0, zledM, 5122, 0, 0, 0),
  (81, 0, 4, mX3_daysOver, 5127, 5129, 50, 1011)]
def zmthT4 : List (Nat × Nat × Nat × zM × Nat × Nat × Nat × Nat) := [(3, 10, 0, zledM, 1039, 0, 0, 0),
  (42, 4, 1, mX9_init, 1049, 1050, 0, 1003),
  (43, 4, 1, mX10_init, 1080, 1081, 0, 1004),
  (44, 4, 1, mX0_init, 1106, 1107, 0, 1005),
  (45, 4, 1, mX8_init, 1133, 1134, 0, 1006)]
def zmthT5 : List (Nat × Nat × Nat × zM × Nat × Nat × Nat × Nat) := [(3, 10, 0, zledM, 2014, 0, 0, 0),
  (55, 0, 1, mX4_clear, 3034, 3035, 3036, 1002),
  (60, 12, 0, zledM, 3038, 0, 0, 0),
  (66, 0, 1, mX5_readLine, 3041, 3043, 2, 1007),
  (70, 0, 1, mX5_nextToken, 3045, 3047, 3, 1007),
  (76, 0, 2, mX5_faulty, 3115, 3117, 7, 1007),
  (80, 0, 1, mX5_sortOfLine, 3053, 3055, 5, 1007),
  (87, 0, 1, mX5_readHead, 3119, 3121, 8, 1007),
  (90, 0, 1, mX5_readIsland, 3135, 3137, 11, 1007),
  (100, 0, 2, mX5_readWay, 3159, 3161, 16, 1007),
  (111, 0, 2, mX5_readWhale, 3173, 3175, 18, 1007),
  (122, 0, 2, mX5_readBox, 3188, 3190, 20, 1007),
  (133, 0, 2, mX5_readSpout, 3196, 3198, 21, 1007),
  (138, 0, 2, mX5_word, 3124, 3126, 9, 1007),
  (142, 0, 3, mX5_whole, 3128, 3130, 10, 1007),
  (158, 0, 3, mX5_newName, 3139, 3141, 12, 1007),
  (161, 0, 1, mX5_songOfToken, 3151, 3153, 15, 1007),
  (164, 0, 3, mX4_hasSong, 3155, 3156, 3157, 1002),
  (173, 0, 2, mX5_toldName, 3163, 3165, 17, 1007),
  (184, 0, 3, mX4_wayBetween, 3167, 3168, 3169, 1002),
  (195, 0, 1, mX5_kindOfToken, 3177, 3179, 19, 1007),
  (240, 0, 2, mX4_lastSpoutOf, 3200, 3201, 3202, 1002),
  (245, 0, 2, mX5_isToken, 3058, 3060, 6, 1007),
  (248, 0, 1, mX5_nameOfToken, 3143, 3145, 13, 1007),
  (251, 0, 1, mX5_letters, 3147, 3149, 14, 1007),
  (269, 0, 1, mJ0_length_8abf5, 3062, 3063, 3064, 1015),
  (274, 0, 2, mJ0_charAt_5068e, 3072, 3073, 3074, 1015),
  (278, 0, 3, mX5_passAll, 3049, 3051, 4, 1007)]
def zmthT6 : List (Nat × Nat × Nat × zM × Nat × Nat × Nat × Nat) := [(3, 10, 0, zledM, 2132, 0, 0, 0),
  (38, 1, 2, mJ7_fill_53178, 4193, 4194, 0, 1020),
  (64, 0, 2, mX2_isClosed, 4196, 4071, 4072, 1008),
  (70, 0, 5, mX6_goes, 4197, 4199, 40, 1010),
  (80, 0, 4, mX6_dayOfLeaving, 4201, 4095, 4096, 1010),
  (84, 0, 4, mX6_findFirstDays, 4188, 4190, 39, 1010),
  (96, 0, 2, mX2_isSent, 4210, 4103, 4104, 1008),
  (115, 0, 2, mX4_boxLength, 4213, 4037, 4038, 1002),
  (122, 0, 4, mX7_hearerOf, 4214, 4049, 4050, 1009),
  (136, 0, 5, mX6_firstDayAt, 4215, 4185, 4186, 1010),
  (143, 11, 0, zledM, 4216, 0, 0, 0),
  (155, 0, 3, mX6_dayOfBringing, 4227, 4207, 4208, 1010),
  (161, 12, 0, zledM, 5055, 0, 0, 0),
  (164, 0, 2, mX6_isFitting, 5064, 5066, 45, 1010),
  (185, 0, 2, mX4_lastSpoutOf, 5076, 3201, 3202, 1002),
  (188, 0, 1, mX6_fittingWhales, 5085, 5061, 5062, 1010),
  (192, 1, 1, mJ6_bitCount_0f7a4, 5086, 4056, 0, 1019),
  (197, 0, 3, mX6_whalesReaching, 5087, 5089, 46, 1010),
  (200, 13, 0, zledM, 5092, 0, 0, 0),
  (203, 0, 3, mX6_islandsReached, 5091, 5073, 5074, 1010)]
def zmthT7 : List (Nat × Nat × Nat × zM × Nat × Nat × Nat × Nat) := [(3, 10, 0, zledM, 2102, 0, 0, 0),
  (40, 3, 3, mX11_noteAt, 4024, 4025, 0, 1001),
  (50, 0, 2, mX7_fallIn, 4016, 4018, 27, 1009),
  (54, 0, 4, mX7_raised, 4020, 4022, 28, 1009),
  (60, 3, 2, mX11_unlikeNotes, 4052, 4053, 0, 1001),
  (67, 0, 3, mX7_apartness, 4126, 4115, 4116, 1009),
  (70, 0, 3, mX7_keepSongsOf, 4147, 4149, 36, 1009),
  (73, 0, 3, mX7_isOfNotes, 4152, 4154, 37, 1009),
  (77, 0, 4, mX7_isFarFromKept, 4156, 4158, 38, 1009),
  (81, 0, 3, mX7_songIn, 4151, 4013, 4014, 1009),
  (85, 0, 1, mX7_draw, 5152, 5154, 53, 1009),
  (92, 3, 4, mX11_withNote, 5157, 5158, 0, 1001)]
def zmthT8 : List (Nat × Nat × Nat × zM × Nat × Nat × Nat × Nat) := [(1, 10, 0, zledM, 1136, 0, 0, 0)]
def zmthT9 : List (Nat × Nat × Nat × zM × Nat × Nat × Nat × Nat) := [(1, 10, 0, zledM, 1052, 0, 0, 0)]
def zmthT10 : List (Nat × Nat × Nat × zM × Nat × Nat × Nat × Nat) := [(1, 10, 0, zledM, 1083, 0, 0, 0)]
def zmthT11 : List (Nat × Nat × Nat × zM × Nat × Nat × Nat × Nat) := [(1, 10, 0, zledM, 1031, 0, 0, 0),
  (22, 2, 1, mX4_init, 1036, 1037, 0, 1002),
  (32, 2, 3, mX5_init, 2011, 2012, 0, 1007),
  (41, 4, 1, mX2_init, 2060, 2061, 0, 1008),
  (48, 2, 2, mX7_init, 2099, 2100, 0, 1009),
  (57, 2, 4, mX6_init, 2129, 2130, 0, 1010),
  (66, 2, 2, mX3_init, 2159, 2160, 0, 1011),
  (73, 4, 1, mX1_init, 2180, 2181, 0, 1012),
  (94, 0, 2, mX11_appendBytes, 3018, 3020, 0, 1001),
  (98, 0, 2, mX11_refused, 3026, 3028, 1, 1001),
  (102, 0, 3, mX5_readPost, 3030, 3031, 3032, 1007),
  (106, 0, 1, mX11_takeDraft, 3204, 3206, 22, 1001),
  (112, 0, 2, mX11_granted, 3212, 3214, 23, 1001),
  (121, 0, 2, mX11_isWhale, 3228, 3230, 24, 1001),
  (147, 0, 2, mX11_isBox, 3236, 3238, 25, 1001),
  (174, 0, 2, mX11_isIsland, 4004, 4006, 26, 1001),
  (183, 0, 3, mX7_songIn, 4012, 4013, 4014, 1009),
  (187, 1, 3, mX11_noteAt, 4027, 4025, 0, 1001),
  (191, 0, 3, mX11_isNoteOfBox, 4032, 4034, 29, 1001),
  (198, 0, 2, mX4_boxLength, 4036, 4037, 4038, 1002),
  (201, 0, 3, mX11_hearerIn, 4044, 4046, 30, 1001),
  (204, 0, 3, mX11_areTwoIslands, 4065, 4067, 31, 1001),
  (207, 0, 3, mX4_wayBetween, 4069, 3168, 3169, 1002),
  (210, 0, 2, mX2_isClosed, 4070, 4071, 4072, 1008),
  (222, 0, 1, mX11_hasPost, 4078, 4080, 32, 1001),
  (227, 1, 2, mX11_isWithin, 4083, 4084, 0, 1001),
  (230, 0, 2, mX11_isWay, 4090, 4092, 33, 1001),
  (236, 0, 4, mX6_dayOfLeaving, 4094, 4095, 4096, 1010),
  (242, 0, 2, mX2_isSent, 4102, 4103, 4104, 1008),
  (245, 0, 3, mX11_sentPart, 4106, 4108, 34, 1001),
  (248, 0, 3, mX7_apartness, 4114, 4115, 4116, 1009),
  (251, 0, 1, mX7_bearable, 4122, 4123, 4124, 1009),
  (255, 0, 1, mX7_mixedPairs, 4131, 4132, 4133, 1009),
  (258, 0, 3, mX11_refusalOfNewSong, 4139, 4141, 35, 1001),
  (261, 0, 5, mX7_findNew, 4143, 4144, 4145, 1009),
  (277, 0, 4, mX7_hearerOf, 4048, 4049, 4050, 1009),
  (280, 0, 5, mX6_firstDayAt, 4184, 4185, 4186, 1010),
  (283, 0, 3, mX6_dayOfBringing, 4206, 4207, 4208, 1010),
  (286, 0, 2, mX6_soonestBringer, 4223, 4224, 4225, 1010),
  (289, 0, 3, mX6_surestBringer, 4232, 4233, 4234, 1010),
  (292, 0, 3, mX6_bringersBy, 5000, 5001, 5002, 1010),
  (295, 1, 2, mX11_commonDivisor, 5008, 5009, 0, 1001),
  (298, 0, 1, mX11_solveMatch, 5016, 5018, 41, 1001),
  (310, 0, 5, mX6_dayOfMeeting, 5051, 5052, 5053, 1010),
  (313, 0, 1, mX6_fittingWhales, 5060, 5061, 5062, 1010),
  (316, 0, 3, mX6_islandsReached, 5072, 5073, 5074, 1010),
  (319, 0, 2, mX6_bestPier, 5081, 5082, 5083, 1010),
  (325, 0, 4, mX3_fewestToWatch, 5099, 5100, 5101, 1011),
  (328, 0, 3, mX3_findRound, 5112, 5113, 5114, 1011),
  (338, 0, 2, mX11_heardWithSlips, 5144, 5146, 52, 1001),
  (341, 0, 1, mX11_keepForUndo, 5164, 5166, 54, 1001),
  (347, 0, 2, mX11_hasRefused, 5180, 5182, 55, 1001),
  (353, 1, 4, mX11_withNote, 5184, 5158, 0, 1001),
  (356, 0, 1, mX11_hasGranted, 5185, 5187, 56, 1001),
  (359, 0, 2, mX2_copyFrom, 5168, 5169, 5170, 1008),
  (391, 0, 2, mX2_begin, 3208, 3209, 3210, 1008),
  (394, 12, 0, zledM, 5175, 0, 0, 0),
  (399, 0, 3, mX7_slipped, 5148, 5149, 5150, 1009),
  (404, 0, 3, mX1_solve, 5020, 5021, 5022, 1012),
  (408, 11, 0, zledM, 5011, 0, 0, 0),
  (411, 1, 1, mJ6_bitCount_0f7a4, 4055, 4056, 0, 1019)]
def zmthT12 : List (Nat × Nat × Nat × zM × Nat × Nat × Nat × Nat) := [(1, 10, 0, zledM, 6055, 0, 0, 0),
  (77, 0, 2, mX12_look, 6197, 6199, 61, 1013),
  (93, 1, 1, mX12_isSmall, 6201, 6202, 0, 1013),
  (97, 1, 1, mX12_isDigit, 6204, 6205, 0, 1013),
  (107, 0, 1, mJ0_length_8abf5, 6216, 3063, 3064, 1015),
  (113, 0, 2, mJ0_charAt_5068e, 6217, 3073, 3074, 1015),
  (117, 0, 2, mX12_isWord, 6212, 6214, 63, 1013),
  (121, 0, 1, mX12_next, 6193, 6195, 60, 1013),
  (124, 0, 2, mX12_takesWord, 6235, 6237, 68, 1013),
  (127, 0, 3, mX12_wrong, 6222, 6224, 65, 1013),
  (143, 0, 1, mX12_mustName, 7019, 7021, 73, 1013),
  (146, 0, 1, mX12_find, 7027, 7029, 74, 1013),
  (149, 1, 3, mX12_in, 6186, 6187, 0, 1013),
  (153, 0, 3, mX12_named, 7043, 7045, 78, 1013),
  (157, 0, 2, mX12_must, 6231, 6233, 67, 1013),
  (161, 0, 1, mX12_islandPassed, 7039, 7041, 77, 1013),
  (164, 0, 3, mX12_number, 6239, 7001, 69, 1013),
  (167, 0, 1, mX12_good, 6182, 6184, 58, 1013),
  (170, 0, 2, mX12_no, 6189, 6191, 59, 1013),
  (173, 0, 1, mX12_readLine, 6207, 6209, 62, 1013),
  (176, 1, 5, mX12_copy, 7079, 7080, 0, 1013),
  (189, 0, 1, mX12_postLine, 6218, 6220, 64, 1013),
  (192, 0, 3, mX12_begins, 7007, 7009, 70, 1013),
  (196, 0, 1, mX12_islandLine, 7011, 7013, 71, 1013),
  (199, 0, 1, mX12_wayLine, 7035, 7037, 76, 1013),
  (202, 0, 1, mX12_whaleLine, 7052, 7054, 79, 1013),
  (205, 0, 1, mX12_boxLine, 7067, 7069, 81, 1013),
  (208, 0, 1, mX12_spoutLine, 7075, 7077, 82, 1013),
  (213, 0, 4, mX12_after, 6227, 6229, 66, 1013),
  (223, 0, 2, mX12_newName, 7015, 7017, 72, 1013),
  (227, 0, 2, mX12_isSong, 7031, 7033, 75, 1013),
  (230, 1, 4, mX12_joins, 7047, 7048, 0, 1013),
  (246, 0, 2, mX12_islandBehind, 7061, 7063, 80, 1013),
  (262, 0, 3, mX12_ofBox, 7110, 7112, 86, 1013),
  (265, 0, 2, mX12_songLong, 7122, 7124, 88, 1013),
  (268, 0, 2, mX12_isWhale, 7094, 7096, 83, 1013),
  (271, 0, 3, mX12_ofWhale, 7098, 7100, 84, 1013),
  (274, 0, 2, mX12_isBox, 7106, 7108, 85, 1013),
  (277, 0, 2, mX12_isIsland, 7118, 7120, 87, 1013),
  (280, 0, 4, mX12_noteIn, 7130, 7132, 89, 1013),
  (284, 0, 2, mX12_boxLong, 7138, 7140, 90, 1013),
  (287, 0, 6, mX12_unlike, 7154, 7156, 93, 1013),
  (291, 0, 5, mX12_hearsIn, 7150, 7152, 92, 1013),
  (295, 0, 2, mX12_heardNow, 7146, 7148, 91, 1013),
  (298, 1, 2, mX12_hasBit, 7170, 7171, 0, 1013),
  (302, 0, 2, mX12_isClosed, 7166, 7168, 95, 1013),
  (305, 0, 3, mX12_wayOf, 7162, 7164, 94, 1013),
  (308, 0, 3, mX12_nearOf, 7177, 7179, 96, 1013),
  (312, 0, 3, mX12_apartOf, 7193, 7195, 97, 1013),
  (318, 0, 2, mX12_power, 7217, 7219, 100, 1013),
  (321, 0, 4, mX12_digitsApart, 7221, 7223, 101, 1013),
  (324, 0, 3, mX12_songWhy, 7209, 7211, 98, 1013),
  (327, 0, 4, mX12_newSongs, 7213, 7215, 99, 1013),
  (331, 0, 3, mX12_hearsItself, 7237, 7239, 102, 1013),
  (334, 0, 4, mX12_setsOut, 8013, 8015, 103, 1013),
  (337, 1, 1, mX12_seasonOf, 8006, 8007, 0, 1013),
  (342, 0, 4, mX12_goesBy, 8030, 8032, 106, 1013),
  (346, 0, 4, mX12_dayBy, 8034, 8036, 107, 1013),
  (349, 0, 4, mX12_layDays, 8025, 8027, 105, 1013),
  (352, 0, 5, mX12_arrivalOf, 8021, 8023, 104, 1013),
  (355, 1, 2, mX12_later, 8050, 8051, 0, 1013),
  (364, 0, 3, mX12_lays, 8046, 8048, 109, 1013),
  (367, 0, 3, mX12_bringsOf, 8042, 8044, 108, 1013),
  (370, 0, 3, mX12_surestBut, 8061, 8063, 110, 1013),
  (375, 1, 3, mX12_lowest, 8074, 8075, 0, 1013),
  (385, 0, 5, mX12_tryMatch, 8085, 8087, 112, 1013),
  (389, 0, 1, mX12_seekMatch, 8081, 8083, 111, 1013),
  (398, 0, 2, mX12_fitsAll, 8105, 8107, 113, 1013),
  (401, 0, 3, mX12_reachOf, 8113, 8115, 114, 1013),
  (404, 1, 1, mX12_ones, 8125, 8126, 0, 1013),
  (407, 0, 4, mX12_doLead, 8128, 8130, 115, 1013),
  (413, 0, 4, mX12_tryRound, 8144, 8146, 118, 1013),
  (416, 0, 1, mX12_layFar, 8140, 8142, 117, 1013),
  (419, 0, 2, mX12_seekRound, 8136, 8138, 116, 1013),
  (424, 0, 1, mX12_note1, 8162, 8164, 119, 1013),
  (427, 0, 2, mX12_isNot, 8170, 8172, 120, 1013)]
def zmthT13 : List (Nat × Nat × Nat × zM × Nat × Nat × Nat × Nat) := [(15, 2, 1, mX11_init, 1028, 1029, 0, 1001),
  (18, 2, 1, mX12_init, 6052, 6053, 0, 1013),
  (19, 0, 6, mX11_feed, 3014, 3015, 3016, 1001),
  (23, 0, 6, mX12_feed, 6174, 6175, 6176, 1013),
  (24, 0, 2, mX11_post, 3022, 3023, 3024, 1001),
  (27, 0, 2, mX12_post, 6178, 6179, 6180, 1013),
  (28, 0, 1, mX11_fault, 3216, 3217, 3218, 1001),
  (32, 0, 1, mX12_fault, 7082, 7083, 7084, 1013),
  (33, 0, 1, mX11_where, 3220, 3221, 3222, 1001),
  (36, 0, 1, mX12_where, 7086, 7087, 7088, 1013),
  (37, 0, 3, mX11_whale, 3224, 3225, 3226, 1001),
  (41, 0, 3, mX12_whale, 7090, 7091, 7092, 1013),
  (42, 0, 3, mX11_box, 3232, 3233, 3234, 1001),
  (45, 0, 3, mX12_box, 7102, 7103, 7104, 1013),
  (46, 0, 2, mX11_length, 4000, 4001, 4002, 1001),
  (49, 0, 2, mX12_length, 7114, 7115, 7116, 1013),
  (50, 0, 3, mX11_note, 4008, 4009, 4010, 1001),
  (53, 0, 3, mX12_note, 7126, 7127, 7128, 1013),
  (54, 0, 3, mX11_sung, 4028, 4029, 4030, 1001),
  (57, 0, 3, mX12_sung, 7134, 7135, 7136, 1013),
  (58, 0, 2, mX11_heard, 4040, 4041, 4042, 1001),
  (61, 0, 2, mX12_heard, 7142, 7143, 7144, 1013),
  (62, 0, 3, mX11_way, 4061, 4062, 4063, 1001),
  (65, 0, 3, mX12_way, 7158, 7159, 7160, 1013),
  (66, 0, 2, mX11_season, 4074, 4075, 4076, 1001),
  (69, 0, 2, mX12_season, 8001, 8002, 8003, 1013),
  (70, 0, 4, mX11_sets, 4086, 4087, 4088, 1001),
  (74, 0, 4, mX12_sets, 8009, 8010, 8011, 1013),
  (75, 0, 2, mX11_sent, 4098, 4099, 4100, 1001),
  (78, 0, 2, mX12_sent, 7185, 7186, 7187, 1013),
  (79, 0, 3, mX11_apart, 4110, 4111, 4112, 1001),
  (82, 0, 3, mX12_apart, 7189, 7190, 7191, 1013),
  (83, 0, 1, mX11_bear, 4118, 4119, 4120, 1001),
  (86, 0, 1, mX12_bear, 7197, 7198, 7199, 1013),
  (87, 0, 1, mX11_mixed, 4127, 4128, 4129, 1001),
  (90, 0, 1, mX12_mixed, 7201, 7202, 7203, 1013),
  (91, 0, 3, mX11_fresh, 4135, 4136, 4137, 1001),
  (94, 0, 3, mX12_fresh, 7205, 7206, 7207, 1013),
  (95, 0, 3, mX11_byTurns, 4160, 4161, 4162, 1001),
  (98, 0, 3, mX12_byTurns, 7225, 7226, 7227, 1013),
  (99, 0, 2, mX11_near, 4164, 4165, 4166, 1001),
  (102, 0, 2, mX12_near, 7173, 7174, 7175, 1013),
  (103, 0, 2, mX11_asNear, 4168, 4169, 4170, 1001),
  (106, 0, 2, mX12_asNear, 7181, 7182, 7183, 1013),
  (107, 0, 3, mX11_heardIn, 4172, 4173, 4174, 1001),
  (110, 0, 3, mX12_heardIn, 7229, 7230, 7231, 1013),
  (111, 0, 2, mX11_strange, 4176, 4177, 4178, 1001),
  (114, 0, 2, mX12_strange, 7233, 7234, 7235, 1013),
  (115, 0, 5, mX11_arrival, 4180, 4181, 4182, 1001),
  (119, 0, 5, mX12_arrival, 8017, 8018, 8019, 1013),
  (120, 0, 3, mX11_brings, 4202, 4203, 4204, 1001),
  (123, 0, 3, mX12_brings, 8038, 8039, 8040, 1013),
  (124, 0, 2, mX11_soonest, 4219, 4220, 4221, 1001),
  (127, 0, 2, mX12_soonest, 8053, 8054, 8055, 1013),
  (128, 0, 2, mX11_surest, 4228, 4229, 4230, 1001),
  (131, 0, 2, mX12_surest, 8057, 8058, 8059, 1013),
  (132, 0, 3, mX11_by, 4236, 4237, 4238, 1001),
  (135, 0, 3, mX12_by, 8065, 8066, 8067, 1013),
  (136, 0, 3, mX11_registered, 5004, 5005, 5006, 1001),
  (140, 0, 3, mX12_registered, 8069, 8070, 8071, 1013),
  (141, 0, 1, mX11_match, 5012, 5013, 5014, 1001),
  (144, 0, 1, mX12_match, 8077, 8078, 8079, 1013),
  (145, 0, 1, mX11_matchDays, 5039, 5040, 5041, 1001),
  (148, 0, 1, mX12_matchDays, 8089, 8090, 8091, 1013),
  (149, 0, 2, mX11_matchOf, 5043, 5044, 5045, 1001),
  (152, 0, 2, mX12_matchOf, 8093, 8094, 8095, 1013),
  (153, 0, 5, mX11_meet, 5047, 5048, 5049, 1001),
  (156, 0, 5, mX12_meet, 8097, 8098, 8099, 1013),
  (157, 0, 1, mX11_fits, 5056, 5057, 5058, 1001),
  (160, 0, 1, mX12_fits, 8101, 8102, 8103, 1013),
  (161, 0, 3, mX11_reach, 5068, 5069, 5070, 1001),
  (164, 0, 3, mX12_reach, 8109, 8110, 8111, 1013),
  (165, 0, 2, mX11_pier, 5077, 5078, 5079, 1001),
  (168, 0, 2, mX12_pier, 8117, 8118, 8119, 1013),
  (169, 0, 3, mX11_watch, 5095, 5096, 5097, 1001),
  (172, 0, 3, mX12_watch, 8121, 8122, 8123, 1013),
  (173, 0, 2, mX11_round, 5108, 5109, 5110, 1001),
  (176, 0, 2, mX12_round, 8132, 8133, 8134, 1013),
  (177, 0, 3, mX11_roundAt, 5135, 5136, 5137, 1001),
  (180, 0, 3, mX12_roundAt, 8148, 8149, 8150, 1013),
  (181, 0, 3, mX11_decade, 5139, 5140, 5141, 1001),
  (184, 0, 3, mX12_decade, 8152, 8153, 8154, 1013),
  (185, 0, 3, mX11_send, 5160, 5161, 5162, 1001),
  (188, 0, 3, mX12_send, 8158, 8159, 8160, 1013),
  (189, 0, 4, mX11_tune, 5176, 5177, 5178, 1001),
  (193, 0, 4, mX12_tune, 8166, 8167, 8168, 1013),
  (194, 0, 2, mX11_years, 5189, 5190, 5191, 1001),
  (197, 0, 2, mX12_years, 8174, 8175, 8176, 1013),
  (198, 0, 3, mX11_close, 5193, 5194, 5195, 1001),
  (202, 0, 3, mX12_close, 8178, 8179, 8180, 1013),
  (203, 0, 1, mX11_undo, 5197, 5198, 5199, 1001),
  (207, 0, 1, mX12_undo, 8182, 8183, 8184, 1013),
  (208, 0, 1, mX11_image, 5201, 5202, 5203, 1001),
  (211, 0, 1, mX12_image, 8186, 8187, 8188, 1013),
  (212, 0, 2, mX11_back, 5205, 5206, 5207, 1001),
  (216, 0, 2, mX12_back, 8190, 8191, 8192, 1013),
  (217, 16, 0, zledM, 5217, 0, 0, 0),
  (222, 0, 2, mX12_led, 8194, 8195, 8196, 1013),
  (223, 0, 2, mX11_size, 5209, 5210, 5211, 1001),
  (226, 0, 2, mX12_size, 8198, 8199, 8200, 1013),
  (227, 0, 1, mX11_trouble, 5213, 5214, 5215, 1001),
  (230, 0, 1, mX12_trouble, 8202, 8203, 8204, 1013)]
def zmthT14 : List (Nat × Nat × Nat × zM × Nat × Nat × Nat × Nat) := [(335, 0, 1, mJ0_coder_7d493, 3066, 3067, 3068, 1015),
  (492, 0, 1, mJ0_isLatin1_aae02, 3076, 3077, 3078, 1015),
  (495, 1, 2, mJ1_charAt_3b067, 3080, 3081, 0, 1016),
  (1059, 1, 3, mJ3_checkIndex_8e157, 3088, 3089, 0, 1017)]
def zmthT15 : List (Nat × Nat × Nat × zM × Nat × Nat × Nat × Nat) := [(9, 1, 2, mJ0_checkIndex_df160, 3083, 3084, 0, 1015)]
def zmthT16 : List (Nat × Nat × Nat × zM × Nat × Nat × Nat × Nat) := []
def zmthT17 : List (Nat × Nat × Nat × zM × Nat × Nat × Nat × Nat) := []
def zmthT18 : List (Nat × Nat × Nat × zM × Nat × Nat × Nat × Nat) := []
def zmthTT : List (List (Nat × Nat × Nat × zM × Nat × Nat × Nat × Nat)) := [zmthT0, zmthT1, zmthT2, zmthT3, zmthT4, zmthT5, zmthT6, zmthT7, zmthT8, zmthT9, zmthT10, zmthT11, zmthT12, zmthT13, zmthT14, zmthT15, zmthT16, zmthT17, zmthT18]
def zmth (o k : Nat) : Option (Nat × Nat × zM) := (zlook (zmthTT.getD o []) k).map (fun q => (q.1, q.2.1, q.2.2.1))
/-- all methods, with the place of their code word -/
def zall : List (zM × Nat) := [(mX0_init, 1108), (mX1_init, 2182), (mX1_solve, 5023), (mX1_worth, 5028), (mX1_choose, 5034), (mX1_firstBest, 5038), (mX2_init, 2062), (mX2_begin, 3211), (mX2_copyFrom, 5171), (mX2_isClosed, 4073), (mX2_isSent, 4105), (mX3_init, 2161), (mX3_fewestToWatch, 5102), (mX3_waysOutOf, 5106), (mX3_findRound, 5115), (mX3_findShortest, 5119), (mX3_findRests, 5126), (mX3_daysOver, 5130), (mX3_nextOf, 5134), (mX4_init, 1038), (mX4_clear, 3037), (mX4_boxLength, 4039), (mX4_wayBetween, 3170), (mX4_hasSong, 3158), (mX4_lastSpoutOf, 3203), (mX5_init, 2013), (mX5_readPost, 3033), (mX5_faulty, 3118), (mX5_readLine, 3044), (mX5_readHead, 3122), (mX5_readIsland, 3138), (mX5_readWay, 3162), (mX5_readWhale, 3176), (mX5_readBox, 3191), (mX5_readSpout, 3199), (mX5_word, 3127), (mX5_whole, 3131), (mX5_newName, 3142), (mX5_toldName, 3166), (mX5_nameOfToken, 3146), (mX5_letters, 3150), (mX5_songOfToken, 3154), (mX5_kindOfToken, 3180), (mX5_sortOfLine, 3056), (mX5_isToken, 3061), (mX5_nextToken, 3048), (mX5_passAll, 3052), (mX6_init, 2131), (mX6_dayOfLeaving, 4097), (mX6_findFirstDays, 4191), (mX6_goes, 4200), (mX6_firstDayAt, 4187), (mX6_dayOfBringing, 4209), (mX6_soonestBringer, 4226), (mX6_surestBringer, 4235), (mX6_bringersBy, 5003), (mX6_dayOfMeeting, 5054), (mX6_fittingWhales, 5063), (mX6_isFitting, 5067), (mX6_islandsReached, 5075), (mX6_bestPier, 5084), (mX6_whalesReaching, 5090), (mX7_init, 2101), (mX7_fallIn, 4019), (mX7_raised, 4023), (mX7_songIn, 4015), (mX7_hearerOf, 4051), (mX7_apartness, 4117), (mX7_bearable, 4125), (mX7_mixedPairs, 4134), (mX7_findNew, 4146), (mX7_keepSongsOf, 4150), (mX7_isOfNotes, 4155), (mX7_isFarFromKept, 4159), (mX7_draw, 5155), (mX7_slipped, 5151), (mX8_init, 1135), (mX9_init, 1051), (mX10_init, 1082), (mX11_init, 1030), (mX11_feed, 3017), (mX11_post, 3025), (mX11_fault, 3219), (mX11_where, 3223), (mX11_whale, 3227), (mX11_box, 3235), (mX11_length, 4003), (mX11_note, 4011), (mX11_sung, 4031), (mX11_heard, 4043), (mX11_way, 4064), (mX11_season, 4077), (mX11_sets, 4089), (mX11_sent, 4101), (mX11_apart, 4113), (mX11_bear, 4121), (mX11_mixed, 4130), (mX11_fresh, 4138), (mX11_byTurns, 4163), (mX11_near, 4167), (mX11_asNear, 4171), (mX11_heardIn, 4175), (mX11_strange, 4179), (mX11_arrival, 4183), (mX11_brings, 4205), (mX11_soonest, 4222), (mX11_surest, 4231), (mX11_by, 4239), (mX11_registered, 5007), (mX11_match, 5015), (mX11_matchDays, 5042), (mX11_matchOf, 5046), (mX11_meet, 5050), (mX11_fits, 5059), (mX11_reach, 5071), (mX11_pier, 5080), (mX11_watch, 5098), (mX11_round, 5111), (mX11_roundAt, 5138), (mX11_decade, 5142), (mX11_send, 5163), (mX11_tune, 5179), (mX11_years, 5192), (mX11_close, 5196), (mX11_undo, 5200), (mX11_image, 5204), (mX11_back, 5208), (mX11_led, 5224), (mX11_size, 5212), (mX11_trouble, 5216), (mX11_granted, 3215), (mX11_refused, 3029), (mX11_hasGranted, 5188), (mX11_hasRefused, 5183), (mX11_hasPost, 4081), (mX11_isIsland, 4007), (mX11_areTwoIslands, 4068), (mX11_isWay, 4093), (mX11_isWhale, 3231), (mX11_isBox, 3239), (mX11_isNoteOfBox, 4035), (mX11_isWithin, 4085), (mX11_refusalOfNewSong, 4142), (mX11_appendBytes, 3021), (mX11_takeDraft, 3207), (mX11_keepForUndo, 5167), (mX11_hearerIn, 4047), (mX11_sentPart, 4109), (mX11_heardWithSlips, 5147), (mX11_solveMatch, 5019), (mX11_commonDivisor, 5010), (mX11_noteAt, 4026), (mX11_withNote, 5159), (mX11_unlikeNotes, 4054), (mX12_init, 6054), (mX12_good, 6185), (mX12_no, 6192), (mX12_isNot, 8173), (mX12_in, 6188), (mX12_hasBit, 7172), (mX12_ones, 8127), (mX12_copy, 7081), (mX12_later, 8052), (mX12_feed, 6177), (mX12_look, 6200), (mX12_isSmall, 6203), (mX12_isDigit, 6206), (mX12_next, 6196), (mX12_wrong, 6225), (mX12_isWord, 6215), (mX12_takesWord, 6238), (mX12_must, 6234), (mX12_mustName, 7022), (mX12_find, 7030), (mX12_newName, 7018), (mX12_named, 7046), (mX12_islandPassed, 7042), (mX12_islandBehind, 7064), (mX12_number, 7002), (mX12_after, 6230), (mX12_post, 6181), (mX12_begins, 7010), (mX12_readLine, 6210), (mX12_postLine, 6221), (mX12_islandLine, 7014), (mX12_isSong, 7034), (mX12_wayLine, 7038), (mX12_joins, 7049), (mX12_whaleLine, 7055), (mX12_boxLine, 7070), (mX12_spoutLine, 7078), (mX12_fault, 7085), (mX12_where, 7089), (mX12_isIsland, 7121), (mX12_isWhale, 7097), (mX12_isBox, 7109), (mX12_ofWhale, 7101), (mX12_ofBox, 7113), (mX12_songLong, 7125), (mX12_boxLong, 7141), (mX12_noteIn, 7133), (mX12_whale, 7093), (mX12_box, 7105), (mX12_length, 7117), (mX12_note, 7129), (mX12_sung, 7137), (mX12_unlike, 7157), (mX12_hearsIn, 7153), (mX12_heardNow, 7149), (mX12_heard, 7145), (mX12_isClosed, 7169), (mX12_wayOf, 7165), (mX12_way, 7161), (mX12_nearOf, 7180), (mX12_near, 7176), (mX12_asNear, 7184), (mX12_sent, 7188), (mX12_apartOf, 7196), (mX12_apart, 7192), (mX12_bear, 7200), (mX12_mixed, 7204), (mX12_power, 7220), (mX12_digitsApart, 7224), (mX12_newSongs, 7216), (mX12_songWhy, 7212), (mX12_fresh, 7208), (mX12_byTurns, 7228), (mX12_heardIn, 7232), (mX12_hearsItself, 8000), (mX12_strange, 7236), (mX12_dayBy, 8037), (mX12_setsOut, 8016), (mX12_seasonOf, 8008), (mX12_season, 8004), (mX12_sets, 8012), (mX12_layDays, 8028), (mX12_goesBy, 8033), (mX12_arrivalOf, 8024), (mX12_arrival, 8020), (mX12_lays, 8049), (mX12_bringsOf, 8045), (mX12_brings, 8041), (mX12_soonest, 8056), (mX12_surestBut, 8064), (mX12_surest, 8060), (mX12_by, 8068), (mX12_lowest, 8076), (mX12_registered, 8072), (mX12_tryMatch, 8088), (mX12_seekMatch, 8084), (mX12_match, 8080), (mX12_matchDays, 8092), (mX12_matchOf, 8096), (mX12_meet, 8100), (mX12_fitsAll, 8108), (mX12_fits, 8104), (mX12_reachOf, 8116), (mX12_reach, 8112), (mX12_pier, 8120), (mX12_doLead, 8131), (mX12_watch, 8124), (mX12_layFar, 8143), (mX12_tryRound, 8147), (mX12_seekRound, 8139), (mX12_round, 8135), (mX12_roundAt, 8151), (mX12_decade, 8155), (mX12_note1, 8165), (mX12_send, 8161), (mX12_tune, 8169), (mX12_years, 8177), (mX12_close, 8181), (mX12_undo, 8185), (mX12_image, 8189), (mX12_back, 8193), (mX12_led, 8197), (mX12_size, 8201), (mX12_trouble, 8205), (mJ0_length_8abf5, 3065), (mJ0_charAt_5068e, 3075), (mJ0_coder_7d493, 3069), (mJ0_isLatin1_aae02, 3079), (mJ0_checkIndex_df160, 3085), (mJ1_charAt_3b067, 3082), (mJ3_checkIndex_8e157, 3090), (mJ7_fill_53178, 4195), (mJ6_bitCount_0f7a4, 4057)]
/-- the nest mates' links: class, pool number, method, host, place -/
def znm : List (Nat × Nat × zM × String × Nat) := [(4, 42, mX9_init, "WhalePost", 1049), (4, 43, mX10_init, "WhalePost", 1080), (4, 44, mX0_init, "WhalePost", 1106), (4, 45, mX8_init, "WhalePost", 1133), (11, 41, mX2_init, "WhalePost", 2060), (11, 73, mX1_init, "WhalePost", 2180), (7, 40, mX11_noteAt, "WhalePost", 4024), (7, 60, mX11_unlikeNotes, "WhalePost", 4052), (7, 92, mX11_withNote, "WhalePost", 5157)]
/-- the texts: class, pool number, text, special number, place -/
def zsr : List (Nat × Nat × String × Nat × Nat) := [(5, 263, "post", 1000010, 3057), (5, 264, "island", 1000011, 3110), (5, 265, "way", 1000012, 3111), (5, 266, "whale", 1000013, 3112), (5, 267, "box", 1000014, 3113), (5, 268, "spout", 1000015, 3114), (5, 137, "notes", 1000016, 3123), (5, 146, "errors", 1000017, 3132), (5, 150, "drift", 1000018, 3133), (5, 154, "slip", 1000019, 3134), (5, 187, "days", 1000020, 3171), (5, 191, "open", 1000021, 3172), (5, 255, "calf", 1000022, 3181), (5, 257, "cow", 1000023, 3182), (5, 259, "bull", 1000024, 3183), (5, 261, "old", 1000025, 3184), (5, 203, "at", 1000026, 3185), (5, 207, "keeps", 1000027, 3186), (5, 211, "lost", 1000028, 3187), (5, 215, "from", 1000029, 3192), (5, 221, "to", 1000030, 3193), (5, 225, "weighs", 1000031, 3194), (5, 229, "day", 1000032, 3195), (11, 365, "no such box is left", 1000033, 6024), (12, 131, "post", 1000034, 6211), (12, 211, "notes", 1000035, 6226), (12, 217, "errors", 1000036, 7003), (12, 219, "drift", 1000037, 7004), (12, 221, "slip", 1000038, 7005), (12, 133, "island", 1000039, 7006), (12, 135, "way", 1000040, 7023), (12, 137, "whale", 1000041, 7024), (12, 139, "box", 1000042, 7025), (12, 141, "spout", 1000043, 7026), (12, 234, "days", 1000044, 7050), (12, 235, "open", 1000045, 7051), (12, 237, "calf", 1000046, 7056), (12, 239, "cow", 1000047, 7057), (12, 241, "bull", 1000048, 7058), (12, 243, "old", 1000049, 7059), (12, 245, "at", 1000050, 7060), (12, 250, "keeps", 1000051, 7065), (12, 252, "lost", 1000052, 7066), (12, 254, "from", 1000053, 7071), (12, 256, "to", 1000054, 7072), (12, 258, "weighs", 1000055, 7073), (12, 260, "day", 1000056, 7074)]
/-- the bytes of the constant texts of reader and model -/
def zscT : List (Nat × List Int32) := [(1000010, [112, 111, 115, 116]), (1000011, [105, 115, 108, 97, 110, 100]), (1000012, [119, 97, 121]), (1000013, [119, 104, 97, 108, 101]), (1000014, [98, 111, 120]), (1000015, [115, 112, 111, 117, 116]), (1000016, [110, 111, 116, 101, 115]), (1000017, [101, 114, 114, 111, 114, 115]), (1000018, [100, 114, 105, 102, 116]), (1000019, [115, 108, 105, 112]), (1000020, [100, 97, 121, 115]), (1000021, [111, 112, 101, 110]), (1000022, [99, 97, 108, 102]), (1000023, [99, 111, 119]), (1000024, [98, 117, 108, 108]), (1000025, [111, 108, 100]), (1000026, [97, 116]), (1000027, [107, 101, 101, 112, 115]), (1000028, [108, 111, 115, 116]), (1000029, [102, 114, 111, 109]), (1000030, [116, 111]), (1000031, [119, 101, 105, 103, 104, 115]), (1000032, [100, 97, 121]), (1000034, [112, 111, 115, 116]), (1000035, [110, 111, 116, 101, 115]), (1000036, [101, 114, 114, 111, 114, 115]), (1000037, [100, 114, 105, 102, 116]), (1000038, [115, 108, 105, 112]), (1000039, [105, 115, 108, 97, 110, 100]), (1000040, [119, 97, 121]), (1000041, [119, 104, 97, 108, 101]), (1000042, [98, 111, 120]), (1000043, [115, 112, 111, 117, 116]), (1000044, [100, 97, 121, 115]), (1000045, [111, 112, 101, 110]), (1000046, [99, 97, 108, 102]), (1000047, [99, 111, 119]), (1000048, [98, 117, 108, 108]), (1000049, [111, 108, 100]), (1000050, [97, 116]), (1000051, [107, 101, 101, 112, 115]), (1000052, [108, 111, 115, 116]), (1000053, [102, 114, 111, 109]), (1000054, [116, 111]), (1000055, [119, 101, 105, 103, 104, 115]), (1000056, [100, 97, 121])]
def zsc (a : Nat) : Option (List Int32) := zlook zscT a
/-- the entry of CAN_CARRY in the pool of Sea -/
def zgsk : Nat := 104
