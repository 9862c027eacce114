/-! the small machine's tables, by program out of the printed names -/
abbrev zV : Type := Int32 ⊕ Int64 ⊕ Option Nat
abbrev zM : Type := ByteArray × Nat × Nat × Option FieldType × MethodName × Bool
def zRn (o : Nat) : String := match o with
  | 0 => RX0
  | 1 => RX1
  | 2 => RX2
  | 3 => RX3
  | 4 => RX4
  | 5 => RX5
  | 6 => RX6
  | 7 => RX7
  | 8 => RX8
  | 9 => RX9
  | 10 => RX10
  | 11 => RX11
  | 12 => RX12
  | 13 => RL
  | 14 => RJ0
  | 15 => RJ1
  | 16 => RJ6
  | 17 => RJ7
  | _ => RJ3
def zTT (c : Nat) : u_T := match c with
  | 0 => TX0
  | 1 => TX1
  | 2 => TX2
  | 3 => TX3
  | 4 => TX4
  | 5 => TX5
  | 6 => TX6
  | 7 => TX7
  | 8 => TX8
  | 9 => TX9
  | 10 => TX10
  | 11 => TX11
  | _ => TX12
def zty (c : Nat) : Nat → FieldType := match c with
  | 0 => tyX0
  | 1 => tyX1
  | 2 => tyX2
  | 3 => tyX3
  | 4 => tyX4
  | 5 => tyX5
  | 6 => tyX6
  | 7 => tyX7
  | 8 => tyX8
  | 9 => tyX9
  | 10 => tyX10
  | 11 => tyX11
  | _ => tyX12
/-- the sorts of a class's fields: 0 int, 1 boolean, 3 reference -/
def zft (c : Nat) : List Nat := match c with
  | 0 => [0, 0, 0, 0]
  | 1 => [3, 3, 0, 0, 3]
  | 2 => [0, 0, 3, 3, 3, 3, 3]
  | 3 => [3, 3, 3, 3]
  | 4 => [0, 0, 0, 0, 0, 0, 0, 0, 0, 3, 3, 3, 3, 3, 3]
  | 5 => [3, 0, 0, 0, 0, 0, 3, 3, 3, 3, 0, 0, 0]
  | 6 => [3, 3, 3, 3, 0, 0, 0]
  | 7 => [3, 0, 0, 0, 0, 3]
  | 8 => [0, 0, 0]
  | 9 => [0, 0, 0, 0]
  | 10 => [0, 0, 0, 0]
  | 11 => [3, 0, 0, 3, 3, 3, 3, 3, 3, 3, 3, 3, 0, 0, 3, 0]
  | 12 => [0, 3, 0, 0, 0, 0, 0, 0, 0, 0, 0, 0, 3, 1, 1, 3, 3, 3, 3, 3, 0, 0, 3, 0, 3, 3, 0, 0, 3, 3, 3, 0, 0, 0, 0, 3, 3, 3, 0]
  | _ => []
def zfin (c f : Nat) : Bool := (zTT c f).2.2.2
def zrc (k : Nat) : Nat := match k with
  | 16 => 0
  | 17 => 2
  | 18 => 8
  | 19 => 9
  | 20 => 10
  | _ => 99
def zak (c : Nat) : Nat := match c with
  | 0 => 16
  | 2 => 17
  | 8 => 18
  | 9 => 19
  | 10 => 20
  | _ => 0
abbrev mX0_init : zM := (cX0_init, 0, 1, none, yX0_init, true)
abbrev mX1_init : zM := (cX1_init, 1, 1, none, yX1_init, true)
abbrev mX1_solve : zM := (cX1_solve, 1, 7, none, yX1_solve, false)
abbrev mX1_worth : zM := (cX1_worth, 1, 5, (some .int), yX1_worth, false)
abbrev mX1_choose : zM := (cX1_choose, 1, 6, none, yX1_choose, false)
abbrev mX1_firstBest : zM := (cX1_firstBest, 1, 5, (some .int), yX1_firstBest, false)
abbrev mX2_init : zM := (cX2_init, 2, 1, none, yX2_init, true)
abbrev mX2_begin : zM := (cX2_begin, 2, 3, none, yX2_begin, false)
abbrev mX2_copyFrom : zM := (cX2_copyFrom, 2, 2, none, yX2_copyFrom, false)
abbrev mX2_isClosed : zM := (cX2_isClosed, 2, 2, (some .boolean), yX2_isClosed, false)
abbrev mX2_isSent : zM := (cX2_isSent, 2, 2, (some .boolean), yX2_isSent, false)
abbrev mX3_init : zM := (cX3_init, 3, 2, none, yX3_init, true)
abbrev mX3_fewestToWatch : zM := (cX3_fewestToWatch, 3, 9, (some .int), yX3_fewestToWatch, false)
abbrev mX3_waysOutOf : zM := (cX3_waysOutOf, 3, 4, (some .int), yX3_waysOutOf, false)
abbrev mX3_findRound : zM := (cX3_findRound, 3, 6, (some .int), yX3_findRound, false)
abbrev mX3_findShortest : zM := (cX3_findShortest, 3, 6, none, yX3_findShortest, false)
abbrev mX3_findRests : zM := (cX3_findRests, 3, 6, none, yX3_findRests, false)
abbrev mX3_daysOver : zM := (cX3_daysOver, 3, 4, (some .int), yX3_daysOver, false)
abbrev mX3_nextOf : zM := (cX3_nextOf, 3, 4, (some .int), yX3_nextOf, false)
abbrev mX4_init : zM := (cX4_init, 4, 2, none, yX4_init, true)
abbrev mX4_clear : zM := (cX4_clear, 4, 1, none, yX4_clear, false)
abbrev mX4_boxLength : zM := (cX4_boxLength, 4, 2, (some .int), yX4_boxLength, false)
abbrev mX4_wayBetween : zM := (cX4_wayBetween, 4, 5, (some .int), yX4_wayBetween, false)
abbrev mX4_hasSong : zM := (cX4_hasSong, 4, 4, (some .boolean), yX4_hasSong, false)
abbrev mX4_lastSpoutOf : zM := (cX4_lastSpoutOf, 4, 3, (some .int), yX4_lastSpoutOf, false)
abbrev mX5_init : zM := (cX5_init, 5, 3, none, yX5_init, true)
abbrev mX5_readPost : zM := (cX5_readPost, 5, 4, (some .boolean), yX5_readPost, false)
abbrev mX5_faulty : zM := (cX5_faulty, 5, 2, (some .boolean), yX5_faulty, false)
abbrev mX5_readLine : zM := (cX5_readLine, 5, 3, (some .boolean), yX5_readLine, false)
abbrev mX5_readHead : zM := (cX5_readHead, 5, 1, (some .boolean), yX5_readHead, false)
abbrev mX5_readIsland : zM := (cX5_readIsland, 5, 3, (some .boolean), yX5_readIsland, false)
abbrev mX5_readWay : zM := (cX5_readWay, 5, 2, (some .boolean), yX5_readWay, false)
abbrev mX5_readWhale : zM := (cX5_readWhale, 5, 2, (some .boolean), yX5_readWhale, false)
abbrev mX5_readBox : zM := (cX5_readBox, 5, 2, (some .boolean), yX5_readBox, false)
abbrev mX5_readSpout : zM := (cX5_readSpout, 5, 4, (some .boolean), yX5_readSpout, false)
abbrev mX5_word : zM := (cX5_word, 5, 2, (some .boolean), yX5_word, false)
abbrev mX5_whole : zM := (cX5_whole, 5, 4, (some .boolean), yX5_whole, false)
abbrev mX5_newName : zM := (cX5_newName, 5, 3, (some .boolean), yX5_newName, false)
abbrev mX5_toldName : zM := (cX5_toldName, 5, 3, (some .boolean), yX5_toldName, false)
abbrev mX5_nameOfToken : zM := (cX5_nameOfToken, 5, 4, (some .int), yX5_nameOfToken, false)
abbrev mX5_letters : zM := (cX5_letters, 5, 4, (some .long), yX5_letters, false)
abbrev mX5_songOfToken : zM := (cX5_songOfToken, 5, 5, (some .int), yX5_songOfToken, false)
abbrev mX5_kindOfToken : zM := (cX5_kindOfToken, 5, 1, (some .int), yX5_kindOfToken, false)
abbrev mX5_sortOfLine : zM := (cX5_sortOfLine, 5, 1, (some .int), yX5_sortOfLine, false)
abbrev mX5_isToken : zM := (cX5_isToken, 5, 3, (some .boolean), yX5_isToken, false)
abbrev mX5_nextToken : zM := (cX5_nextToken, 5, 1, none, yX5_nextToken, false)
abbrev mX5_passAll : zM := (cX5_passAll, 5, 3, (some .boolean), yX5_passAll, false)
abbrev mX6_init : zM := (cX6_init, 6, 4, none, yX6_init, true)
abbrev mX6_dayOfLeaving : zM := (cX6_dayOfLeaving, 6, 6, (some .int), yX6_dayOfLeaving, false)
abbrev mX6_findFirstDays : zM := (cX6_findFirstDays, 6, 10, none, yX6_findFirstDays, false)
abbrev mX6_goes : zM := (cX6_goes, 6, 7, (some .boolean), yX6_goes, false)
abbrev mX6_firstDayAt : zM := (cX6_firstDayAt, 6, 5, (some .int), yX6_firstDayAt, false)
abbrev mX6_dayOfBringing : zM := (cX6_dayOfBringing, 6, 6, (some .int), yX6_dayOfBringing, false)
abbrev mX6_soonestBringer : zM := (cX6_soonestBringer, 6, 6, (some .int), yX6_soonestBringer, false)
abbrev mX6_surestBringer : zM := (cX6_surestBringer, 6, 6, (some .int), yX6_surestBringer, false)
abbrev mX6_bringersBy : zM := (cX6_bringersBy, 6, 6, (some .int), yX6_bringersBy, false)
abbrev mX6_dayOfMeeting : zM := (cX6_dayOfMeeting, 6, 8, (some .int), yX6_dayOfMeeting, false)
abbrev mX6_fittingWhales : zM := (cX6_fittingWhales, 6, 3, (some .int), yX6_fittingWhales, false)
abbrev mX6_isFitting : zM := (cX6_isFitting, 6, 6, (some .boolean), yX6_isFitting, false)
abbrev mX6_islandsReached : zM := (cX6_islandsReached, 6, 7, (some .int), yX6_islandsReached, false)
abbrev mX6_bestPier : zM := (cX6_bestPier, 6, 7, (some .int), yX6_bestPier, false)
abbrev mX6_whalesReaching : zM := (cX6_whalesReaching, 6, 5, (some .int), yX6_whalesReaching, false)
abbrev mX7_init : zM := (cX7_init, 7, 2, none, yX7_init, true)
abbrev mX7_fallIn : zM := (cX7_fallIn, 7, 2, (some .int), yX7_fallIn, false)
abbrev mX7_raised : zM := (cX7_raised, 7, 6, (some .int), yX7_raised, false)
abbrev mX7_songIn : zM := (cX7_songIn, 7, 3, (some .int), yX7_songIn, false)
abbrev mX7_hearerOf : zM := (cX7_hearerOf, 7, 8, (some .int), yX7_hearerOf, false)
abbrev mX7_apartness : zM := (cX7_apartness, 7, 3, (some .int), yX7_apartness, false)
abbrev mX7_bearable : zM := (cX7_bearable, 7, 5, (some .int), yX7_bearable, false)
abbrev mX7_mixedPairs : zM := (cX7_mixedPairs, 7, 5, (some .int), yX7_mixedPairs, false)
abbrev mX7_findNew : zM := (cX7_findNew, 7, 9, (some .int), yX7_findNew, false)
abbrev mX7_keepSongsOf : zM := (cX7_keepSongsOf, 7, 5, (some .int), yX7_keepSongsOf, false)
abbrev mX7_isOfNotes : zM := (cX7_isOfNotes, 7, 4, (some .boolean), yX7_isOfNotes, false)
abbrev mX7_isFarFromKept : zM := (cX7_isFarFromKept, 7, 5, (some .boolean), yX7_isFarFromKept, false)
abbrev mX7_draw : zM := (cX7_draw, 7, 1, (some .int), yX7_draw, false)
abbrev mX7_slipped : zM := (cX7_slipped, 7, 4, (some .int), yX7_slipped, false)
abbrev mX8_init : zM := (cX8_init, 8, 1, none, yX8_init, true)
abbrev mX9_init : zM := (cX9_init, 9, 1, none, yX9_init, true)
abbrev mX10_init : zM := (cX10_init, 10, 1, none, yX10_init, true)
abbrev mX11_init : zM := (cX11_init, 11, 2, none, yX11_init, true)
abbrev mX11_feed : zM := (cX11_feed, 11, 6, (some .int), yX11_feed, false)
abbrev mX11_post : zM := (cX11_post, 11, 2, (some .int), yX11_post, false)
abbrev mX11_fault : zM := (cX11_fault, 11, 1, (some .int), yX11_fault, false)
abbrev mX11_where : zM := (cX11_where, 11, 1, (some .int), yX11_where, false)
abbrev mX11_whale : zM := (cX11_whale, 11, 3, (some .int), yX11_whale, false)
abbrev mX11_box : zM := (cX11_box, 11, 3, (some .int), yX11_box, false)
abbrev mX11_length : zM := (cX11_length, 11, 2, (some .int), yX11_length, false)
abbrev mX11_note : zM := (cX11_note, 11, 3, (some .int), yX11_note, false)
abbrev mX11_sung : zM := (cX11_sung, 11, 3, (some .int), yX11_sung, false)
abbrev mX11_heard : zM := (cX11_heard, 11, 2, (some .int), yX11_heard, false)
abbrev mX11_way : zM := (cX11_way, 11, 4, (some .int), yX11_way, false)
abbrev mX11_season : zM := (cX11_season, 11, 2, (some .int), yX11_season, false)
abbrev mX11_sets : zM := (cX11_sets, 11, 4, (some .int), yX11_sets, false)
abbrev mX11_sent : zM := (cX11_sent, 11, 4, (some .int), yX11_sent, false)
abbrev mX11_apart : zM := (cX11_apart, 11, 3, (some .int), yX11_apart, false)
abbrev mX11_bear : zM := (cX11_bear, 11, 1, (some .int), yX11_bear, false)
abbrev mX11_mixed : zM := (cX11_mixed, 11, 1, (some .int), yX11_mixed, false)
abbrev mX11_fresh : zM := (cX11_fresh, 11, 4, (some .int), yX11_fresh, false)
abbrev mX11_byTurns : zM := (cX11_byTurns, 11, 4, (some .int), yX11_byTurns, false)
abbrev mX11_near : zM := (cX11_near, 11, 2, (some .int), yX11_near, false)
abbrev mX11_asNear : zM := (cX11_asNear, 11, 2, (some .int), yX11_asNear, false)
abbrev mX11_heardIn : zM := (cX11_heardIn, 11, 3, (some .int), yX11_heardIn, false)
abbrev mX11_strange : zM := (cX11_strange, 11, 3, (some .int), yX11_strange, false)
abbrev mX11_arrival : zM := (cX11_arrival, 11, 5, (some .int), yX11_arrival, false)
abbrev mX11_brings : zM := (cX11_brings, 11, 3, (some .int), yX11_brings, false)
abbrev mX11_soonest : zM := (cX11_soonest, 11, 2, (some .int), yX11_soonest, false)
abbrev mX11_surest : zM := (cX11_surest, 11, 2, (some .int), yX11_surest, false)
abbrev mX11_by : zM := (cX11_by, 11, 3, (some .int), yX11_by, false)
abbrev mX11_registered : zM := (cX11_registered, 11, 8, (some .long), yX11_registered, false)
abbrev mX11_match : zM := (cX11_match, 11, 1, (some .int), yX11_match, false)
abbrev mX11_matchDays : zM := (cX11_matchDays, 11, 1, (some .int), yX11_matchDays, false)
abbrev mX11_matchOf : zM := (cX11_matchOf, 11, 2, (some .int), yX11_matchOf, false)
abbrev mX11_meet : zM := (cX11_meet, 11, 5, (some .int), yX11_meet, false)
abbrev mX11_fits : zM := (cX11_fits, 11, 1, (some .int), yX11_fits, false)
abbrev mX11_reach : zM := (cX11_reach, 11, 3, (some .int), yX11_reach, false)
abbrev mX11_pier : zM := (cX11_pier, 11, 2, (some .int), yX11_pier, false)
abbrev mX11_watch : zM := (cX11_watch, 11, 3, (some .int), yX11_watch, false)
abbrev mX11_round : zM := (cX11_round, 11, 2, (some .int), yX11_round, false)
abbrev mX11_roundAt : zM := (cX11_roundAt, 11, 3, (some .int), yX11_roundAt, false)
abbrev mX11_decade : zM := (cX11_decade, 11, 5, (some .int), yX11_decade, false)
abbrev mX11_send : zM := (cX11_send, 11, 4, (some .int), yX11_send, false)
abbrev mX11_tune : zM := (cX11_tune, 11, 5, (some .boolean), yX11_tune, false)
abbrev mX11_years : zM := (cX11_years, 11, 2, (some .int), yX11_years, false)
abbrev mX11_close : zM := (cX11_close, 11, 3, (some .boolean), yX11_close, false)
abbrev mX11_undo : zM := (cX11_undo, 11, 1, (some .boolean), yX11_undo, false)
abbrev mX11_image : zM := (cX11_image, 11, 1, (some .int), yX11_image, false)
abbrev mX11_back : zM := (cX11_back, 11, 2, (some .boolean), yX11_back, false)
abbrev mX11_led : zM := (cX11_led, 11, 4, (some .int), yX11_led, false)
abbrev mX11_size : zM := (cX11_size, 11, 2, (some .int), yX11_size, false)
abbrev mX11_trouble : zM := (cX11_trouble, 11, 1, (some .int), yX11_trouble, false)
abbrev mX11_granted : zM := (cX11_granted, 11, 2, (some .int), yX11_granted, false)
abbrev mX11_refused : zM := (cX11_refused, 11, 2, (some .int), yX11_refused, false)
abbrev mX11_hasGranted : zM := (cX11_hasGranted, 11, 1, (some .boolean), yX11_hasGranted, false)
abbrev mX11_hasRefused : zM := (cX11_hasRefused, 11, 2, (some .boolean), yX11_hasRefused, false)
abbrev mX11_hasPost : zM := (cX11_hasPost, 11, 1, (some .boolean), yX11_hasPost, false)
abbrev mX11_isIsland : zM := (cX11_isIsland, 11, 2, (some .boolean), yX11_isIsland, false)
abbrev mX11_areTwoIslands : zM := (cX11_areTwoIslands, 11, 3, (some .boolean), yX11_areTwoIslands, false)
abbrev mX11_isWay : zM := (cX11_isWay, 11, 2, (some .boolean), yX11_isWay, false)
abbrev mX11_isWhale : zM := (cX11_isWhale, 11, 2, (some .boolean), yX11_isWhale, false)
abbrev mX11_isBox : zM := (cX11_isBox, 11, 2, (some .boolean), yX11_isBox, false)
abbrev mX11_isNoteOfBox : zM := (cX11_isNoteOfBox, 11, 3, (some .boolean), yX11_isNoteOfBox, false)
abbrev mX11_isWithin : zM := (cX11_isWithin, 11, 2, (some .boolean), yX11_isWithin, false)
abbrev mX11_refusalOfNewSong : zM := (cX11_refusalOfNewSong, 11, 4, (some .int), yX11_refusalOfNewSong, false)
abbrev mX11_appendBytes : zM := (cX11_appendBytes, 11, 3, none, yX11_appendBytes, false)
abbrev mX11_takeDraft : zM := (cX11_takeDraft, 11, 2, none, yX11_takeDraft, false)
abbrev mX11_keepForUndo : zM := (cX11_keepForUndo, 11, 1, none, yX11_keepForUndo, false)
abbrev mX11_hearerIn : zM := (cX11_hearerIn, 11, 3, (some .int), yX11_hearerIn, false)
abbrev mX11_sentPart : zM := (cX11_sentPart, 11, 3, (some .int), yX11_sentPart, false)
abbrev mX11_heardWithSlips : zM := (cX11_heardWithSlips, 11, 6, (some .int), yX11_heardWithSlips, false)
abbrev mX11_solveMatch : zM := (cX11_solveMatch, 11, 3, none, yX11_solveMatch, false)
abbrev mX11_commonDivisor : zM := (cX11_commonDivisor, 11, 6, (some .int), yX11_commonDivisor, false)
abbrev mX11_noteAt : zM := (cX11_noteAt, 11, 3, (some .int), yX11_noteAt, false)
abbrev mX11_withNote : zM := (cX11_withNote, 11, 5, (some .int), yX11_withNote, false)
abbrev mX11_unlikeNotes : zM := (cX11_unlikeNotes, 11, 3, (some .int), yX11_unlikeNotes, false)
abbrev mX12_init : zM := (cX12_init, 12, 1, none, yX12_init, true)
abbrev mX12_thrown : zM := (cX12_thrown, 12, 1, (some .int), yX12_thrown, false)
abbrev mX12_good : zM := (cX12_good, 12, 1, none, yX12_good, false)
abbrev mX12_no : zM := (cX12_no, 12, 2, (some .int), yX12_no, false)
abbrev mX12_isNot : zM := (cX12_isNot, 12, 2, (some .boolean), yX12_isNot, false)
abbrev mX12_in : zM := (cX12_in, 12, 3, (some .boolean), yX12_in, false)
abbrev mX12_hasBit : zM := (cX12_hasBit, 12, 2, (some .boolean), yX12_hasBit, false)
abbrev mX12_ones : zM := (cX12_ones, 12, 3, (some .int), yX12_ones, false)
abbrev mX12_copy : zM := (cX12_copy, 12, 6, none, yX12_copy, false)
abbrev mX12_later : zM := (cX12_later, 12, 2, (some .int), yX12_later, false)
abbrev mX12_feed : zM := (cX12_feed, 12, 8, (some .int), yX12_feed, false)
abbrev mX12_look : zM := (cX12_look, 12, 2, (some .int), yX12_look, false)
abbrev mX12_isSmall : zM := (cX12_isSmall, 12, 1, (some .boolean), yX12_isSmall, false)
abbrev mX12_isDigit : zM := (cX12_isDigit, 12, 1, (some .boolean), yX12_isDigit, false)
abbrev mX12_next : zM := (cX12_next, 12, 4, none, yX12_next, false)
abbrev mX12_wrong : zM := (cX12_wrong, 12, 3, none, yX12_wrong, false)
abbrev mX12_isWord : zM := (cX12_isWord, 12, 4, (some .boolean), yX12_isWord, false)
abbrev mX12_takesWord : zM := (cX12_takesWord, 12, 2, (some .boolean), yX12_takesWord, false)
abbrev mX12_must : zM := (cX12_must, 12, 2, none, yX12_must, false)
abbrev mX12_mustName : zM := (cX12_mustName, 12, 1, none, yX12_mustName, false)
abbrev mX12_find : zM := (cX12_find, 12, 4, (some .int), yX12_find, false)
abbrev mX12_newName : zM := (cX12_newName, 12, 3, none, yX12_newName, false)
abbrev mX12_named : zM := (cX12_named, 12, 4, (some .int), yX12_named, false)
abbrev mX12_islandPassed : zM := (cX12_islandPassed, 12, 2, (some .int), yX12_islandPassed, false)
abbrev mX12_islandBehind : zM := (cX12_islandBehind, 12, 2, (some .int), yX12_islandBehind, false)
abbrev mX12_number : zM := (cX12_number, 12, 4, (some .int), yX12_number, false)
abbrev mX12_after : zM := (cX12_after, 12, 4, (some .int), yX12_after, false)
abbrev mX12_post : zM := (cX12_post, 12, 3, (some .int), yX12_post, false)
abbrev mX12_begins : zM := (cX12_begins, 12, 3, (some .boolean), yX12_begins, false)
abbrev mX12_readLine : zM := (cX12_readLine, 12, 1, none, yX12_readLine, false)
abbrev mX12_postLine : zM := (cX12_postLine, 12, 1, none, yX12_postLine, false)
abbrev mX12_islandLine : zM := (cX12_islandLine, 12, 6, none, yX12_islandLine, false)
abbrev mX12_isSong : zM := (cX12_isSong, 12, 5, (some .boolean), yX12_isSong, false)
abbrev mX12_wayLine : zM := (cX12_wayLine, 12, 6, none, yX12_wayLine, false)
abbrev mX12_joins : zM := (cX12_joins, 12, 6, (some .boolean), yX12_joins, false)
abbrev mX12_whaleLine : zM := (cX12_whaleLine, 12, 3, none, yX12_whaleLine, false)
abbrev mX12_boxLine : zM := (cX12_boxLine, 12, 2, none, yX12_boxLine, false)
abbrev mX12_spoutLine : zM := (cX12_spoutLine, 12, 6, none, yX12_spoutLine, false)
abbrev mX12_fault : zM := (cX12_fault, 12, 1, (some .int), yX12_fault, false)
abbrev mX12_where : zM := (cX12_where, 12, 1, (some .int), yX12_where, false)
abbrev mX12_isIsland : zM := (cX12_isIsland, 12, 2, (some .boolean), yX12_isIsland, false)
abbrev mX12_isWhale : zM := (cX12_isWhale, 12, 2, (some .boolean), yX12_isWhale, false)
abbrev mX12_isBox : zM := (cX12_isBox, 12, 2, (some .boolean), yX12_isBox, false)
abbrev mX12_ofWhale : zM := (cX12_ofWhale, 12, 3, (some .int), yX12_ofWhale, false)
abbrev mX12_ofBox : zM := (cX12_ofBox, 12, 3, (some .int), yX12_ofBox, false)
abbrev mX12_songLong : zM := (cX12_songLong, 12, 2, (some .int), yX12_songLong, false)
abbrev mX12_boxLong : zM := (cX12_boxLong, 12, 2, (some .int), yX12_boxLong, false)
abbrev mX12_noteIn : zM := (cX12_noteIn, 12, 5, (some .int), yX12_noteIn, false)
abbrev mX12_whale : zM := (cX12_whale, 12, 3, (some .int), yX12_whale, false)
abbrev mX12_box : zM := (cX12_box, 12, 4, (some .int), yX12_box, false)
abbrev mX12_length : zM := (cX12_length, 12, 2, (some .int), yX12_length, false)
abbrev mX12_note : zM := (cX12_note, 12, 3, (some .int), yX12_note, false)
abbrev mX12_sung : zM := (cX12_sung, 12, 3, (some .int), yX12_sung, false)
abbrev mX12_unlike : zM := (cX12_unlike, 12, 8, (some .int), yX12_unlike, false)
abbrev mX12_hearsIn : zM := (cX12_hearsIn, 12, 9, (some .int), yX12_hearsIn, false)
abbrev mX12_heardNow : zM := (cX12_heardNow, 12, 2, (some .int), yX12_heardNow, false)
abbrev mX12_heard : zM := (cX12_heard, 12, 2, (some .int), yX12_heard, false)
abbrev mX12_isClosed : zM := (cX12_isClosed, 12, 2, (some .boolean), yX12_isClosed, false)
abbrev mX12_wayOf : zM := (cX12_wayOf, 12, 4, (some .int), yX12_wayOf, false)
abbrev mX12_way : zM := (cX12_way, 12, 4, (some .int), yX12_way, false)
abbrev mX12_nearOf : zM := (cX12_nearOf, 12, 7, (some .int), yX12_nearOf, false)
abbrev mX12_near : zM := (cX12_near, 12, 2, (some .int), yX12_near, false)
abbrev mX12_asNear : zM := (cX12_asNear, 12, 2, (some .int), yX12_asNear, false)
abbrev mX12_sent : zM := (cX12_sent, 12, 4, (some .int), yX12_sent, false)
abbrev mX12_apartOf : zM := (cX12_apartOf, 12, 5, (some .int), yX12_apartOf, false)
abbrev mX12_apart : zM := (cX12_apart, 12, 3, (some .int), yX12_apart, false)
abbrev mX12_bear : zM := (cX12_bear, 12, 4, (some .int), yX12_bear, false)
abbrev mX12_mixed : zM := (cX12_mixed, 12, 4, (some .int), yX12_mixed, false)
abbrev mX12_power : zM := (cX12_power, 12, 4, (some .int), yX12_power, false)
abbrev mX12_digitsApart : zM := (cX12_digitsApart, 12, 8, (some .int), yX12_digitsApart, false)
abbrev mX12_newSongs : zM := (cX12_newSongs, 12, 8, (some .int), yX12_newSongs, false)
abbrev mX12_songWhy : zM := (cX12_songWhy, 12, 3, (some .int), yX12_songWhy, false)
abbrev mX12_fresh : zM := (cX12_fresh, 12, 4, (some .int), yX12_fresh, false)
abbrev mX12_byTurns : zM := (cX12_byTurns, 12, 4, (some .int), yX12_byTurns, false)
abbrev mX12_heardIn : zM := (cX12_heardIn, 12, 3, (some .int), yX12_heardIn, false)
abbrev mX12_hearsItself : zM := (cX12_hearsItself, 12, 8, (some .boolean), yX12_hearsItself, false)
abbrev mX12_strange : zM := (cX12_strange, 12, 3, (some .int), yX12_strange, false)
abbrev mX12_dayBy : zM := (cX12_dayBy, 12, 4, (some .int), yX12_dayBy, false)
abbrev mX12_setsOut : zM := (cX12_setsOut, 12, 5, (some .int), yX12_setsOut, false)
abbrev mX12_seasonOf : zM := (cX12_seasonOf, 12, 1, (some .int), yX12_seasonOf, false)
abbrev mX12_season : zM := (cX12_season, 12, 2, (some .int), yX12_season, false)
abbrev mX12_sets : zM := (cX12_sets, 12, 4, (some .int), yX12_sets, false)
abbrev mX12_layDays : zM := (cX12_layDays, 12, 7, none, yX12_layDays, false)
abbrev mX12_goesBy : zM := (cX12_goesBy, 12, 8, none, yX12_goesBy, false)
abbrev mX12_arrivalOf : zM := (cX12_arrivalOf, 12, 5, (some .int), yX12_arrivalOf, false)
abbrev mX12_arrival : zM := (cX12_arrival, 12, 5, (some .int), yX12_arrival, false)
abbrev mX12_lays : zM := (cX12_lays, 12, 7, (some .boolean), yX12_lays, false)
abbrev mX12_bringsOf : zM := (cX12_bringsOf, 12, 3, (some .int), yX12_bringsOf, false)
abbrev mX12_brings : zM := (cX12_brings, 12, 3, (some .int), yX12_brings, false)
abbrev mX12_soonest : zM := (cX12_soonest, 12, 4, (some .int), yX12_soonest, false)
abbrev mX12_surestBut : zM := (cX12_surestBut, 12, 5, (some .int), yX12_surestBut, false)
abbrev mX12_surest : zM := (cX12_surest, 12, 2, (some .int), yX12_surest, false)
abbrev mX12_by : zM := (cX12_by, 12, 5, (some .int), yX12_by, false)
abbrev mX12_lowest : zM := (cX12_lowest, 12, 11, (some .long), yX12_lowest, false)
abbrev mX12_registered : zM := (cX12_registered, 12, 6, (some .long), yX12_registered, false)
abbrev mX12_tryMatch : zM := (cX12_tryMatch, 12, 6, none, yX12_tryMatch, false)
abbrev mX12_seekMatch : zM := (cX12_seekMatch, 12, 3, none, yX12_seekMatch, false)
abbrev mX12_match : zM := (cX12_match, 12, 1, (some .int), yX12_match, false)
abbrev mX12_matchDays : zM := (cX12_matchDays, 12, 1, (some .int), yX12_matchDays, false)
abbrev mX12_matchOf : zM := (cX12_matchOf, 12, 2, (some .int), yX12_matchOf, false)
abbrev mX12_meet : zM := (cX12_meet, 12, 8, (some .int), yX12_meet, false)
abbrev mX12_fitsAll : zM := (cX12_fitsAll, 12, 6, (some .boolean), yX12_fitsAll, false)
abbrev mX12_fits : zM := (cX12_fits, 12, 3, (some .int), yX12_fits, false)
abbrev mX12_reachOf : zM := (cX12_reachOf, 12, 5, (some .int), yX12_reachOf, false)
abbrev mX12_reach : zM := (cX12_reach, 12, 3, (some .int), yX12_reach, false)
abbrev mX12_pier : zM := (cX12_pier, 12, 8, (some .int), yX12_pier, false)
abbrev mX12_doLead : zM := (cX12_doLead, 12, 8, (some .boolean), yX12_doLead, false)
abbrev mX12_watch : zM := (cX12_watch, 12, 5, (some .int), yX12_watch, false)
abbrev mX12_layFar : zM := (cX12_layFar, 12, 4, none, yX12_layFar, false)
abbrev mX12_tryRound : zM := (cX12_tryRound, 12, 5, none, yX12_tryRound, false)
abbrev mX12_seekRound : zM := (cX12_seekRound, 12, 2, (some .int), yX12_seekRound, false)
abbrev mX12_round : zM := (cX12_round, 12, 2, (some .int), yX12_round, false)
abbrev mX12_roundAt : zM := (cX12_roundAt, 12, 3, (some .int), yX12_roundAt, false)
abbrev mX12_decade : zM := (cX12_decade, 12, 9, (some .int), yX12_decade, false)
abbrev mX12_note1 : zM := (cX12_note1, 12, 2, none, yX12_note1, false)
abbrev mX12_send : zM := (cX12_send, 12, 5, (some .int), yX12_send, false)
abbrev mX12_tune : zM := (cX12_tune, 12, 4, (some .boolean), yX12_tune, false)
abbrev mX12_years : zM := (cX12_years, 12, 2, (some .int), yX12_years, false)
abbrev mX12_close : zM := (cX12_close, 12, 3, (some .boolean), yX12_close, false)
abbrev mX12_undo : zM := (cX12_undo, 12, 1, (some .boolean), yX12_undo, false)
abbrev mX12_image : zM := (cX12_image, 12, 1, (some .int), yX12_image, false)
abbrev mX12_back : zM := (cX12_back, 12, 2, (some .boolean), yX12_back, false)
abbrev mX12_led : zM := (cX12_led, 12, 4, (some .int), yX12_led, false)
abbrev mX12_size : zM := (cX12_size, 12, 2, (some .int), yX12_size, false)
abbrev mX12_trouble : zM := (cX12_trouble, 12, 1, (some .int), yX12_trouble, false)
abbrev mJ0_length_8abf5 : zM := (cJ0_length_8abf5, 14, 1, (some .int), yJ0_length_8abf5, false)
abbrev mJ0_charAt_5068e : zM := (cJ0_charAt_5068e, 14, 2, (some .char), yJ0_charAt_5068e, false)
abbrev mJ0_coder_7d493 : zM := (cJ0_coder_7d493, 14, 1, (some .byte), yJ0_coder_7d493, false)
abbrev mJ0_isLatin1_aae02 : zM := (cJ0_isLatin1_aae02, 14, 1, (some .boolean), yJ0_isLatin1_aae02, false)
abbrev mJ0_checkIndex_df160 : zM := (cJ0_checkIndex_df160, 14, 2, none, yJ0_checkIndex_df160, false)
abbrev mJ1_charAt_3b067 : zM := (cJ1_charAt_3b067, 15, 2, (some .char), yJ1_charAt_3b067, false)
abbrev mJ3_checkIndex_8e157 : zM := (cJ3_checkIndex_8e157, 18, 3, (some .int), yJ3_checkIndex_8e157, false)
abbrev mJ7_fill_53178 : zM := (cJ7_fill_53178, 17, 4, none, yJ7_fill_53178, false)
abbrev mJ6_bitCount_0f7a4 : zM := (cJ6_bitCount_0f7a4, 16, 1, (some .int), yJ6_bitCount_0f7a4, false)
abbrev mL_law : zM := (cL_law, 13, 7, some .boolean, yL_law, false)
abbrev zledM : zM := mX11_led
def zlook {α : Type} (l : List (Nat × α)) (i : Nat) : Option α := match l with
  | [] => none
  | q :: t => if q.1 = i then some q.2 else zlook t i
/-- fields by (class, pool number): class, place, place of the word -/
def zfldT0 : List (Nat × Nat × Nat × Nat) := []
def zfldT1 : List (Nat × Nat × Nat × Nat) := [(9, 1, 0, 545), (15, 1, 1, 547), (18, 1, 2, 549), (22, 1, 3, 551), (25, 1, 4, 553)]
def zfldT2 : List (Nat × Nat × Nat × Nat) := [(9, 2, 0, 425), (15, 2, 1, 428), (18, 2, 2, 430), (22, 2, 3, 433), (25, 2, 4, 436), (28, 2, 5, 438), (31, 2, 6, 440), (34, 4, 6, 299), (39, 4, 12, 327), (43, 10, 1, 208), (48, 4, 7, 305), (51, 4, 9, 313), (54, 4, 13, 332), (58, 0, 1, 234)]
def zfldT3 : List (Nat × Nat × Nat × Nat) := [(9, 3, 1, 526), (15, 3, 2, 528), (18, 3, 3, 529), (21, 3, 0, 524), (25, 4, 4, 288), (40, 4, 5, 295), (43, 4, 11, 322), (47, 9, 0, 174), (52, 9, 1, 178), (73, 9, 2, 183)]
def zfldT4 : List (Nat × Nat × Nat × Nat) := [(9, 4, 9, 312), (15, 4, 10, 317), (20, 4, 11, 321), (26, 4, 12, 326), (32, 4, 13, 331), (38, 4, 14, 336), (46, 4, 0, 272), (50, 4, 1, 276), (53, 4, 2, 281), (56, 4, 3, 284), (59, 4, 4, 289), (62, 4, 5, 294), (65, 4, 6, 300), (68, 4, 7, 304), (71, 4, 8, 308), (74, 0, 1, 235), (77, 9, 0, 176), (80, 9, 1, 180), (83, 8, 0, 258)]
def zfldT5 : List (Nat × Nat × Nat × Nat) := [(9, 5, 1, 377), (15, 5, 2, 378), (18, 5, 3, 379), (21, 5, 4, 380), (24, 5, 5, 381), (27, 5, 7, 383), (31, 5, 8, 384), (35, 5, 9, 385), (38, 5, 10, 386), (41, 5, 11, 387), (44, 5, 12, 389), (47, 5, 0, 376), (51, 5, 6, 382), (73, 4, 4, 290), (84, 4, 0, 274), (93, 4, 5, 297), (96, 4, 11, 324), (104, 4, 6, 301), (107, 4, 12, 328), (115, 4, 7, 306), (118, 4, 13, 333), (126, 4, 8, 309), (129, 4, 14, 337), (148, 4, 1, 277), (152, 4, 2, 282), (156, 4, 3, 285), (167, 4, 9, 315), (170, 4, 10, 319), (176, 9, 0, 177), (181, 9, 1, 181), (189, 9, 2, 184), (193, 9, 3, 187), (198, 10, 0, 207), (204, 10, 1, 209), (209, 10, 2, 213), (213, 10, 3, 216), (217, 0, 0, 233), (223, 0, 1, 237), (227, 0, 2, 240), (231, 0, 3, 243), (233, 8, 0, 259), (237, 8, 1, 261), (244, 8, 2, 263)]
def zfldT6 : List (Nat × Nat × Nat × Nat) := [(9, 6, 3, 498), (15, 6, 4, 499), (19, 6, 5, 501), (22, 6, 6, 502), (25, 6, 0, 494), (29, 6, 1, 496), (33, 6, 2, 497), (44, 4, 4, 291), (49, 4, 5, 296), (52, 4, 11, 323), (56, 9, 0, 175), (61, 9, 1, 179), (74, 9, 2, 182), (77, 9, 3, 186), (88, 4, 12, 329), (92, 4, 13, 334), (99, 0, 2, 238), (107, 10, 0, 205), (112, 2, 6, 441), (119, 2, 0, 426), (127, 2, 2, 432), (130, 0, 0, 231), (133, 2, 3, 435), (140, 0, 3, 241), (149, 10, 2, 212), (152, 4, 6, 302), (158, 10, 3, 215), (167, 10, 1, 210), (170, 4, 8, 310), (173, 4, 14, 338), (177, 8, 0, 260), (181, 8, 1, 262), (184, 8, 2, 264)]
def zfldT7 : List (Nat × Nat × Nat × Nat) := [(9, 7, 1, 466), (15, 7, 2, 468), (18, 7, 3, 470), (21, 7, 4, 472), (24, 7, 5, 474), (28, 7, 0, 464), (32, 4, 2, 280), (37, 4, 0, 273), (44, 4, 9, 314), (47, 4, 10, 318), (57, 4, 4, 293), (64, 4, 1, 278), (89, 4, 3, 286)]
def zfldT8 : List (Nat × Nat × Nat × Nat) := []
def zfldT9 : List (Nat × Nat × Nat × Nat) := []
def zfldT10 : List (Nat × Nat × Nat × Nat) := []
def zfldT11 : List (Nat × Nat × Nat × Nat) := [(9, 11, 0, 566), (13, 11, 1, 567), (17, 11, 2, 568), (23, 11, 3, 569), (27, 11, 4, 570), (35, 11, 5, 571), (42, 11, 6, 572), (51, 11, 7, 573), (60, 11, 8, 574), (67, 11, 9, 575), (74, 11, 10, 576), (78, 11, 11, 577), (82, 11, 12, 578), (85, 11, 13, 579), (88, 11, 14, 580), (91, 11, 15, 581), (109, 4, 4, 292), (115, 5, 11, 388), (118, 5, 12, 390), (125, 4, 12, 330), (129, 10, 0, 206), (134, 2, 2, 431), (138, 2, 3, 434), (141, 10, 2, 211), (144, 10, 3, 214), (150, 4, 13, 335), (154, 0, 0, 232), (159, 0, 1, 236), (162, 0, 2, 239), (165, 0, 3, 242), (168, 2, 4, 437), (171, 2, 5, 439), (177, 4, 10, 320), (180, 2, 0, 427), (195, 2, 6, 442), (213, 4, 11, 325), (217, 9, 2, 185), (233, 9, 3, 188), (239, 4, 7, 307), (265, 7, 4, 473), (268, 7, 2, 469), (271, 7, 3, 471), (274, 4, 9, 316), (301, 1, 2, 550), (304, 1, 3, 552), (307, 1, 1, 548), (322, 2, 1, 429), (331, 3, 1, 527), (335, 7, 1, 467), (344, 6, 4, 500), (350, 4, 0, 275), (370, 4, 1, 279), (373, 4, 2, 283), (376, 4, 3, 287), (379, 4, 5, 298), (382, 4, 6, 303), (385, 4, 8, 311), (388, 7, 0, 465), (389, 6, 0, 495), (390, 3, 0, 525), (402, 1, 0, 546)]
def zfldT12 : List (Nat × Nat × Nat × Nat) := [(7, 12, 1, 1378), (13, 12, 10, 1387), (17, 12, 12, 1389), (20, 12, 15, 1392), (23, 12, 16, 1393), (26, 12, 17, 1394), (29, 12, 18, 1395), (32, 12, 19, 1396), (35, 12, 22, 1399), (38, 12, 24, 1401), (41, 12, 25, 1402), (44, 12, 28, 1405), (47, 12, 29, 1406), (50, 12, 30, 1407), (53, 12, 35, 1412), (56, 12, 36, 1413), (59, 12, 37, 1414), (62, 12, 0, 1377), (65, 12, 11, 1388), (68, 12, 2, 1379), (71, 12, 3, 1380), (74, 12, 5, 1382), (81, 12, 4, 1381), (84, 12, 8, 1385), (87, 12, 7, 1384), (90, 12, 6, 1383), (100, 12, 13, 1390), (104, 12, 9, 1386), (180, 12, 14, 1391), (183, 12, 20, 1397), (186, 12, 21, 1398), (315, 12, 23, 1400), (358, 12, 26, 1403), (361, 12, 27, 1404), (379, 12, 31, 1408), (382, 12, 32, 1409), (392, 12, 33, 1410), (395, 12, 34, 1411), (410, 12, 38, 1415)]
def zfldT13 : List (Nat × Nat × Nat × Nat) := []
def zfldT14 : List (Nat × Nat × Nat × Nat) := []
def zfldT15 : List (Nat × Nat × Nat × Nat) := []
def zfldT16 : List (Nat × Nat × Nat × Nat) := []
def zfldT17 : List (Nat × Nat × Nat × Nat) := []
def zfldT18 : List (Nat × Nat × Nat × Nat) := []
def zfldTT : List (List (Nat × Nat × Nat × Nat)) := [zfldT0, zfldT1, zfldT2, zfldT3, zfldT4, zfldT5, zfldT6, zfldT7, zfldT8, zfldT9, zfldT10, zfldT11, zfldT12, zfldT13, zfldT14, zfldT15, zfldT16, zfldT17, zfldT18]
def zfld (o k : Nat) : Option (Nat × Nat) := (zlook (zfldTT.getD o []) k).map (fun q => (q.1, q.2.1))
def zcstT0 : List (Nat × zV × Nat) := []
def zclsT0 : List (Nat × Nat × Nat) := []
def zcstT1 : List (Nat × zV × Nat) := [(48, .inl (10000000), 1110)]
def zclsT1 : List (Nat × Nat × Nat) := []
def zcstT2 : List (Nat × zV × Nat) := []
def zclsT2 : List (Nat × Nat × Nat) := []
def zcstT3 : List (Nat × zV × Nat) := [(62, .inl (1000000), 1201)]
def zclsT3 : List (Nat × Nat × Nat) := []
def zcstT4 : List (Nat × zV × Nat) := []
def zclsT4 : List (Nat × Nat × Nat) := [(18, 9, 161), (24, 10, 163), (30, 0, 165), (36, 8, 167)]
def zcstT5 : List (Nat × zV × Nat) := [(137, .inr (.inr (some 1000016)), 724), (146, .inr (.inr (some 1000017)), 733), (150, .inr (.inr (some 1000018)), 734), (154, .inr (.inr (some 1000019)), 735), (187, .inr (.inr (some 1000020)), 772), (191, .inr (.inr (some 1000021)), 773), (203, .inr (.inr (some 1000026)), 786), (207, .inr (.inr (some 1000027)), 787), (211, .inr (.inr (some 1000028)), 788), (215, .inr (.inr (some 1000029)), 793), (221, .inr (.inr (some 1000030)), 794), (225, .inr (.inr (some 1000031)), 795), (229, .inr (.inr (some 1000032)), 796), (255, .inr (.inr (some 1000022)), 782), (257, .inr (.inr (some 1000023)), 783), (259, .inr (.inr (some 1000024)), 784), (261, .inr (.inr (some 1000025)), 785), (263, .inr (.inr (some 1000010)), 658), (264, .inr (.inr (some 1000011)), 711), (265, .inr (.inr (some 1000012)), 712), (266, .inr (.inr (some 1000013)), 713), (267, .inr (.inr (some 1000014)), 714), (268, .inr (.inr (some 1000015)), 715)]
def zclsT5 : List (Nat × Nat × Nat) := []
def zcstT6 : List (Nat × zV × Nat) := [(37, .inl (1000000000), 1033)]
def zclsT6 : List (Nat × Nat × Nat) := []
def zcstT7 : List (Nat × zV × Nat) := [(84, .inl (65537), 1237)]
def zclsT7 : List (Nat × Nat × Nat) := []
def zcstT8 : List (Nat × zV × Nat) := []
def zclsT8 : List (Nat × Nat × Nat) := []
def zcstT9 : List (Nat × zV × Nat) := []
def zclsT9 : List (Nat × Nat × Nat) := []
def zcstT10 : List (Nat × zV × Nat) := []
def zclsT10 : List (Nat × Nat × Nat) := []
def zcstT11 : List (Nat × zV × Nat) := [(226, .inl (99999), 923), (334, .inl (65536), 1224), (365, .inr (.inr (some 1000033)), 1345)]
def zclsT11 : List (Nat × Nat × Nat) := [(20, 4, 155), (30, 5, 370), (39, 2, 419), (46, 7, 458), (55, 6, 488), (64, 3, 518), (71, 1, 539), (363, 99, 1306)]
def zcstT12 : List (Nat × zV × Nat) := [(131, .inr (.inr (some 1000010)), 1536), (133, .inr (.inr (some 1000011)), 1571), (135, .inr (.inr (some 1000012)), 1588), (137, .inr (.inr (some 1000013)), 1589), (139, .inr (.inr (some 1000014)), 1590), (141, .inr (.inr (some 1000015)), 1591), (211, .inr (.inr (some 1000016)), 1551), (217, .inr (.inr (some 1000017)), 1568), (219, .inr (.inr (some 1000018)), 1569), (221, .inr (.inr (some 1000019)), 1570), (234, .inr (.inr (some 1000020)), 1615), (235, .inr (.inr (some 1000021)), 1616), (237, .inr (.inr (some 1000022)), 1621), (239, .inr (.inr (some 1000023)), 1622), (241, .inr (.inr (some 1000024)), 1623), (243, .inr (.inr (some 1000025)), 1624), (245, .inr (.inr (some 1000026)), 1625), (250, .inr (.inr (some 1000027)), 1630), (252, .inr (.inr (some 1000028)), 1631), (254, .inr (.inr (some 1000029)), 1636), (256, .inr (.inr (some 1000030)), 1637), (258, .inr (.inr (some 1000031)), 1638), (260, .inr (.inr (some 1000032)), 1639), (340, .inl (99999), 1810), (341, .inl (1000000), 1834), (373, .inr (.inl (10000)), 1878), (422, .inl (65536), 1961), (423, .inl (65537), 1962)]
def zclsT12 : List (Nat × Nat × Nat) := []
def zcstT13 : List (Nat × zV × Nat) := []
def zclsT13 : List (Nat × Nat × Nat) := [(8, 11, 147), (13, 99, 1301), (16, 12, 1371)]
def zcstT14 : List (Nat × zV × Nat) := []
def zclsT14 : List (Nat × Nat × Nat) := []
def zcstT15 : List (Nat × zV × Nat) := []
def zclsT15 : List (Nat × Nat × Nat) := []
def zcstT16 : List (Nat × zV × Nat) := [(265, .inl (1431655765), 899), (266, .inl (858993459), 900), (267, .inl (252645135), 901)]
def zclsT16 : List (Nat × Nat × Nat) := []
def zcstT17 : List (Nat × zV × Nat) := []
def zclsT17 : List (Nat × Nat × Nat) := []
def zcstT18 : List (Nat × zV × Nat) := []
def zclsT18 : List (Nat × Nat × Nat) := []
def zcstTT : List (List (Nat × zV × Nat)) := [zcstT0, zcstT1, zcstT2, zcstT3, zcstT4, zcstT5, zcstT6, zcstT7, zcstT8, zcstT9, zcstT10, zcstT11, zcstT12, zcstT13, zcstT14, zcstT15, zcstT16, zcstT17, zcstT18]
def zcst (o k : Nat) : Option zV := (zlook (zcstTT.getD o []) k).map (fun q => q.1)
def zclsTT : List (List (Nat × Nat × Nat)) := [zclsT0, zclsT1, zclsT2, zclsT3, zclsT4, zclsT5, zclsT6, zclsT7, zclsT8, zclsT9, zclsT10, zclsT11, zclsT12, zclsT13, zclsT14, zclsT15, zclsT16, zclsT17, zclsT18]
def zcls (o k : Nat) : Option Nat := (zlook (zclsTT.getD o []) k).map (fun q => q.1)
/-- calls by (class, pool number): kind, how many arguments (the receiver too), the method; places of link, instanceMethod or static, selects, initialized -/
def zmthT0 : List (Nat × Nat × Nat × zM × Nat × Nat × Nat × Nat × Nat) := [(1, 10, 0, zledM, 230, 0, 0, 0, 0)]
def zmthT1 : List (Nat × Nat × Nat × zM × Nat × Nat × Nat × Nat × Nat) := [(3, 10, 0, zledM, 544, 0, 0, 0, 0),
  (28, 1, 2, mJ7_fill_53178, 1105, 1035, 0, 141, 1036),
  (34, 0, 4, mX1_worth, 1106, 1108, 42, 133, 1109),
  (38, 11, 0, zledM, 1111, 0, 0, 0, 0),
  (44, 0, 3, mX1_choose, 1112, 1114, 43, 133, 1115),
  (49, 0, 4, mX1_firstBest, 1116, 1118, 44, 133, 1119)]
def zmthT2 : List (Nat × Nat × Nat × zM × Nat × Nat × Nat × Nat × Nat) := [(3, 10, 0, zledM, 424, 0, 0, 0, 0),
  (63, 14, 0, zledM, 1253, 0, 0, 0, 0)]
def zmthT3 : List (Nat × Nat × Nat × zM × Nat × Nat × Nat × Nat × Nat) := [(3, 10, 0, zledM, 523, 0, 0, 0, 0),
  (31, 0, 2, mX3_waysOutOf, 1184, 1186, 47, 132, 1187),
  (35, 1, 1, mJ6_bitCount_0f7a4, 1188, 897, 0, 140, 898),
  (55, 0, 2, mX3_findShortest, 1197, 1199, 48, 132, 1200),
  (59, 0, 1, mX3_findRests, 1204, 1206, 49, 132, 1207),
  (63, 0, 3, mX3_nextOf, 1212, 1214, 51, 132, 1215),
  (67, 1, 2, mJ7_fill_53178, 1202, 1035, 0, 141, 1036),
  (76, 12, 0, zledM, 1203, 0, 0, 0, 0),
  (81, 0, 4, mX3_daysOver, 1208, 1210, 50, 132, 1211)]
def zmthT4 : List (Nat × Nat × Nat × zM × Nat × Nat × Nat × Nat × Nat) := [(3, 10, 0, zledM, 160, 0, 0, 0, 0),
  (42, 4, 1, mX9_init, 170, 171, 0, 124, 172),
  (43, 4, 1, mX10_init, 201, 202, 0, 125, 203),
  (44, 4, 1, mX0_init, 227, 228, 0, 126, 229),
  (45, 4, 1, mX8_init, 254, 255, 0, 127, 256)]
def zmthT5 : List (Nat × Nat × Nat × zM × Nat × Nat × Nat × Nat × Nat) := [(3, 10, 0, zledM, 375, 0, 0, 0, 0),
  (55, 0, 1, mX4_clear, 635, 636, 637, 123, 638),
  (60, 12, 0, zledM, 639, 0, 0, 0, 0),
  (66, 0, 1, mX5_readLine, 642, 644, 2, 128, 645),
  (70, 0, 1, mX5_nextToken, 646, 648, 3, 128, 649),
  (76, 0, 2, mX5_faulty, 716, 718, 7, 128, 719),
  (80, 0, 1, mX5_sortOfLine, 654, 656, 5, 128, 657),
  (87, 0, 1, mX5_readHead, 720, 722, 8, 128, 723),
  (90, 0, 1, mX5_readIsland, 736, 738, 11, 128, 739),
  (100, 0, 2, mX5_readWay, 760, 762, 16, 128, 763),
  (111, 0, 2, mX5_readWhale, 774, 776, 18, 128, 777),
  (122, 0, 2, mX5_readBox, 789, 791, 20, 128, 792),
  (133, 0, 2, mX5_readSpout, 797, 799, 21, 128, 800),
  (138, 0, 2, mX5_word, 725, 727, 9, 128, 728),
  (142, 0, 3, mX5_whole, 729, 731, 10, 128, 732),
  (158, 0, 3, mX5_newName, 740, 742, 12, 128, 743),
  (161, 0, 1, mX5_songOfToken, 752, 754, 15, 128, 755),
  (164, 0, 3, mX4_hasSong, 756, 757, 758, 123, 759),
  (173, 0, 2, mX5_toldName, 764, 766, 17, 128, 767),
  (184, 0, 3, mX4_wayBetween, 768, 769, 770, 123, 771),
  (195, 0, 1, mX5_kindOfToken, 778, 780, 19, 128, 781),
  (240, 0, 2, mX4_lastSpoutOf, 801, 802, 803, 123, 804),
  (245, 0, 2, mX5_isToken, 659, 661, 6, 128, 662),
  (248, 0, 1, mX5_nameOfToken, 744, 746, 13, 128, 747),
  (251, 0, 1, mX5_letters, 748, 750, 14, 128, 751),
  (269, 0, 1, mJ0_length_8abf5, 663, 664, 665, 136, 666),
  (274, 0, 2, mJ0_charAt_5068e, 673, 674, 675, 136, 676),
  (278, 0, 3, mX5_passAll, 650, 652, 4, 128, 653)]
def zmthT6 : List (Nat × Nat × Nat × zM × Nat × Nat × Nat × Nat × Nat) := [(3, 10, 0, zledM, 493, 0, 0, 0, 0),
  (38, 1, 2, mJ7_fill_53178, 1034, 1035, 0, 141, 1036),
  (64, 0, 2, mX2_isClosed, 1037, 912, 913, 129, 914),
  (70, 0, 5, mX6_goes, 1038, 1040, 40, 131, 1041),
  (80, 0, 4, mX6_dayOfLeaving, 1042, 936, 937, 131, 938),
  (84, 0, 4, mX6_findFirstDays, 1029, 1031, 39, 131, 1032),
  (96, 0, 2, mX2_isSent, 1051, 944, 945, 129, 946),
  (115, 0, 2, mX4_boxLength, 1054, 878, 879, 123, 880),
  (122, 0, 4, mX7_hearerOf, 1055, 890, 891, 130, 892),
  (136, 0, 5, mX6_firstDayAt, 1056, 1026, 1027, 131, 1028),
  (143, 11, 0, zledM, 1057, 0, 0, 0, 0),
  (155, 0, 3, mX6_dayOfBringing, 1068, 1048, 1049, 131, 1050),
  (161, 12, 0, zledM, 1136, 0, 0, 0, 0),
  (164, 0, 2, mX6_isFitting, 1145, 1147, 45, 131, 1148),
  (185, 0, 2, mX4_lastSpoutOf, 1157, 802, 803, 123, 804),
  (188, 0, 1, mX6_fittingWhales, 1166, 1142, 1143, 131, 1144),
  (192, 1, 1, mJ6_bitCount_0f7a4, 1167, 897, 0, 140, 898),
  (197, 0, 3, mX6_whalesReaching, 1168, 1170, 46, 131, 1171),
  (200, 13, 0, zledM, 1173, 0, 0, 0, 0),
  (203, 0, 3, mX6_islandsReached, 1172, 1154, 1155, 131, 1156)]
def zmthT7 : List (Nat × Nat × Nat × zM × Nat × Nat × Nat × Nat × Nat) := [(3, 10, 0, zledM, 463, 0, 0, 0, 0),
  (40, 3, 3, mX11_noteAt, 865, 866, 0, 122, 867),
  (50, 0, 2, mX7_fallIn, 857, 859, 27, 130, 860),
  (54, 0, 4, mX7_raised, 861, 863, 28, 130, 864),
  (60, 3, 2, mX11_unlikeNotes, 893, 894, 0, 122, 895),
  (67, 0, 3, mX7_apartness, 967, 956, 957, 130, 958),
  (70, 0, 3, mX7_keepSongsOf, 988, 990, 36, 130, 991),
  (73, 0, 3, mX7_isOfNotes, 993, 995, 37, 130, 996),
  (77, 0, 4, mX7_isFarFromKept, 997, 999, 38, 130, 1000),
  (81, 0, 3, mX7_songIn, 992, 854, 855, 130, 856),
  (85, 0, 1, mX7_draw, 1233, 1235, 53, 130, 1236),
  (92, 3, 4, mX11_withNote, 1238, 1239, 0, 122, 1240)]
def zmthT8 : List (Nat × Nat × Nat × zM × Nat × Nat × Nat × Nat × Nat) := [(1, 10, 0, zledM, 257, 0, 0, 0, 0)]
def zmthT9 : List (Nat × Nat × Nat × zM × Nat × Nat × Nat × Nat × Nat) := [(1, 10, 0, zledM, 173, 0, 0, 0, 0)]
def zmthT10 : List (Nat × Nat × Nat × zM × Nat × Nat × Nat × Nat × Nat) := [(1, 10, 0, zledM, 204, 0, 0, 0, 0)]
def zmthT11 : List (Nat × Nat × Nat × zM × Nat × Nat × Nat × Nat × Nat) := [(1, 10, 0, zledM, 152, 0, 0, 0, 0),
  (22, 2, 1, mX4_init, 157, 158, 0, 123, 159),
  (32, 2, 3, mX5_init, 372, 373, 0, 128, 374),
  (41, 4, 1, mX2_init, 421, 422, 0, 129, 423),
  (48, 2, 2, mX7_init, 460, 461, 0, 130, 462),
  (57, 2, 4, mX6_init, 490, 491, 0, 131, 492),
  (66, 2, 2, mX3_init, 520, 521, 0, 132, 522),
  (73, 4, 1, mX1_init, 541, 542, 0, 133, 543),
  (94, 0, 2, mX11_appendBytes, 619, 621, 0, 122, 622),
  (98, 0, 2, mX11_refused, 627, 629, 1, 122, 630),
  (102, 0, 3, mX5_readPost, 631, 632, 633, 128, 634),
  (106, 0, 1, mX11_takeDraft, 805, 807, 22, 122, 808),
  (112, 0, 2, mX11_granted, 813, 815, 23, 122, 816),
  (121, 0, 2, mX11_isWhale, 829, 831, 24, 122, 832),
  (147, 0, 2, mX11_isBox, 837, 839, 25, 122, 840),
  (174, 0, 2, mX11_isIsland, 845, 847, 26, 122, 848),
  (183, 0, 3, mX7_songIn, 853, 854, 855, 130, 856),
  (187, 1, 3, mX11_noteAt, 868, 866, 0, 122, 867),
  (191, 0, 3, mX11_isNoteOfBox, 873, 875, 29, 122, 876),
  (198, 0, 2, mX4_boxLength, 877, 878, 879, 123, 880),
  (201, 0, 3, mX11_hearerIn, 885, 887, 30, 122, 888),
  (204, 0, 3, mX11_areTwoIslands, 906, 908, 31, 122, 909),
  (207, 0, 3, mX4_wayBetween, 910, 769, 770, 123, 771),
  (210, 0, 2, mX2_isClosed, 911, 912, 913, 129, 914),
  (222, 0, 1, mX11_hasPost, 919, 921, 32, 122, 922),
  (227, 1, 2, mX11_isWithin, 924, 925, 0, 122, 926),
  (230, 0, 2, mX11_isWay, 931, 933, 33, 122, 934),
  (236, 0, 4, mX6_dayOfLeaving, 935, 936, 937, 131, 938),
  (242, 0, 2, mX2_isSent, 943, 944, 945, 129, 946),
  (245, 0, 3, mX11_sentPart, 947, 949, 34, 122, 950),
  (248, 0, 3, mX7_apartness, 955, 956, 957, 130, 958),
  (251, 0, 1, mX7_bearable, 963, 964, 965, 130, 966),
  (255, 0, 1, mX7_mixedPairs, 972, 973, 974, 130, 975),
  (258, 0, 3, mX11_refusalOfNewSong, 980, 982, 35, 122, 983),
  (261, 0, 5, mX7_findNew, 984, 985, 986, 130, 987),
  (277, 0, 4, mX7_hearerOf, 889, 890, 891, 130, 892),
  (280, 0, 5, mX6_firstDayAt, 1025, 1026, 1027, 131, 1028),
  (283, 0, 3, mX6_dayOfBringing, 1047, 1048, 1049, 131, 1050),
  (286, 0, 2, mX6_soonestBringer, 1064, 1065, 1066, 131, 1067),
  (289, 0, 3, mX6_surestBringer, 1073, 1074, 1075, 131, 1076),
  (292, 0, 3, mX6_bringersBy, 1081, 1082, 1083, 131, 1084),
  (295, 1, 2, mX11_commonDivisor, 1089, 1090, 0, 122, 1091),
  (298, 0, 1, mX11_solveMatch, 1097, 1099, 41, 122, 1100),
  (310, 0, 5, mX6_dayOfMeeting, 1132, 1133, 1134, 131, 1135),
  (313, 0, 1, mX6_fittingWhales, 1141, 1142, 1143, 131, 1144),
  (316, 0, 3, mX6_islandsReached, 1153, 1154, 1155, 131, 1156),
  (319, 0, 2, mX6_bestPier, 1162, 1163, 1164, 131, 1165),
  (325, 0, 4, mX3_fewestToWatch, 1180, 1181, 1182, 132, 1183),
  (328, 0, 3, mX3_findRound, 1193, 1194, 1195, 132, 1196),
  (338, 0, 2, mX11_heardWithSlips, 1225, 1227, 52, 122, 1228),
  (341, 0, 1, mX11_keepForUndo, 1245, 1247, 54, 122, 1248),
  (347, 0, 2, mX11_hasRefused, 1261, 1263, 55, 122, 1264),
  (353, 1, 4, mX11_withNote, 1265, 1239, 0, 122, 1240),
  (356, 0, 1, mX11_hasGranted, 1266, 1268, 56, 122, 1269),
  (359, 0, 2, mX2_copyFrom, 1249, 1250, 1251, 129, 1252),
  (391, 0, 2, mX2_begin, 809, 810, 811, 129, 812),
  (394, 12, 0, zledM, 1256, 0, 0, 0, 0),
  (399, 0, 3, mX7_slipped, 1229, 1230, 1231, 130, 1232),
  (404, 0, 3, mX1_solve, 1101, 1102, 1103, 133, 1104),
  (408, 11, 0, zledM, 1092, 0, 0, 0, 0),
  (411, 1, 1, mJ6_bitCount_0f7a4, 896, 897, 0, 140, 898)]
def zmthT12 : List (Nat × Nat × Nat × zM × Nat × Nat × Nat × Nat × Nat) := [(1, 10, 0, zledM, 1376, 0, 0, 0, 0),
  (77, 0, 2, mX12_look, 1522, 1524, 61, 134, 1525),
  (93, 1, 1, mX12_isSmall, 1526, 1527, 0, 134, 1528),
  (97, 1, 1, mX12_isDigit, 1529, 1530, 0, 134, 1531),
  (107, 0, 1, mJ0_length_8abf5, 1541, 664, 665, 136, 666),
  (113, 0, 2, mJ0_charAt_5068e, 1542, 674, 675, 136, 676),
  (117, 0, 2, mX12_isWord, 1537, 1539, 63, 134, 1540),
  (121, 0, 1, mX12_next, 1518, 1520, 60, 134, 1521),
  (124, 0, 2, mX12_takesWord, 1560, 1562, 68, 134, 1563),
  (127, 0, 3, mX12_wrong, 1547, 1549, 65, 134, 1550),
  (143, 0, 1, mX12_mustName, 1584, 1586, 73, 134, 1587),
  (146, 0, 1, mX12_find, 1592, 1594, 74, 134, 1595),
  (149, 1, 3, mX12_in, 1511, 1512, 0, 134, 1513),
  (153, 0, 3, mX12_named, 1608, 1610, 78, 134, 1611),
  (157, 0, 2, mX12_must, 1556, 1558, 67, 134, 1559),
  (161, 0, 1, mX12_islandPassed, 1604, 1606, 77, 134, 1607),
  (164, 0, 3, mX12_number, 1564, 1566, 69, 134, 1567),
  (167, 0, 1, mX12_good, 1507, 1509, 58, 134, 1510),
  (170, 0, 2, mX12_no, 1514, 1516, 59, 134, 1517),
  (173, 0, 1, mX12_readLine, 1532, 1534, 62, 134, 1535),
  (176, 1, 5, mX12_copy, 1644, 1645, 0, 134, 1646),
  (189, 0, 1, mX12_postLine, 1543, 1545, 64, 134, 1546),
  (192, 0, 3, mX12_begins, 1572, 1574, 70, 134, 1575),
  (196, 0, 1, mX12_islandLine, 1576, 1578, 71, 134, 1579),
  (199, 0, 1, mX12_wayLine, 1600, 1602, 76, 134, 1603),
  (202, 0, 1, mX12_whaleLine, 1617, 1619, 79, 134, 1620),
  (205, 0, 1, mX12_boxLine, 1632, 1634, 81, 134, 1635),
  (208, 0, 1, mX12_spoutLine, 1640, 1642, 82, 134, 1643),
  (213, 0, 4, mX12_after, 1552, 1554, 66, 134, 1555),
  (223, 0, 2, mX12_newName, 1580, 1582, 72, 134, 1583),
  (227, 0, 2, mX12_isSong, 1596, 1598, 75, 134, 1599),
  (230, 1, 4, mX12_joins, 1612, 1613, 0, 134, 1614),
  (246, 0, 2, mX12_islandBehind, 1626, 1628, 80, 134, 1629),
  (262, 0, 3, mX12_ofBox, 1675, 1677, 86, 134, 1678),
  (265, 0, 2, mX12_songLong, 1687, 1689, 88, 134, 1690),
  (268, 0, 2, mX12_isWhale, 1659, 1661, 83, 134, 1662),
  (271, 0, 3, mX12_ofWhale, 1663, 1665, 84, 134, 1666),
  (274, 0, 2, mX12_isBox, 1671, 1673, 85, 134, 1674),
  (277, 0, 2, mX12_isIsland, 1683, 1685, 87, 134, 1686),
  (280, 0, 4, mX12_noteIn, 1695, 1697, 89, 134, 1698),
  (284, 0, 2, mX12_boxLong, 1703, 1705, 90, 134, 1706),
  (287, 0, 6, mX12_unlike, 1719, 1721, 93, 134, 1722),
  (291, 0, 5, mX12_hearsIn, 1715, 1717, 92, 134, 1718),
  (295, 0, 2, mX12_heardNow, 1711, 1713, 91, 134, 1714),
  (298, 1, 2, mX12_hasBit, 1735, 1736, 0, 134, 1737),
  (302, 0, 2, mX12_isClosed, 1731, 1733, 95, 134, 1734),
  (305, 0, 3, mX12_wayOf, 1727, 1729, 94, 134, 1730),
  (308, 0, 3, mX12_nearOf, 1742, 1744, 96, 134, 1745),
  (312, 0, 3, mX12_apartOf, 1758, 1760, 97, 134, 1761),
  (318, 0, 2, mX12_power, 1782, 1784, 100, 134, 1785),
  (321, 0, 4, mX12_digitsApart, 1786, 1788, 101, 134, 1789),
  (324, 0, 3, mX12_songWhy, 1774, 1776, 98, 134, 1777),
  (327, 0, 4, mX12_newSongs, 1778, 1780, 99, 134, 1781),
  (331, 0, 3, mX12_hearsItself, 1802, 1804, 102, 134, 1805),
  (334, 0, 4, mX12_setsOut, 1818, 1820, 103, 134, 1821),
  (337, 1, 1, mX12_seasonOf, 1811, 1812, 0, 134, 1813),
  (342, 0, 4, mX12_goesBy, 1835, 1837, 106, 134, 1838),
  (346, 0, 4, mX12_dayBy, 1839, 1841, 107, 134, 1842),
  (349, 0, 4, mX12_layDays, 1830, 1832, 105, 134, 1833),
  (352, 0, 5, mX12_arrivalOf, 1826, 1828, 104, 134, 1829),
  (355, 1, 2, mX12_later, 1855, 1856, 0, 134, 1857),
  (364, 0, 3, mX12_lays, 1851, 1853, 109, 134, 1854),
  (367, 0, 3, mX12_bringsOf, 1847, 1849, 108, 134, 1850),
  (370, 0, 3, mX12_surestBut, 1866, 1868, 110, 134, 1869),
  (375, 1, 3, mX12_lowest, 1879, 1880, 0, 134, 1881),
  (385, 0, 5, mX12_tryMatch, 1890, 1892, 112, 134, 1893),
  (389, 0, 1, mX12_seekMatch, 1886, 1888, 111, 134, 1889),
  (398, 0, 2, mX12_fitsAll, 1910, 1912, 113, 134, 1913),
  (401, 0, 3, mX12_reachOf, 1918, 1920, 114, 134, 1921),
  (404, 1, 1, mX12_ones, 1930, 1931, 0, 134, 1932),
  (407, 0, 4, mX12_doLead, 1933, 1935, 115, 134, 1936),
  (413, 0, 4, mX12_tryRound, 1949, 1951, 118, 134, 1952),
  (416, 0, 1, mX12_layFar, 1945, 1947, 117, 134, 1948),
  (419, 0, 2, mX12_seekRound, 1941, 1943, 116, 134, 1944),
  (424, 0, 1, mX12_note1, 1967, 1969, 119, 134, 1970),
  (427, 0, 2, mX12_isNot, 1975, 1977, 120, 134, 1978)]
def zmthT13 : List (Nat × Nat × Nat × zM × Nat × Nat × Nat × Nat × Nat) := [(15, 2, 1, mX11_init, 149, 150, 0, 122, 151),
  (18, 2, 1, mX12_init, 1373, 1374, 0, 134, 1375),
  (19, 0, 6, mX11_feed, 615, 616, 617, 122, 618),
  (23, 0, 6, mX12_feed, 1499, 1500, 1501, 134, 1502),
  (24, 0, 2, mX11_post, 623, 624, 625, 122, 626),
  (27, 0, 2, mX12_post, 1503, 1504, 1505, 134, 1506),
  (28, 0, 1, mX11_fault, 817, 818, 819, 122, 820),
  (32, 0, 1, mX12_fault, 1647, 1648, 1649, 134, 1650),
  (33, 0, 1, mX11_where, 821, 822, 823, 122, 824),
  (36, 0, 1, mX12_where, 1651, 1652, 1653, 134, 1654),
  (37, 0, 3, mX11_whale, 825, 826, 827, 122, 828),
  (41, 0, 3, mX12_whale, 1655, 1656, 1657, 134, 1658),
  (42, 0, 3, mX11_box, 833, 834, 835, 122, 836),
  (45, 0, 3, mX12_box, 1667, 1668, 1669, 134, 1670),
  (46, 0, 2, mX11_length, 841, 842, 843, 122, 844),
  (49, 0, 2, mX12_length, 1679, 1680, 1681, 134, 1682),
  (50, 0, 3, mX11_note, 849, 850, 851, 122, 852),
  (53, 0, 3, mX12_note, 1691, 1692, 1693, 134, 1694),
  (54, 0, 3, mX11_sung, 869, 870, 871, 122, 872),
  (57, 0, 3, mX12_sung, 1699, 1700, 1701, 134, 1702),
  (58, 0, 2, mX11_heard, 881, 882, 883, 122, 884),
  (61, 0, 2, mX12_heard, 1707, 1708, 1709, 134, 1710),
  (62, 0, 3, mX11_way, 902, 903, 904, 122, 905),
  (65, 0, 3, mX12_way, 1723, 1724, 1725, 134, 1726),
  (66, 0, 2, mX11_season, 915, 916, 917, 122, 918),
  (69, 0, 2, mX12_season, 1806, 1807, 1808, 134, 1809),
  (70, 0, 4, mX11_sets, 927, 928, 929, 122, 930),
  (74, 0, 4, mX12_sets, 1814, 1815, 1816, 134, 1817),
  (75, 0, 2, mX11_sent, 939, 940, 941, 122, 942),
  (78, 0, 2, mX12_sent, 1750, 1751, 1752, 134, 1753),
  (79, 0, 3, mX11_apart, 951, 952, 953, 122, 954),
  (82, 0, 3, mX12_apart, 1754, 1755, 1756, 134, 1757),
  (83, 0, 1, mX11_bear, 959, 960, 961, 122, 962),
  (86, 0, 1, mX12_bear, 1762, 1763, 1764, 134, 1765),
  (87, 0, 1, mX11_mixed, 968, 969, 970, 122, 971),
  (90, 0, 1, mX12_mixed, 1766, 1767, 1768, 134, 1769),
  (91, 0, 3, mX11_fresh, 976, 977, 978, 122, 979),
  (94, 0, 3, mX12_fresh, 1770, 1771, 1772, 134, 1773),
  (95, 0, 3, mX11_byTurns, 1001, 1002, 1003, 122, 1004),
  (98, 0, 3, mX12_byTurns, 1790, 1791, 1792, 134, 1793),
  (99, 0, 2, mX11_near, 1005, 1006, 1007, 122, 1008),
  (102, 0, 2, mX12_near, 1738, 1739, 1740, 134, 1741),
  (103, 0, 2, mX11_asNear, 1009, 1010, 1011, 122, 1012),
  (106, 0, 2, mX12_asNear, 1746, 1747, 1748, 134, 1749),
  (107, 0, 3, mX11_heardIn, 1013, 1014, 1015, 122, 1016),
  (110, 0, 3, mX12_heardIn, 1794, 1795, 1796, 134, 1797),
  (111, 0, 2, mX11_strange, 1017, 1018, 1019, 122, 1020),
  (114, 0, 2, mX12_strange, 1798, 1799, 1800, 134, 1801),
  (115, 0, 5, mX11_arrival, 1021, 1022, 1023, 122, 1024),
  (119, 0, 5, mX12_arrival, 1822, 1823, 1824, 134, 1825),
  (120, 0, 3, mX11_brings, 1043, 1044, 1045, 122, 1046),
  (123, 0, 3, mX12_brings, 1843, 1844, 1845, 134, 1846),
  (124, 0, 2, mX11_soonest, 1060, 1061, 1062, 122, 1063),
  (127, 0, 2, mX12_soonest, 1858, 1859, 1860, 134, 1861),
  (128, 0, 2, mX11_surest, 1069, 1070, 1071, 122, 1072),
  (131, 0, 2, mX12_surest, 1862, 1863, 1864, 134, 1865),
  (132, 0, 3, mX11_by, 1077, 1078, 1079, 122, 1080),
  (135, 0, 3, mX12_by, 1870, 1871, 1872, 134, 1873),
  (136, 0, 3, mX11_registered, 1085, 1086, 1087, 122, 1088),
  (140, 0, 3, mX12_registered, 1874, 1875, 1876, 134, 1877),
  (141, 0, 1, mX11_match, 1093, 1094, 1095, 122, 1096),
  (144, 0, 1, mX12_match, 1882, 1883, 1884, 134, 1885),
  (145, 0, 1, mX11_matchDays, 1120, 1121, 1122, 122, 1123),
  (148, 0, 1, mX12_matchDays, 1894, 1895, 1896, 134, 1897),
  (149, 0, 2, mX11_matchOf, 1124, 1125, 1126, 122, 1127),
  (152, 0, 2, mX12_matchOf, 1898, 1899, 1900, 134, 1901),
  (153, 0, 5, mX11_meet, 1128, 1129, 1130, 122, 1131),
  (156, 0, 5, mX12_meet, 1902, 1903, 1904, 134, 1905),
  (157, 0, 1, mX11_fits, 1137, 1138, 1139, 122, 1140),
  (160, 0, 1, mX12_fits, 1906, 1907, 1908, 134, 1909),
  (161, 0, 3, mX11_reach, 1149, 1150, 1151, 122, 1152),
  (164, 0, 3, mX12_reach, 1914, 1915, 1916, 134, 1917),
  (165, 0, 2, mX11_pier, 1158, 1159, 1160, 122, 1161),
  (168, 0, 2, mX12_pier, 1922, 1923, 1924, 134, 1925),
  (169, 0, 3, mX11_watch, 1176, 1177, 1178, 122, 1179),
  (172, 0, 3, mX12_watch, 1926, 1927, 1928, 134, 1929),
  (173, 0, 2, mX11_round, 1189, 1190, 1191, 122, 1192),
  (176, 0, 2, mX12_round, 1937, 1938, 1939, 134, 1940),
  (177, 0, 3, mX11_roundAt, 1216, 1217, 1218, 122, 1219),
  (180, 0, 3, mX12_roundAt, 1953, 1954, 1955, 134, 1956),
  (181, 0, 3, mX11_decade, 1220, 1221, 1222, 122, 1223),
  (184, 0, 3, mX12_decade, 1957, 1958, 1959, 134, 1960),
  (185, 0, 3, mX11_send, 1241, 1242, 1243, 122, 1244),
  (188, 0, 3, mX12_send, 1963, 1964, 1965, 134, 1966),
  (189, 0, 4, mX11_tune, 1257, 1258, 1259, 122, 1260),
  (193, 0, 4, mX12_tune, 1971, 1972, 1973, 134, 1974),
  (194, 0, 2, mX11_years, 1270, 1271, 1272, 122, 1273),
  (197, 0, 2, mX12_years, 1979, 1980, 1981, 134, 1982),
  (198, 0, 3, mX11_close, 1274, 1275, 1276, 122, 1277),
  (202, 0, 3, mX12_close, 1983, 1984, 1985, 134, 1986),
  (203, 0, 1, mX11_undo, 1278, 1279, 1280, 122, 1281),
  (207, 0, 1, mX12_undo, 1987, 1988, 1989, 134, 1990),
  (208, 0, 1, mX11_image, 1282, 1283, 1284, 122, 1285),
  (211, 0, 1, mX12_image, 1991, 1992, 1993, 134, 1994),
  (212, 0, 2, mX11_back, 1286, 1287, 1288, 122, 1289),
  (216, 0, 2, mX12_back, 1995, 1996, 1997, 134, 1998),
  (217, 16, 0, zledM, 1298, 0, 0, 0, 0),
  (222, 0, 2, mX12_led, 1999, 2000, 2001, 134, 2002),
  (223, 0, 1, mX12_thrown, 1495, 1496, 1497, 134, 1498),
  (226, 0, 2, mX11_size, 1290, 1291, 1292, 122, 1293),
  (229, 0, 2, mX12_size, 2003, 2004, 2005, 134, 2006),
  (230, 0, 1, mX11_trouble, 1294, 1295, 1296, 122, 1297),
  (233, 0, 1, mX12_trouble, 2007, 2008, 2009, 134, 2010)]
def zmthT14 : List (Nat × Nat × Nat × zM × Nat × Nat × Nat × Nat × Nat) := [(335, 0, 1, mJ0_coder_7d493, 667, 668, 669, 136, 670),
  (492, 0, 1, mJ0_isLatin1_aae02, 677, 678, 679, 136, 680),
  (495, 1, 2, mJ1_charAt_3b067, 681, 682, 0, 137, 683),
  (1059, 1, 3, mJ3_checkIndex_8e157, 689, 690, 0, 138, 691)]
def zmthT15 : List (Nat × Nat × Nat × zM × Nat × Nat × Nat × Nat × Nat) := [(9, 1, 2, mJ0_checkIndex_df160, 684, 685, 0, 136, 686)]
def zmthT16 : List (Nat × Nat × Nat × zM × Nat × Nat × Nat × Nat × Nat) := []
def zmthT17 : List (Nat × Nat × Nat × zM × Nat × Nat × Nat × Nat × Nat) := []
def zmthT18 : List (Nat × Nat × Nat × zM × Nat × Nat × Nat × Nat × Nat) := []
def zmthTT : List (List (Nat × Nat × Nat × zM × Nat × Nat × Nat × Nat × Nat)) := [zmthT0, zmthT1, zmthT2, zmthT3, zmthT4, zmthT5, zmthT6, zmthT7, zmthT8, zmthT9, zmthT10, zmthT11, zmthT12, zmthT13, zmthT14, zmthT15, zmthT16, zmthT17, zmthT18]
def zmth (o k : Nat) : Option (Nat × Nat × zM) := (zlook (zmthTT.getD o []) k).map (fun q => (q.1, q.2.1, q.2.2.1))
/-- all methods, with the place of their code word -/
def zall : List (zM × Nat) := [(mX0_init, 229), (mX1_init, 543), (mX1_solve, 1104), (mX1_worth, 1109), (mX1_choose, 1115), (mX1_firstBest, 1119), (mX2_init, 423), (mX2_begin, 812), (mX2_copyFrom, 1252), (mX2_isClosed, 914), (mX2_isSent, 946), (mX3_init, 522), (mX3_fewestToWatch, 1183), (mX3_waysOutOf, 1187), (mX3_findRound, 1196), (mX3_findShortest, 1200), (mX3_findRests, 1207), (mX3_daysOver, 1211), (mX3_nextOf, 1215), (mX4_init, 159), (mX4_clear, 638), (mX4_boxLength, 880), (mX4_wayBetween, 771), (mX4_hasSong, 759), (mX4_lastSpoutOf, 804), (mX5_init, 374), (mX5_readPost, 634), (mX5_faulty, 719), (mX5_readLine, 645), (mX5_readHead, 723), (mX5_readIsland, 739), (mX5_readWay, 763), (mX5_readWhale, 777), (mX5_readBox, 792), (mX5_readSpout, 800), (mX5_word, 728), (mX5_whole, 732), (mX5_newName, 743), (mX5_toldName, 767), (mX5_nameOfToken, 747), (mX5_letters, 751), (mX5_songOfToken, 755), (mX5_kindOfToken, 781), (mX5_sortOfLine, 657), (mX5_isToken, 662), (mX5_nextToken, 649), (mX5_passAll, 653), (mX6_init, 492), (mX6_dayOfLeaving, 938), (mX6_findFirstDays, 1032), (mX6_goes, 1041), (mX6_firstDayAt, 1028), (mX6_dayOfBringing, 1050), (mX6_soonestBringer, 1067), (mX6_surestBringer, 1076), (mX6_bringersBy, 1084), (mX6_dayOfMeeting, 1135), (mX6_fittingWhales, 1144), (mX6_isFitting, 1148), (mX6_islandsReached, 1156), (mX6_bestPier, 1165), (mX6_whalesReaching, 1171), (mX7_init, 462), (mX7_fallIn, 860), (mX7_raised, 864), (mX7_songIn, 856), (mX7_hearerOf, 892), (mX7_apartness, 958), (mX7_bearable, 966), (mX7_mixedPairs, 975), (mX7_findNew, 987), (mX7_keepSongsOf, 991), (mX7_isOfNotes, 996), (mX7_isFarFromKept, 1000), (mX7_draw, 1236), (mX7_slipped, 1232), (mX8_init, 256), (mX9_init, 172), (mX10_init, 203), (mX11_init, 151), (mX11_feed, 618), (mX11_post, 626), (mX11_fault, 820), (mX11_where, 824), (mX11_whale, 828), (mX11_box, 836), (mX11_length, 844), (mX11_note, 852), (mX11_sung, 872), (mX11_heard, 884), (mX11_way, 905), (mX11_season, 918), (mX11_sets, 930), (mX11_sent, 942), (mX11_apart, 954), (mX11_bear, 962), (mX11_mixed, 971), (mX11_fresh, 979), (mX11_byTurns, 1004), (mX11_near, 1008), (mX11_asNear, 1012), (mX11_heardIn, 1016), (mX11_strange, 1020), (mX11_arrival, 1024), (mX11_brings, 1046), (mX11_soonest, 1063), (mX11_surest, 1072), (mX11_by, 1080), (mX11_registered, 1088), (mX11_match, 1096), (mX11_matchDays, 1123), (mX11_matchOf, 1127), (mX11_meet, 1131), (mX11_fits, 1140), (mX11_reach, 1152), (mX11_pier, 1161), (mX11_watch, 1179), (mX11_round, 1192), (mX11_roundAt, 1219), (mX11_decade, 1223), (mX11_send, 1244), (mX11_tune, 1260), (mX11_years, 1273), (mX11_close, 1277), (mX11_undo, 1281), (mX11_image, 1285), (mX11_back, 1289), (mX11_led, 1305), (mX11_size, 1293), (mX11_trouble, 1297), (mX11_granted, 816), (mX11_refused, 630), (mX11_hasGranted, 1269), (mX11_hasRefused, 1264), (mX11_hasPost, 922), (mX11_isIsland, 848), (mX11_areTwoIslands, 909), (mX11_isWay, 934), (mX11_isWhale, 832), (mX11_isBox, 840), (mX11_isNoteOfBox, 876), (mX11_isWithin, 926), (mX11_refusalOfNewSong, 983), (mX11_appendBytes, 622), (mX11_takeDraft, 808), (mX11_keepForUndo, 1248), (mX11_hearerIn, 888), (mX11_sentPart, 950), (mX11_heardWithSlips, 1228), (mX11_solveMatch, 1100), (mX11_commonDivisor, 1091), (mX11_noteAt, 867), (mX11_withNote, 1240), (mX11_unlikeNotes, 895), (mX12_init, 1375), (mX12_thrown, 1498), (mX12_good, 1510), (mX12_no, 1517), (mX12_isNot, 1978), (mX12_in, 1513), (mX12_hasBit, 1737), (mX12_ones, 1932), (mX12_copy, 1646), (mX12_later, 1857), (mX12_feed, 1502), (mX12_look, 1525), (mX12_isSmall, 1528), (mX12_isDigit, 1531), (mX12_next, 1521), (mX12_wrong, 1550), (mX12_isWord, 1540), (mX12_takesWord, 1563), (mX12_must, 1559), (mX12_mustName, 1587), (mX12_find, 1595), (mX12_newName, 1583), (mX12_named, 1611), (mX12_islandPassed, 1607), (mX12_islandBehind, 1629), (mX12_number, 1567), (mX12_after, 1555), (mX12_post, 1506), (mX12_begins, 1575), (mX12_readLine, 1535), (mX12_postLine, 1546), (mX12_islandLine, 1579), (mX12_isSong, 1599), (mX12_wayLine, 1603), (mX12_joins, 1614), (mX12_whaleLine, 1620), (mX12_boxLine, 1635), (mX12_spoutLine, 1643), (mX12_fault, 1650), (mX12_where, 1654), (mX12_isIsland, 1686), (mX12_isWhale, 1662), (mX12_isBox, 1674), (mX12_ofWhale, 1666), (mX12_ofBox, 1678), (mX12_songLong, 1690), (mX12_boxLong, 1706), (mX12_noteIn, 1698), (mX12_whale, 1658), (mX12_box, 1670), (mX12_length, 1682), (mX12_note, 1694), (mX12_sung, 1702), (mX12_unlike, 1722), (mX12_hearsIn, 1718), (mX12_heardNow, 1714), (mX12_heard, 1710), (mX12_isClosed, 1734), (mX12_wayOf, 1730), (mX12_way, 1726), (mX12_nearOf, 1745), (mX12_near, 1741), (mX12_asNear, 1749), (mX12_sent, 1753), (mX12_apartOf, 1761), (mX12_apart, 1757), (mX12_bear, 1765), (mX12_mixed, 1769), (mX12_power, 1785), (mX12_digitsApart, 1789), (mX12_newSongs, 1781), (mX12_songWhy, 1777), (mX12_fresh, 1773), (mX12_byTurns, 1793), (mX12_heardIn, 1797), (mX12_hearsItself, 1805), (mX12_strange, 1801), (mX12_dayBy, 1842), (mX12_setsOut, 1821), (mX12_seasonOf, 1813), (mX12_season, 1809), (mX12_sets, 1817), (mX12_layDays, 1833), (mX12_goesBy, 1838), (mX12_arrivalOf, 1829), (mX12_arrival, 1825), (mX12_lays, 1854), (mX12_bringsOf, 1850), (mX12_brings, 1846), (mX12_soonest, 1861), (mX12_surestBut, 1869), (mX12_surest, 1865), (mX12_by, 1873), (mX12_lowest, 1881), (mX12_registered, 1877), (mX12_tryMatch, 1893), (mX12_seekMatch, 1889), (mX12_match, 1885), (mX12_matchDays, 1897), (mX12_matchOf, 1901), (mX12_meet, 1905), (mX12_fitsAll, 1913), (mX12_fits, 1909), (mX12_reachOf, 1921), (mX12_reach, 1917), (mX12_pier, 1925), (mX12_doLead, 1936), (mX12_watch, 1929), (mX12_layFar, 1948), (mX12_tryRound, 1952), (mX12_seekRound, 1944), (mX12_round, 1940), (mX12_roundAt, 1956), (mX12_decade, 1960), (mX12_note1, 1970), (mX12_send, 1966), (mX12_tune, 1974), (mX12_years, 1982), (mX12_close, 1986), (mX12_undo, 1990), (mX12_image, 1994), (mX12_back, 1998), (mX12_led, 2002), (mX12_size, 2006), (mX12_trouble, 2010), (mJ0_length_8abf5, 666), (mJ0_charAt_5068e, 676), (mJ0_coder_7d493, 670), (mJ0_isLatin1_aae02, 680), (mJ0_checkIndex_df160, 686), (mJ1_charAt_3b067, 683), (mJ3_checkIndex_8e157, 691), (mJ7_fill_53178, 1036), (mJ6_bitCount_0f7a4, 898)]
/-- the nest mates' links: class, pool number, method, host, place -/
def znm : List (Nat × Nat × zM × String × Nat) := [(4, 42, mX9_init, "WhalePost", 170), (4, 43, mX10_init, "WhalePost", 201), (4, 44, mX0_init, "WhalePost", 227), (4, 45, mX8_init, "WhalePost", 254), (11, 41, mX2_init, "WhalePost", 421), (11, 73, mX1_init, "WhalePost", 541), (7, 40, mX11_noteAt, "WhalePost", 865), (7, 60, mX11_unlikeNotes, "WhalePost", 893), (7, 92, mX11_withNote, "WhalePost", 1238)]
/-- the texts: class, pool number, text, special number, place -/
def zsr : List (Nat × Nat × String × Nat × Nat) := [(5, 263, "post", 1000010, 658), (5, 264, "island", 1000011, 711), (5, 265, "way", 1000012, 712), (5, 266, "whale", 1000013, 713), (5, 267, "box", 1000014, 714), (5, 268, "spout", 1000015, 715), (5, 137, "notes", 1000016, 724), (5, 146, "errors", 1000017, 733), (5, 150, "drift", 1000018, 734), (5, 154, "slip", 1000019, 735), (5, 187, "days", 1000020, 772), (5, 191, "open", 1000021, 773), (5, 255, "calf", 1000022, 782), (5, 257, "cow", 1000023, 783), (5, 259, "bull", 1000024, 784), (5, 261, "old", 1000025, 785), (5, 203, "at", 1000026, 786), (5, 207, "keeps", 1000027, 787), (5, 211, "lost", 1000028, 788), (5, 215, "from", 1000029, 793), (5, 221, "to", 1000030, 794), (5, 225, "weighs", 1000031, 795), (5, 229, "day", 1000032, 796), (11, 365, "no such box is left", 1000033, 1345), (12, 131, "post", 1000010, 1536), (12, 211, "notes", 1000016, 1551), (12, 217, "errors", 1000017, 1568), (12, 219, "drift", 1000018, 1569), (12, 221, "slip", 1000019, 1570), (12, 133, "island", 1000011, 1571), (12, 135, "way", 1000012, 1588), (12, 137, "whale", 1000013, 1589), (12, 139, "box", 1000014, 1590), (12, 141, "spout", 1000015, 1591), (12, 234, "days", 1000020, 1615), (12, 235, "open", 1000021, 1616), (12, 237, "calf", 1000022, 1621), (12, 239, "cow", 1000023, 1622), (12, 241, "bull", 1000024, 1623), (12, 243, "old", 1000025, 1624), (12, 245, "at", 1000026, 1625), (12, 250, "keeps", 1000027, 1630), (12, 252, "lost", 1000028, 1631), (12, 254, "from", 1000029, 1636), (12, 256, "to", 1000030, 1637), (12, 258, "weighs", 1000031, 1638), (12, 260, "day", 1000032, 1639)]
