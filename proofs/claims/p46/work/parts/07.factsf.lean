def zcstC (o : Nat) (q : Nat × zV × Nat) : Bool := match q.2.1 with
  | .inl x => decide (zpc q.2.2 = some (Cond.constant (zRn o) q.1 x)) && goodWord (Cond.constant (zRn o) q.1 x)
  | .inr (.inl x) => decide (zpc q.2.2 = some (Cond.constantLong (zRn o) q.1 x)) && goodWord (Cond.constantLong (zRn o) q.1 x)
  | .inr (.inr (some a)) => zsr.any (fun r => decide (r.1 = o) && decide (r.2.1 = q.1) && decide (r.2.2.2.1 = a)) && decide (1000000 ≤ a)
  | _ => false
set_option maxRecDepth 20000 in
theorem zcstK : (List.range 19).all (fun o => (zcstTT.getD o []).all (zcstC o)) = true := by decide +kernel
def zclsC (o : Nat) (q : Nat × Nat × Nat) : Bool := if q.2.1 < 13 then decide (zpc q.2.2 = some (Cond.classLink (zRn o) q.1 (zRn q.2.1))) && goodWord (Cond.classLink (zRn o) q.1 (zRn q.2.1)) else decide (q.2.1 = 99)
set_option maxRecDepth 20000 in
theorem zclsK : (List.range 19).all (fun o => (zclsTT.getD o []).all (zclsC o)) = true := by decide +kernel
def zinsP : List (Nat × Nat) := [(1105, 1005), (2179, 1012), (2059, 1008), (2158, 1011), (1035, 1002), (2010, 1007), (2128, 1010), (2098, 1009), (1132, 1006), (1048, 1003), (1079, 1004), (1027, 1001), (6051, 1013)]
set_option maxRecDepth 20000 in
theorem zinsK : (List.range 13).all (fun ci => decide (zpc (zinsP.getD ci (0, 0)).1 = some (Cond.instantiable (zRn ci) (zft ci).length)) && goodWord (Cond.instantiable (zRn ci) (zft ci).length) && decide (zpc (zinsP.getD ci (0, 0)).2 = some (Cond.initialized (zRn ci))) && goodWord (Cond.initialized (zRn ci))) = true := by decide +kernel
set_option maxRecDepth 20000 in
theorem zarrK : Cond.arrayClass .byte ∈ zws ∧ Cond.arrayClass .int ∈ zws ∧ Cond.arrayClass .long ∈ zws := ⟨zws_in (i := 1077) (by decide +kernel) rfl, zws_in (i := 1078) (by decide +kernel) rfl, zws_in (i := 2057) (by decide +kernel) rfl⟩
def zMok (q : zM) : Prop := Cond.code q.2.2.2.2.1 q.1 q.2.2.1 q.2.2.2.1 ∈ zws ∧ zRn q.2.1 = q.2.2.2.2.1.cls ∧ plainName q.2.2.2.2.1.cls = true ∧ (q.2.2.2.2.1.cls ≠ "java/lang/invoke/MethodHandle" ∧ q.2.2.2.2.1.cls ≠ "java/lang/invoke/VarHandle") ∧ q.2.2.1 ≤ 30 ∧ (q.2.2.2.2.2 = true → q.2.2.2.2.1.name = "<init>") ∧ q.2.2.2.2.1 ≠ yX11_led
theorem zoX0_init : zMok mX0_init := ⟨zws_in (i := 1108) rfl rfl, by decide +kernel, by decide +kernel, by decide +kernel, by decide +kernel, by decide +kernel, by decide +kernel⟩
theorem zoX1_init : zMok mX1_init := ⟨zws_in (i := 2182) rfl rfl, by decide +kernel, by decide +kernel, by decide +kernel, by decide +kernel, by decide +kernel, by decide +kernel⟩
theorem zoX1_solve : zMok mX1_solve := ⟨zws_in (i := 5023) rfl rfl, by decide +kernel, by decide +kernel, by decide +kernel, by decide +kernel, by decide +kernel, by decide +kernel⟩
theorem zoX1_worth : zMok mX1_worth := ⟨zws_in (i := 5028) rfl rfl, by decide +kernel, by decide +kernel, by decide +kernel, by decide +kernel, by decide +kernel, by decide +kernel⟩
theorem zoX1_choose : zMok mX1_choose := ⟨zws_in (i := 5034) rfl rfl, by decide +kernel, by decide +kernel, by decide +kernel, by decide +kernel, by decide +kernel, by decide +kernel⟩
theorem zoX1_firstBest : zMok mX1_firstBest := ⟨zws_in (i := 5038) rfl rfl, by decide +kernel, by decide +kernel, by decide +kernel, by decide +kernel, by decide +kernel, by decide +kernel⟩
theorem zoX2_init : zMok mX2_init := ⟨zws_in (i := 2062) rfl rfl, by decide +kernel, by decide +kernel, by decide +kernel, by decide +kernel, by decide +kernel, by decide +kernel⟩
theorem zoX2_begin : zMok mX2_begin := ⟨zws_in (i := 3211) rfl rfl, by decide +kernel, by decide +kernel, by decide +kernel, by decide +kernel, by decide +kernel, by decide +kernel⟩
theorem zoX2_copyFrom : zMok mX2_copyFrom := ⟨zws_in (i := 5171) rfl rfl, by decide +kernel, by decide +kernel, by decide +kernel, by decide +kernel, by decide +kernel, by decide +kernel⟩
theorem zoX2_isClosed : zMok mX2_isClosed := ⟨zws_in (i := 4073) rfl rfl, by decide +kernel, by decide +kernel, by decide +kernel, by decide +kernel, by decide +kernel, by decide +kernel⟩
theorem zoX2_isSent : zMok mX2_isSent := ⟨zws_in (i := 4105) rfl rfl, by decide +kernel, by decide +kernel, by decide +kernel, by decide +kernel, by decide +kernel, by decide +kernel⟩
theorem zoX3_init : zMok mX3_init := ⟨zws_in (i := 2161) rfl rfl, by decide +kernel, by decide +kernel, by decide +kernel, by decide +kernel, by decide +kernel, by decide +kernel⟩
theorem zoX3_fewestToWatch : zMok mX3_fewestToWatch := ⟨zws_in (i := 5102) rfl rfl, by decide +kernel, by decide +kernel, by decide +kernel, by decide +kernel, by decide +kernel, by decide +kernel⟩
theorem zoX3_waysOutOf : zMok mX3_waysOutOf := ⟨zws_in (i := 5106) rfl rfl, by decide +kernel, by decide +kernel, by decide +kernel, by decide +kernel, by decide +kernel, by decide +kernel⟩
theorem zoX3_findRound : zMok mX3_findRound := ⟨zws_in (i := 5115) rfl rfl, by decide +kernel, by decide +kernel, by decide +kernel, by decide +kernel, by decide +kernel, by decide +kernel⟩
theorem zoX3_findShortest : zMok mX3_findShortest := ⟨zws_in (i := 5119) rfl rfl, by decide +kernel, by decide +kernel, by decide +kernel, by decide +kernel, by decide +kernel, by decide +kernel⟩
theorem zoX3_findRests : zMok mX3_findRests := ⟨zws_in (i := 5126) rfl rfl, by decide +kernel, by decide +kernel, by decide +kernel, by decide +kernel, by decide +kernel, by decide +kernel⟩
theorem zoX3_daysOver : zMok mX3_daysOver := ⟨zws_in (i := 5130) rfl rfl, by decide +kernel, by decide +kernel, by decide +kernel, by decide +kernel, by decide +kernel, by decide +kernel⟩
theorem zoX3_nextOf : zMok mX3_nextOf := ⟨zws_in (i := 5134) rfl rfl, by decide +kernel, by decide +kernel, by decide +kernel, by decide +kernel, by decide +kernel, by decide +kernel⟩
theorem zoX4_init : zMok mX4_init := ⟨zws_in (i := 1038) rfl rfl, by decide +kernel, by decide +kernel, by decide +kernel, by decide +kernel, by decide +kernel, by decide +kernel⟩
theorem zoX4_clear : zMok mX4_clear := ⟨zws_in (i := 3037) rfl rfl, by decide +kernel, by decide +kernel, by decide +kernel, by decide +kernel, by decide +kernel, by decide +kernel⟩
theorem zoX4_boxLength : zMok mX4_boxLength := ⟨zws_in (i := 4039) rfl rfl, by decide +kernel, by decide +kernel, by decide +kernel, by decide +kernel, by decide +kernel, by decide +kernel⟩
theorem zoX4_wayBetween : zMok mX4_wayBetween := ⟨zws_in (i := 3170) rfl rfl, by decide +kernel, by decide +kernel, by decide +kernel, by decide +kernel, by decide +kernel, by decide +kernel⟩
theorem zoX4_hasSong : zMok mX4_hasSong := ⟨zws_in (i := 3158) rfl rfl, by decide +kernel, by decide +kernel, by decide +kernel, by decide +kernel, by decide +kernel, by decide +kernel⟩
theorem zoX4_lastSpoutOf : zMok mX4_lastSpoutOf := ⟨zws_in (i := 3203) rfl rfl, by decide +kernel, by decide +kernel, by decide +kernel, by decide +kernel, by decide +kernel, by decide +kernel⟩
theorem zoX5_init : zMok mX5_init := ⟨zws_in (i := 2013) rfl rfl, by decide +kernel, by decide +kernel, by decide +kernel, by decide +kernel, by decide +kernel, by decide +kernel⟩
theorem zoX5_readPost : zMok mX5_readPost := ⟨zws_in (i := 3033) rfl rfl, by decide +kernel, by decide +kernel, by decide +kernel, by decide +kernel, by decide +kernel, by decide +kernel⟩
theorem zoX5_faulty : zMok mX5_faulty := ⟨zws_in (i := 3118) rfl rfl, by decide +kernel, by decide +kernel, by decide +kernel, by decide +kernel, by decide +kernel, by decide +kernel⟩
theorem zoX5_readLine : zMok mX5_readLine := ⟨zws_in (i := 3044) rfl rfl, by decide +kernel, by decide +kernel, by decide +kernel, by decide +kernel, by decide +kernel, by decide +kernel⟩
theorem zoX5_readHead : zMok mX5_readHead := ⟨zws_in (i := 3122) rfl rfl, by decide +kernel, by decide +kernel, by decide +kernel, by decide +kernel, by decide +kernel, by decide +kernel⟩
theorem zoX5_readIsland : zMok mX5_readIsland := ⟨zws_in (i := 3138) rfl rfl, by decide +kernel, by decide +kernel, by decide +kernel, by decide +kernel, by decide +kernel, by decide +kernel⟩
theorem zoX5_readWay : zMok mX5_readWay := ⟨zws_in (i := 3162) rfl rfl, by decide +kernel, by decide +kernel, by decide +kernel, by decide +kernel, by decide +kernel, by decide +kernel⟩
theorem zoX5_readWhale : zMok mX5_readWhale := ⟨zws_in (i := 3176) rfl rfl, by decide +kernel, by decide +kernel, by decide +kernel, by decide +kernel, by decide +kernel, by decide +kernel⟩
theorem zoX5_readBox : zMok mX5_readBox := ⟨zws_in (i := 3191) rfl rfl, by decide +kernel, by decide +kernel, by decide +kernel, by decide +kernel, by decide +kernel, by decide +kernel⟩
theorem zoX5_readSpout : zMok mX5_readSpout := ⟨zws_in (i := 3199) rfl rfl, by decide +kernel, by decide +kernel, by decide +kernel, by decide +kernel, by decide +kernel, by decide +kernel⟩
theorem zoX5_word : zMok mX5_word := ⟨zws_in (i := 3127) rfl rfl, by decide +kernel, by decide +kernel, by decide +kernel, by decide +kernel, by decide +kernel, by decide +kernel⟩
theorem zoX5_whole : zMok mX5_whole := ⟨zws_in (i := 3131) rfl rfl, by decide +kernel, by decide +kernel, by decide +kernel, by decide +kernel, by decide +kernel, by decide +kernel⟩
theorem zoX5_newName : zMok mX5_newName := ⟨zws_in (i := 3142) rfl rfl, by decide +kernel, by decide +kernel, by decide +kernel, by decide +kernel, by decide +kernel, by decide +kernel⟩
theorem zoX5_toldName : zMok mX5_toldName := ⟨zws_in (i := 3166) rfl rfl, by decide +kernel, by decide +kernel, by decide +kernel, by decide +kernel, by decide +kernel, by decide +kernel⟩
theorem zoX5_nameOfToken : zMok mX5_nameOfToken := ⟨zws_in (i := 3146) rfl rfl, by decide +kernel, by decide +kernel, by decide +kernel, by decide +kernel, by decide +kernel, by decide +kernel⟩
theorem zoX5_letters : zMok mX5_letters := ⟨zws_in (i := 3150) rfl rfl, by decide +kernel, by decide +kernel, by decide +kernel, by decide +kernel, by decide +kernel, by decide +kernel⟩
theorem zoX5_songOfToken : zMok mX5_songOfToken := ⟨zws_in (i := 3154) rfl rfl, by decide +kernel, by decide +kernel, by decide +kernel, by decide +kernel, by decide +kernel, by decide +kernel⟩
theorem zoX5_kindOfToken : zMok mX5_kindOfToken := ⟨zws_in (i := 3180) rfl rfl, by decide +kernel, by decide +kernel, by decide +kernel, by decide +kernel, by decide +kernel, by decide +kernel⟩
theorem zoX5_sortOfLine : zMok mX5_sortOfLine := ⟨zws_in (i := 3056) rfl rfl, by decide +kernel, by decide +kernel, by decide +kernel, by decide +kernel, by decide +kernel, by decide +kernel⟩
theorem zoX5_isToken : zMok mX5_isToken := ⟨zws_in (i := 3061) rfl rfl, by decide +kernel, by decide +kernel, by decide +kernel, by decide +kernel, by decide +kernel, by decide +kernel⟩
theorem zoX5_nextToken : zMok mX5_nextToken := ⟨zws_in (i := 3048) rfl rfl, by decide +kernel, by decide +kernel, by decide +kernel, by decide +kernel, by decide +kernel, by decide +kernel⟩
theorem zoX5_passAll : zMok mX5_passAll := ⟨zws_in (i := 3052) rfl rfl, by decide +kernel, by decide +kernel, by decide +kernel, by decide +kernel, by decide +kernel, by decide +kernel⟩
theorem zoX6_init : zMok mX6_init := ⟨zws_in (i := 2131) rfl rfl, by decide +kernel, by decide +kernel, by decide +kernel, by decide +kernel, by decide +kernel, by decide +kernel⟩
theorem zoX6_dayOfLeaving : zMok mX6_dayOfLeaving := ⟨zws_in (i := 4097) rfl rfl, by decide +kernel, by decide +kernel, by decide +kernel, by decide +kernel, by decide +kernel, by decide +kernel⟩
theorem zoX6_findFirstDays : zMok mX6_findFirstDays := ⟨zws_in (i := 4191) rfl rfl, by decide +kernel, by decide +kernel, by decide +kernel, by decide +kernel, by decide +kernel, by decide +kernel⟩
theorem zoX6_goes : zMok mX6_goes := ⟨zws_in (i := 4200) rfl rfl, by decide +kernel, by decide +kernel, by decide +kernel, by decide +kernel, by decide +kernel, by decide +kernel⟩
theorem zoX6_firstDayAt : zMok mX6_firstDayAt := ⟨zws_in (i := 4187) rfl rfl, by decide +kernel, by decide +kernel, by decide +kernel, by decide +kernel, by decide +kernel, by decide +kernel⟩
theorem zoX6_dayOfBringing : zMok mX6_dayOfBringing := ⟨zws_in (i := 4209) rfl rfl, by decide +kernel, by decide +kernel, by decide +kernel, by decide +kernel, by decide +kernel, by decide +kernel⟩
theorem zoX6_soonestBringer : zMok mX6_soonestBringer := ⟨zws_in (i := 4226) rfl rfl, by decide +kernel, by decide +kernel, by decide +kernel, by decide +kernel, by decide +kernel, by decide +kernel⟩
theorem zoX6_surestBringer : zMok mX6_surestBringer := ⟨zws_in (i := 4235) rfl rfl, by decide +kernel, by decide +kernel, by decide +kernel, by decide +kernel, by decide +kernel, by decide +kernel⟩
theorem zoX6_bringersBy : zMok mX6_bringersBy := ⟨zws_in (i := 5003) rfl rfl, by decide +kernel, by decide +kernel, by decide +kernel, by decide +kernel, by decide +kernel, by decide +kernel⟩
theorem zoX6_dayOfMeeting : zMok mX6_dayOfMeeting := ⟨zws_in (i := 5054) rfl rfl, by decide +kernel, by decide +kernel, by decide +kernel, by decide +kernel, by decide +kernel, by decide +kernel⟩
theorem zoX6_fittingWhales : zMok mX6_fittingWhales := ⟨zws_in (i := 5063) rfl rfl, by decide +kernel, by decide +kernel, by decide +kernel, by decide +kernel, by decide +kernel, by decide +kernel⟩
theorem zoX6_isFitting : zMok mX6_isFitting := ⟨zws_in (i := 5067) rfl rfl, by decide +kernel, by decide +kernel, by decide +kernel, by decide +kernel, by decide +kernel, by decide +kernel⟩
theorem zoX6_islandsReached : zMok mX6_islandsReached := ⟨zws_in (i := 5075) rfl rfl, by decide +kernel, by decide +kernel, by decide +kernel, by decide +kernel, by decide +kernel, by decide +kernel⟩
theorem zoX6_bestPier : zMok mX6_bestPier := ⟨zws_in (i := 5084) rfl rfl, by decide +kernel, by decide +kernel, by decide +kernel, by decide +kernel, by decide +kernel, by decide +kernel⟩
theorem zoX6_whalesReaching : zMok mX6_whalesReaching := ⟨zws_in (i := 5090) rfl rfl, by decide +kernel, by decide +kernel, by decide +kernel, by decide +kernel, by decide +kernel, by decide +kernel⟩
theorem zoX7_init : zMok mX7_init := ⟨zws_in (i := 2101) rfl rfl, by decide +kernel, by decide +kernel, by decide +kernel, by decide +kernel, by decide +kernel, by decide +kernel⟩
theorem zoX7_fallIn : zMok mX7_fallIn := ⟨zws_in (i := 4019) rfl rfl, by decide +kernel, by decide +kernel, by decide +kernel, by decide +kernel, by decide +kernel, by decide +kernel⟩
theorem zoX7_raised : zMok mX7_raised := ⟨zws_in (i := 4023) rfl rfl, by decide +kernel, by decide +kernel, by decide +kernel, by decide +kernel, by decide +kernel, by decide +kernel⟩
theorem zoX7_songIn : zMok mX7_songIn := ⟨zws_in (i := 4015) rfl rfl, by decide +kernel, by decide +kernel, by decide +kernel, by decide +kernel, by decide +kernel, by decide +kernel⟩
theorem zoX7_hearerOf : zMok mX7_hearerOf := ⟨zws_in (i := 4051) rfl rfl, by decide +kernel, by decide +kernel, by decide +kernel, by decide +kernel, by decide +kernel, by decide +kernel⟩
theorem zoX7_apartness : zMok mX7_apartness := ⟨zws_in (i := 4117) rfl rfl, by decide +kernel, by decide +kernel, by decide +kernel, by decide +kernel, by decide +kernel, by decide +kernel⟩
theorem zoX7_bearable : zMok mX7_bearable := ⟨zws_in (i := 4125) rfl rfl, by decide +kernel, by decide +kernel, by decide +kernel, by decide +kernel, by decide +kernel, by decide +kernel⟩
theorem zoX7_mixedPairs : zMok mX7_mixedPairs := ⟨zws_in (i := 4134) rfl rfl, by decide +kernel, by decide +kernel, by decide +kernel, by decide +kernel, by decide +kernel, by decide +kernel⟩
theorem zoX7_findNew : zMok mX7_findNew := ⟨zws_in (i := 4146) rfl rfl, by decide +kernel, by decide +kernel, by decide +kernel, by decide +kernel, by decide +kernel, by decide +kernel⟩
theorem zoX7_keepSongsOf : zMok mX7_keepSongsOf := ⟨zws_in (i := 4150) rfl rfl, by decide +kernel, by decide +kernel, by decide +kernel, by decide +kernel, by decide +kernel, by decide +kernel⟩
theorem zoX7_isOfNotes : zMok mX7_isOfNotes := ⟨zws_in (i := 4155) rfl rfl, by decide +kernel, by decide +kernel, by decide +kernel, by decide +kernel, by decide +kernel, by decide +kernel⟩
theorem zoX7_isFarFromKept : zMok mX7_isFarFromKept := ⟨zws_in (i := 4159) rfl rfl, by decide +kernel, by decide +kernel, by decide +kernel, by decide +kernel, by decide +kernel, by decide +kernel⟩
theorem zoX7_draw : zMok mX7_draw := ⟨zws_in (i := 5155) rfl rfl, by decide +kernel, by decide +kernel, by decide +kernel, by decide +kernel, by decide +kernel, by decide +kernel⟩
theorem zoX7_slipped : zMok mX7_slipped := ⟨zws_in (i := 5151) rfl rfl, by decide +kernel, by decide +kernel, by decide +kernel, by decide +kernel, by decide +kernel, by decide +kernel⟩
theorem zoX8_init : zMok mX8_init := ⟨zws_in (i := 1135) rfl rfl, by decide +kernel, by decide +kernel, by decide +kernel, by decide +kernel, by decide +kernel, by decide +kernel⟩
theorem zoX9_init : zMok mX9_init := ⟨zws_in (i := 1051) rfl rfl, by decide +kernel, by decide +kernel, by decide +kernel, by decide +kernel, by decide +kernel, by decide +kernel⟩
theorem zoX10_init : zMok mX10_init := ⟨zws_in (i := 1082) rfl rfl, by decide +kernel, by decide +kernel, by decide +kernel, by decide +kernel, by decide +kernel, by decide +kernel⟩
theorem zoX11_init : zMok mX11_init := ⟨zws_in (i := 1030) rfl rfl, by decide +kernel, by decide +kernel, by decide +kernel, by decide +kernel, by decide +kernel, by decide +kernel⟩
theorem zoX11_feed : zMok mX11_feed := ⟨zws_in (i := 3017) rfl rfl, by decide +kernel, by decide +kernel, by decide +kernel, by decide +kernel, by decide +kernel, by decide +kernel⟩
theorem zoX11_post : zMok mX11_post := ⟨zws_in (i := 3025) rfl rfl, by decide +kernel, by decide +kernel, by decide +kernel, by decide +kernel, by decide +kernel, by decide +kernel⟩
theorem zoX11_fault : zMok mX11_fault := ⟨zws_in (i := 3219) rfl rfl, by decide +kernel, by decide +kernel, by decide +kernel, by decide +kernel, by decide +kernel, by decide +kernel⟩
theorem zoX11_where : zMok mX11_where := ⟨zws_in (i := 3223) rfl rfl, by decide +kernel, by decide +kernel, by decide +kernel, by decide +kernel, by decide +kernel, by decide +kernel⟩
theorem zoX11_whale : zMok mX11_whale := ⟨zws_in (i := 3227) rfl rfl, by decide +kernel, by decide +kernel, by decide +kernel, by decide +kernel, by decide +kernel, by decide +kernel⟩
theorem zoX11_box : zMok mX11_box := ⟨zws_in (i := 3235) rfl rfl, by decide +kernel, by decide +kernel, by decide +kernel, by decide +kernel, by decide +kernel, by decide +kernel⟩
theorem zoX11_length : zMok mX11_length := ⟨zws_in (i := 4003) rfl rfl, by decide +kernel, by decide +kernel, by decide +kernel, by decide +kernel, by decide +kernel, by decide +kernel⟩
theorem zoX11_note : zMok mX11_note := ⟨zws_in (i := 4011) rfl rfl, by decide +kernel, by decide +kernel, by decide +kernel, by decide +kernel, by decide +kernel, by decide +kernel⟩
theorem zoX11_sung : zMok mX11_sung := ⟨zws_in (i := 4031) rfl rfl, by decide +kernel, by decide +kernel, by decide +kernel, by decide +kernel, by decide +kernel, by decide +kernel⟩
theorem zoX11_heard : zMok mX11_heard := ⟨zws_in (i := 4043) rfl rfl, by decide +kernel, by decide +kernel, by decide +kernel, by decide +kernel, by decide +kernel, by decide +kernel⟩
theorem zoX11_way : zMok mX11_way := ⟨zws_in (i := 4064) rfl rfl, by decide +kernel, by decide +kernel, by decide +kernel, by decide +kernel, by decide +kernel, by decide +kernel⟩
theorem zoX11_season : zMok mX11_season := ⟨zws_in (i := 4077) rfl rfl, by decide +kernel, by decide +kernel, by decide +kernel, by decide +kernel, by decide +kernel, by decide +kernel⟩
theorem zoX11_sets : zMok mX11_sets := ⟨zws_in (i := 4089) rfl rfl, by decide +kernel, by decide +kernel, by decide +kernel, by decide +kernel, by decide +kernel, by decide +kernel⟩
theorem zoX11_sent : zMok mX11_sent := ⟨zws_in (i := 4101) rfl rfl, by decide +kernel, by decide +kernel, by decide +kernel, by decide +kernel, by decide +kernel, by decide +kernel⟩
theorem zoX11_apart : zMok mX11_apart := ⟨zws_in (i := 4113) rfl rfl, by decide +kernel, by decide +kernel, by decide +kernel, by decide +kernel, by decide +kernel, by decide +kernel⟩
theorem zoX11_bear : zMok mX11_bear := ⟨zws_in (i := 4121) rfl rfl, by decide +kernel, by decide +kernel, by decide +kernel, by decide +kernel, by decide +kernel, by decide +kernel⟩
theorem zoX11_mixed : zMok mX11_mixed := ⟨zws_in (i := 4130) rfl rfl, by decide +kernel, by decide +kernel, by decide +kernel, by decide +kernel, by decide +kernel, by decide +kernel⟩
theorem zoX11_fresh : zMok mX11_fresh := ⟨zws_in (i := 4138) rfl rfl, by decide +kernel, by decide +kernel, by decide +kernel, by decide +kernel, by decide +kernel, by decide +kernel⟩
theorem zoX11_byTurns : zMok mX11_byTurns := ⟨zws_in (i := 4163) rfl rfl, by decide +kernel, by decide +kernel, by decide +kernel, by decide +kernel, by decide +kernel, by decide +kernel⟩
theorem zoX11_near : zMok mX11_near := ⟨zws_in (i := 4167) rfl rfl, by decide +kernel, by decide +kernel, by decide +kernel, by decide +kernel, by decide +kernel, by decide +kernel⟩
theorem zoX11_asNear : zMok mX11_asNear := ⟨zws_in (i := 4171) rfl rfl, by decide +kernel, by decide +kernel, by decide +kernel, by decide +kernel, by decide +kernel, by decide +kernel⟩
theorem zoX11_heardIn : zMok mX11_heardIn := ⟨zws_in (i := 4175) rfl rfl, by decide +kernel, by decide +kernel, by decide +kernel, by decide +kernel, by decide +kernel, by decide +kernel⟩
theorem zoX11_strange : zMok mX11_strange := ⟨zws_in (i := 4179) rfl rfl, by decide +kernel, by decide +kernel, by decide +kernel, by decide +kernel, by decide +kernel, by decide +kernel⟩
theorem zoX11_arrival : zMok mX11_arrival := ⟨zws_in (i := 4183) rfl rfl, by decide +kernel, by decide +kernel, by decide +kernel, by decide +kernel, by decide +kernel, by decide +kernel⟩
theorem zoX11_brings : zMok mX11_brings := ⟨zws_in (i := 4205) rfl rfl, by decide +kernel, by decide +kernel, by decide +kernel, by decide +kernel, by decide +kernel, by decide +kernel⟩
theorem zoX11_soonest : zMok mX11_soonest := ⟨zws_in (i := 4222) rfl rfl, by decide +kernel, by decide +kernel, by decide +kernel, by decide +kernel, by decide +kernel, by decide +kernel⟩
theorem zoX11_surest : zMok mX11_surest := ⟨zws_in (i := 4231) rfl rfl, by decide +kernel, by decide +kernel, by decide +kernel, by decide +kernel, by decide +kernel, by decide +kernel⟩
theorem zoX11_by : zMok mX11_by := ⟨zws_in (i := 4239) rfl rfl, by decide +kernel, by decide +kernel, by decide +kernel, by decide +kernel, by decide +kernel, by decide +kernel⟩
theorem zoX11_registered : zMok mX11_registered := ⟨zws_in (i := 5007) rfl rfl, by decide +kernel, by decide +kernel, by decide +kernel, by decide +kernel, by decide +kernel, by decide +kernel⟩
theorem zoX11_match : zMok mX11_match := ⟨zws_in (i := 5015) rfl rfl, by decide +kernel, by decide +kernel, by decide +kernel, by decide +kernel, by decide +kernel, by decide +kernel⟩
theorem zoX11_matchDays : zMok mX11_matchDays := ⟨zws_in (i := 5042) rfl rfl, by decide +kernel, by decide +kernel, by decide +kernel, by decide +kernel, by decide +kernel, by decide +kernel⟩
theorem zoX11_matchOf : zMok mX11_matchOf := ⟨zws_in (i := 5046) rfl rfl, by decide +kernel, by decide +kernel, by decide +kernel, by decide +kernel, by decide +kernel, by decide +kernel⟩
theorem zoX11_meet : zMok mX11_meet := ⟨zws_in (i := 5050) rfl rfl, by decide +kernel, by decide +kernel, by decide +kernel, by decide +kernel, by decide +kernel, by decide +kernel⟩
theorem zoX11_fits : zMok mX11_fits := ⟨zws_in (i := 5059) rfl rfl, by decide +kernel, by decide +kernel, by decide +kernel, by decide +kernel, by decide +kernel, by decide +kernel⟩
theorem zoX11_reach : zMok mX11_reach := ⟨zws_in (i := 5071) rfl rfl, by decide +kernel, by decide +kernel, by decide +kernel, by decide +kernel, by decide +kernel, by decide +kernel⟩
