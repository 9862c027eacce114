section Pk0
/-! the heaps of the law's beginning, by program -/
def hh_0 : zH := ((0, (fun _ => (0, 0)), 0), (fun _ _ => 0), (fun _ _ => 0), (fun _ _ => none), 0)
def hh_1 : zH := ((1, (fun b => if b = 0 then (11, 16) else hh_0.1.2.1 b), 16), zrow hh_0.2.1 0 (fun _ => 0), zrow hh_0.2.2.1 0 (fun _ => 0), zrow hh_0.2.2.2.1 0 (fun _ => none), 0)
def hh_2 : zH := ((2, (fun b => if b = 1 then (13, 1000) else hh_1.1.2.1 b), 1016), zrow hh_1.2.1 1 (fun _ => 0), zrow hh_1.2.2.1 1 (fun _ => 0), zrow hh_1.2.2.2.1 1 (fun _ => none), 0)
def hh_3 : zH := ((2, hh_2.1.2.1, 1016), hh_2.2.1, hh_2.2.2.1, zup hh_2.2.2.2.1 0 0 (some 1), 0)
def hh_4 : zH := ((2, hh_3.1.2.1, 1016), zup hh_3.2.1 0 1 0, hh_3.2.2.1, hh_3.2.2.2.1, 0)
def hh_5 : zH := ((2, hh_4.1.2.1, 1016), zup hh_4.2.1 0 2 0, hh_4.2.2.1, hh_4.2.2.2.1, 0)
def hh_6 : zH := ((3, (fun b => if b = 2 then (4, 15) else hh_5.1.2.1 b), 1031), zrow hh_5.2.1 2 (fun _ => 0), zrow hh_5.2.2.1 2 (fun _ => 0), zrow hh_5.2.2.2.1 2 (fun _ => none), 0)
def hh_7 : zH := ((4, (fun b => if b = 3 then (14, 7) else hh_6.1.2.1 b), 1038), zrow hh_6.2.1 3 (fun _ => 0), zrow hh_6.2.2.1 3 (fun _ => 0), zrow hh_6.2.2.2.1 3 (fun _ => none), 0)
def hh_8 : zH := ((4, hh_7.1.2.1, 1038), hh_7.2.1, hh_7.2.2.1, zup hh_7.2.2.2.1 2 9 (some 3), 0)
def hh_9 : zH := ((5, (fun b => if b = 4 then (14, 7) else hh_8.1.2.1 b), 1045), zrow hh_8.2.1 4 (fun _ => 0), zrow hh_8.2.2.1 4 (fun _ => 0), zrow hh_8.2.2.2.1 4 (fun _ => none), 0)
def hh_10 : zH := ((5, hh_9.1.2.1, 1045), hh_9.2.1, hh_9.2.2.1, zup hh_9.2.2.2.1 2 10 (some 4), 0)
def hh_11 : zH := ((6, (fun b => if b = 5 then (19, 12) else hh_10.1.2.1 b), 1057), zrow hh_10.2.1 5 (fun _ => 0), zrow hh_10.2.2.1 5 (fun _ => 0), zrow hh_10.2.2.2.1 5 (fun _ => none), 0)
def hh_12 : zH := ((6, hh_11.1.2.1, 1057), hh_11.2.1, hh_11.2.2.1, zup hh_11.2.2.2.1 2 11 (some 5), 0)
def hh_13 : zH := ((7, (fun b => if b = 6 then (20, 5) else hh_12.1.2.1 b), 1062), zrow hh_12.2.1 6 (fun _ => 0), zrow hh_12.2.2.1 6 (fun _ => 0), zrow hh_12.2.2.2.1 6 (fun _ => none), 0)
def hh_14 : zH := ((7, hh_13.1.2.1, 1062), hh_13.2.1, hh_13.2.2.1, zup hh_13.2.2.2.1 2 12 (some 6), 0)
def hh_15 : zH := ((8, (fun b => if b = 7 then (16, 8) else hh_14.1.2.1 b), 1070), zrow hh_14.2.1 7 (fun _ => 0), zrow hh_14.2.2.1 7 (fun _ => 0), zrow hh_14.2.2.2.1 7 (fun _ => none), 0)
def hh_16 : zH := ((8, hh_15.1.2.1, 1070), hh_15.2.1, hh_15.2.2.1, zup hh_15.2.2.2.1 2 13 (some 7), 0)
def hh_17 : zH := ((9, (fun b => if b = 8 then (18, 8) else hh_16.1.2.1 b), 1078), zrow hh_16.2.1 8 (fun _ => 0), zrow hh_16.2.2.1 8 (fun _ => 0), zrow hh_16.2.2.2.1 8 (fun _ => none), 0)
def hh_18 : zH := ((9, hh_17.1.2.1, 1078), hh_17.2.1, hh_17.2.2.1, zup hh_17.2.2.2.1 2 14 (some 8), 0)
def hh_19 : zH := ((10, (fun b => if b = 9 then (9, 4) else hh_18.1.2.1 b), 1082), zrow hh_18.2.1 9 (fun _ => 0), zrow hh_18.2.2.1 9 (fun _ => 0), zrow hh_18.2.2.2.1 9 (fun _ => none), 0)
def hh_20 : zH := ((10, hh_19.1.2.1, 1082), hh_19.2.1, hh_19.2.2.1, zup hh_19.2.2.2.1 5 0 (some 9), 0)
def hh_21 : zH := ((11, (fun b => if b = 10 then (9, 4) else hh_20.1.2.1 b), 1086), zrow hh_20.2.1 10 (fun _ => 0), zrow hh_20.2.2.1 10 (fun _ => 0), zrow hh_20.2.2.2.1 10 (fun _ => none), 0)
def hh_22 : zH := ((11, hh_21.1.2.1, 1086), hh_21.2.1, hh_21.2.2.1, zup hh_21.2.2.2.1 5 1 (some 10), 0)
def hh_23 : zH := ((12, (fun b => if b = 11 then (9, 4) else hh_22.1.2.1 b), 1090), zrow hh_22.2.1 11 (fun _ => 0), zrow hh_22.2.2.1 11 (fun _ => 0), zrow hh_22.2.2.2.1 11 (fun _ => none), 0)
def hh_24 : zH := ((12, hh_23.1.2.1, 1090), hh_23.2.1, hh_23.2.2.1, zup hh_23.2.2.2.1 5 2 (some 11), 0)
def hh_25 : zH := ((13, (fun b => if b = 12 then (9, 4) else hh_24.1.2.1 b), 1094), zrow hh_24.2.1 12 (fun _ => 0), zrow hh_24.2.2.1 12 (fun _ => 0), zrow hh_24.2.2.2.1 12 (fun _ => none), 0)
def hh_26 : zH := ((13, hh_25.1.2.1, 1094), hh_25.2.1, hh_25.2.2.1, zup hh_25.2.2.2.1 5 3 (some 12), 0)
def hh_27 : zH := ((14, (fun b => if b = 13 then (9, 4) else hh_26.1.2.1 b), 1098), zrow hh_26.2.1 13 (fun _ => 0), zrow hh_26.2.2.1 13 (fun _ => 0), zrow hh_26.2.2.2.1 13 (fun _ => none), 0)
def hh_28 : zH := ((14, hh_27.1.2.1, 1098), hh_27.2.1, hh_27.2.2.1, zup hh_27.2.2.2.1 5 4 (some 13), 0)
def hh_29 : zH := ((15, (fun b => if b = 14 then (9, 4) else hh_28.1.2.1 b), 1102), zrow hh_28.2.1 14 (fun _ => 0), zrow hh_28.2.2.1 14 (fun _ => 0), zrow hh_28.2.2.2.1 14 (fun _ => none), 0)
def hh_30 : zH := ((15, hh_29.1.2.1, 1102), hh_29.2.1, hh_29.2.2.1, zup hh_29.2.2.2.1 5 5 (some 14), 0)
def hh_31 : zH := ((16, (fun b => if b = 15 then (9, 4) else hh_30.1.2.1 b), 1106), zrow hh_30.2.1 15 (fun _ => 0), zrow hh_30.2.2.1 15 (fun _ => 0), zrow hh_30.2.2.2.1 15 (fun _ => none), 0)
def hh_32 : zH := ((16, hh_31.1.2.1, 1106), hh_31.2.1, hh_31.2.2.1, zup hh_31.2.2.2.1 5 6 (some 15), 0)
def hh_33 : zH := ((17, (fun b => if b = 16 then (9, 4) else hh_32.1.2.1 b), 1110), zrow hh_32.2.1 16 (fun _ => 0), zrow hh_32.2.2.1 16 (fun _ => 0), zrow hh_32.2.2.2.1 16 (fun _ => none), 0)
def hh_34 : zH := ((17, hh_33.1.2.1, 1110), hh_33.2.1, hh_33.2.2.1, zup hh_33.2.2.2.1 5 7 (some 16), 0)
def hh_35 : zH := ((18, (fun b => if b = 17 then (9, 4) else hh_34.1.2.1 b), 1114), zrow hh_34.2.1 17 (fun _ => 0), zrow hh_34.2.2.1 17 (fun _ => 0), zrow hh_34.2.2.2.1 17 (fun _ => none), 0)
def hh_36 : zH := ((18, hh_35.1.2.1, 1114), hh_35.2.1, hh_35.2.2.1, zup hh_35.2.2.2.1 5 8 (some 17), 0)
def hh_37 : zH := ((19, (fun b => if b = 18 then (9, 4) else hh_36.1.2.1 b), 1118), zrow hh_36.2.1 18 (fun _ => 0), zrow hh_36.2.2.1 18 (fun _ => 0), zrow hh_36.2.2.2.1 18 (fun _ => none), 0)
def hh_38 : zH := ((19, hh_37.1.2.1, 1118), hh_37.2.1, hh_37.2.2.1, zup hh_37.2.2.2.1 5 9 (some 18), 0)
def hh_39 : zH := ((20, (fun b => if b = 19 then (9, 4) else hh_38.1.2.1 b), 1122), zrow hh_38.2.1 19 (fun _ => 0), zrow hh_38.2.2.1 19 (fun _ => 0), zrow hh_38.2.2.2.1 19 (fun _ => none), 0)
def hh_40 : zH := ((20, hh_39.1.2.1, 1122), hh_39.2.1, hh_39.2.2.1, zup hh_39.2.2.2.1 5 10 (some 19), 0)
def hh_41 : zH := ((21, (fun b => if b = 20 then (9, 4) else hh_40.1.2.1 b), 1126), zrow hh_40.2.1 20 (fun _ => 0), zrow hh_40.2.2.1 20 (fun _ => 0), zrow hh_40.2.2.2.1 20 (fun _ => none), 0)
def hh_42 : zH := ((21, hh_41.1.2.1, 1126), hh_41.2.1, hh_41.2.2.1, zup hh_41.2.2.2.1 5 11 (some 20), 0)
def hh_43 : zH := ((22, (fun b => if b = 21 then (10, 4) else hh_42.1.2.1 b), 1130), zrow hh_42.2.1 21 (fun _ => 0), zrow hh_42.2.2.1 21 (fun _ => 0), zrow hh_42.2.2.2.1 21 (fun _ => none), 0)
def hh_44 : zH := ((22, hh_43.1.2.1, 1130), hh_43.2.1, hh_43.2.2.1, zup hh_43.2.2.2.1 6 0 (some 21), 0)
def hh_45 : zH := ((23, (fun b => if b = 22 then (10, 4) else hh_44.1.2.1 b), 1134), zrow hh_44.2.1 22 (fun _ => 0), zrow hh_44.2.2.1 22 (fun _ => 0), zrow hh_44.2.2.2.1 22 (fun _ => none), 0)
def hh_46 : zH := ((23, hh_45.1.2.1, 1134), hh_45.2.1, hh_45.2.2.1, zup hh_45.2.2.2.1 6 1 (some 22), 0)
def hh_47 : zH := ((24, (fun b => if b = 23 then (10, 4) else hh_46.1.2.1 b), 1138), zrow hh_46.2.1 23 (fun _ => 0), zrow hh_46.2.2.1 23 (fun _ => 0), zrow hh_46.2.2.2.1 23 (fun _ => none), 0)
def hh_48 : zH := ((24, hh_47.1.2.1, 1138), hh_47.2.1, hh_47.2.2.1, zup hh_47.2.2.2.1 6 2 (some 23), 0)
def hh_49 : zH := ((25, (fun b => if b = 24 then (10, 4) else hh_48.1.2.1 b), 1142), zrow hh_48.2.1 24 (fun _ => 0), zrow hh_48.2.2.1 24 (fun _ => 0), zrow hh_48.2.2.2.1 24 (fun _ => none), 0)
def hh_50 : zH := ((25, hh_49.1.2.1, 1142), hh_49.2.1, hh_49.2.2.1, zup hh_49.2.2.2.1 6 3 (some 24), 0)
def hh_51 : zH := ((26, (fun b => if b = 25 then (10, 4) else hh_50.1.2.1 b), 1146), zrow hh_50.2.1 25 (fun _ => 0), zrow hh_50.2.2.1 25 (fun _ => 0), zrow hh_50.2.2.2.1 25 (fun _ => none), 0)
def hh_52 : zH := ((26, hh_51.1.2.1, 1146), hh_51.2.1, hh_51.2.2.1, zup hh_51.2.2.2.1 6 4 (some 25), 0)
def hh_53 : zH := ((27, (fun b => if b = 26 then (0, 4) else hh_52.1.2.1 b), 1150), zrow hh_52.2.1 26 (fun _ => 0), zrow hh_52.2.2.1 26 (fun _ => 0), zrow hh_52.2.2.2.1 26 (fun _ => none), 0)
def hh_54 : zH := ((27, hh_53.1.2.1, 1150), hh_53.2.1, hh_53.2.2.1, zup hh_53.2.2.2.1 7 0 (some 26), 0)
def hh_55 : zH := ((28, (fun b => if b = 27 then (0, 4) else hh_54.1.2.1 b), 1154), zrow hh_54.2.1 27 (fun _ => 0), zrow hh_54.2.2.1 27 (fun _ => 0), zrow hh_54.2.2.2.1 27 (fun _ => none), 0)
def hh_56 : zH := ((28, hh_55.1.2.1, 1154), hh_55.2.1, hh_55.2.2.1, zup hh_55.2.2.2.1 7 1 (some 27), 0)
def hh_57 : zH := ((29, (fun b => if b = 28 then (0, 4) else hh_56.1.2.1 b), 1158), zrow hh_56.2.1 28 (fun _ => 0), zrow hh_56.2.2.1 28 (fun _ => 0), zrow hh_56.2.2.2.1 28 (fun _ => none), 0)
def hh_58 : zH := ((29, hh_57.1.2.1, 1158), hh_57.2.1, hh_57.2.2.1, zup hh_57.2.2.2.1 7 2 (some 28), 0)
def hh_59 : zH := ((30, (fun b => if b = 29 then (0, 4) else hh_58.1.2.1 b), 1162), zrow hh_58.2.1 29 (fun _ => 0), zrow hh_58.2.2.1 29 (fun _ => 0), zrow hh_58.2.2.2.1 29 (fun _ => none), 0)
def hh_60 : zH := ((30, hh_59.1.2.1, 1162), hh_59.2.1, hh_59.2.2.1, zup hh_59.2.2.2.1 7 3 (some 29), 0)
def hh_61 : zH := ((31, (fun b => if b = 30 then (0, 4) else hh_60.1.2.1 b), 1166), zrow hh_60.2.1 30 (fun _ => 0), zrow hh_60.2.2.1 30 (fun _ => 0), zrow hh_60.2.2.2.1 30 (fun _ => none), 0)
def hh_62 : zH := ((31, hh_61.1.2.1, 1166), hh_61.2.1, hh_61.2.2.1, zup hh_61.2.2.2.1 7 4 (some 30), 0)
def hh_63 : zH := ((32, (fun b => if b = 31 then (0, 4) else hh_62.1.2.1 b), 1170), zrow hh_62.2.1 31 (fun _ => 0), zrow hh_62.2.2.1 31 (fun _ => 0), zrow hh_62.2.2.2.1 31 (fun _ => none), 0)
def hh_64 : zH := ((32, hh_63.1.2.1, 1170), hh_63.2.1, hh_63.2.2.1, zup hh_63.2.2.2.1 7 5 (some 31), 0)
def hh_65 : zH := ((33, (fun b => if b = 32 then (0, 4) else hh_64.1.2.1 b), 1174), zrow hh_64.2.1 32 (fun _ => 0), zrow hh_64.2.2.1 32 (fun _ => 0), zrow hh_64.2.2.2.1 32 (fun _ => none), 0)
def hh_66 : zH := ((33, hh_65.1.2.1, 1174), hh_65.2.1, hh_65.2.2.1, zup hh_65.2.2.2.1 7 6 (some 32), 0)
def hh_67 : zH := ((34, (fun b => if b = 33 then (0, 4) else hh_66.1.2.1 b), 1178), zrow hh_66.2.1 33 (fun _ => 0), zrow hh_66.2.2.1 33 (fun _ => 0), zrow hh_66.2.2.2.1 33 (fun _ => none), 0)
def hh_68 : zH := ((34, hh_67.1.2.1, 1178), hh_67.2.1, hh_67.2.2.1, zup hh_67.2.2.2.1 7 7 (some 33), 0)
def hh_69 : zH := ((35, (fun b => if b = 34 then (8, 3) else hh_68.1.2.1 b), 1181), zrow hh_68.2.1 34 (fun _ => 0), zrow hh_68.2.2.1 34 (fun _ => 0), zrow hh_68.2.2.2.1 34 (fun _ => none), 0)
def hh_70 : zH := ((35, hh_69.1.2.1, 1181), hh_69.2.1, hh_69.2.2.1, zup hh_69.2.2.2.1 8 0 (some 34), 0)
def hh_71 : zH := ((36, (fun b => if b = 35 then (8, 3) else hh_70.1.2.1 b), 1184), zrow hh_70.2.1 35 (fun _ => 0), zrow hh_70.2.2.1 35 (fun _ => 0), zrow hh_70.2.2.2.1 35 (fun _ => none), 0)
def hh_72 : zH := ((36, hh_71.1.2.1, 1184), hh_71.2.1, hh_71.2.2.1, zup hh_71.2.2.2.1 8 1 (some 35), 0)
def hh_73 : zH := ((37, (fun b => if b = 36 then (8, 3) else hh_72.1.2.1 b), 1187), zrow hh_72.2.1 36 (fun _ => 0), zrow hh_72.2.2.1 36 (fun _ => 0), zrow hh_72.2.2.2.1 36 (fun _ => none), 0)
def hh_74 : zH := ((37, hh_73.1.2.1, 1187), hh_73.2.1, hh_73.2.2.1, zup hh_73.2.2.2.1 8 2 (some 36), 0)
def hh_75 : zH := ((38, (fun b => if b = 37 then (8, 3) else hh_74.1.2.1 b), 1190), zrow hh_74.2.1 37 (fun _ => 0), zrow hh_74.2.2.1 37 (fun _ => 0), zrow hh_74.2.2.2.1 37 (fun _ => none), 0)
def hh_76 : zH := ((38, hh_75.1.2.1, 1190), hh_75.2.1, hh_75.2.2.1, zup hh_75.2.2.2.1 8 3 (some 37), 0)
def hh_77 : zH := ((39, (fun b => if b = 38 then (8, 3) else hh_76.1.2.1 b), 1193), zrow hh_76.2.1 38 (fun _ => 0), zrow hh_76.2.2.1 38 (fun _ => 0), zrow hh_76.2.2.2.1 38 (fun _ => none), 0)
def hh_78 : zH := ((39, hh_77.1.2.1, 1193), hh_77.2.1, hh_77.2.2.1, zup hh_77.2.2.2.1 8 4 (some 38), 0)
def hh_79 : zH := ((40, (fun b => if b = 39 then (8, 3) else hh_78.1.2.1 b), 1196), zrow hh_78.2.1 39 (fun _ => 0), zrow hh_78.2.2.1 39 (fun _ => 0), zrow hh_78.2.2.2.1 39 (fun _ => none), 0)
def hh_80 : zH := ((40, hh_79.1.2.1, 1196), hh_79.2.1, hh_79.2.2.1, zup hh_79.2.2.2.1 8 5 (some 39), 0)
def hh_81 : zH := ((41, (fun b => if b = 40 then (8, 3) else hh_80.1.2.1 b), 1199), zrow hh_80.2.1 40 (fun _ => 0), zrow hh_80.2.2.1 40 (fun _ => 0), zrow hh_80.2.2.2.1 40 (fun _ => none), 0)
def hh_82 : zH := ((41, hh_81.1.2.1, 1199), hh_81.2.1, hh_81.2.2.1, zup hh_81.2.2.2.1 8 6 (some 40), 0)
def hh_83 : zH := ((42, (fun b => if b = 41 then (8, 3) else hh_82.1.2.1 b), 1202), zrow hh_82.2.1 41 (fun _ => 0), zrow hh_82.2.2.1 41 (fun _ => 0), zrow hh_82.2.2.2.1 41 (fun _ => none), 0)
def hh_84 : zH := ((42, hh_83.1.2.1, 1202), hh_83.2.1, hh_83.2.2.1, zup hh_83.2.2.2.1 8 7 (some 41), 0)
def hh_85 : zH := ((42, hh_84.1.2.1, 1202), hh_84.2.1, hh_84.2.2.1, zup hh_84.2.2.2.1 0 3 (some 2), 0)
def hh_86 : zH := ((43, (fun b => if b = 42 then (4, 15) else hh_85.1.2.1 b), 1217), zrow hh_85.2.1 42 (fun _ => 0), zrow hh_85.2.2.1 42 (fun _ => 0), zrow hh_85.2.2.2.1 42 (fun _ => none), 0)
def hh_87 : zH := ((44, (fun b => if b = 43 then (14, 7) else hh_86.1.2.1 b), 1224), zrow hh_86.2.1 43 (fun _ => 0), zrow hh_86.2.2.1 43 (fun _ => 0), zrow hh_86.2.2.2.1 43 (fun _ => none), 0)
def hh_88 : zH := ((44, hh_87.1.2.1, 1224), hh_87.2.1, hh_87.2.2.1, zup hh_87.2.2.2.1 42 9 (some 43), 0)
def hh_89 : zH := ((45, (fun b => if b = 44 then (14, 7) else hh_88.1.2.1 b), 1231), zrow hh_88.2.1 44 (fun _ => 0), zrow hh_88.2.2.1 44 (fun _ => 0), zrow hh_88.2.2.2.1 44 (fun _ => none), 0)
def hh_90 : zH := ((45, hh_89.1.2.1, 1231), hh_89.2.1, hh_89.2.2.1, zup hh_89.2.2.2.1 42 10 (some 44), 0)
def hh_91 : zH := ((46, (fun b => if b = 45 then (19, 12) else hh_90.1.2.1 b), 1243), zrow hh_90.2.1 45 (fun _ => 0), zrow hh_90.2.2.1 45 (fun _ => 0), zrow hh_90.2.2.2.1 45 (fun _ => none), 0)
def hh_92 : zH := ((46, hh_91.1.2.1, 1243), hh_91.2.1, hh_91.2.2.1, zup hh_91.2.2.2.1 42 11 (some 45), 0)
def hh_93 : zH := ((47, (fun b => if b = 46 then (20, 5) else hh_92.1.2.1 b), 1248), zrow hh_92.2.1 46 (fun _ => 0), zrow hh_92.2.2.1 46 (fun _ => 0), zrow hh_92.2.2.2.1 46 (fun _ => none), 0)
def hh_94 : zH := ((47, hh_93.1.2.1, 1248), hh_93.2.1, hh_93.2.2.1, zup hh_93.2.2.2.1 42 12 (some 46), 0)
def hh_95 : zH := ((48, (fun b => if b = 47 then (16, 8) else hh_94.1.2.1 b), 1256), zrow hh_94.2.1 47 (fun _ => 0), zrow hh_94.2.2.1 47 (fun _ => 0), zrow hh_94.2.2.2.1 47 (fun _ => none), 0)
def hh_96 : zH := ((48, hh_95.1.2.1, 1256), hh_95.2.1, hh_95.2.2.1, zup hh_95.2.2.2.1 42 13 (some 47), 0)
def hh_97 : zH := ((49, (fun b => if b = 48 then (18, 8) else hh_96.1.2.1 b), 1264), zrow hh_96.2.1 48 (fun _ => 0), zrow hh_96.2.2.1 48 (fun _ => 0), zrow hh_96.2.2.2.1 48 (fun _ => none), 0)
def hh_98 : zH := ((49, hh_97.1.2.1, 1264), hh_97.2.1, hh_97.2.2.1, zup hh_97.2.2.2.1 42 14 (some 48), 0)
def hh_99 : zH := ((50, (fun b => if b = 49 then (9, 4) else hh_98.1.2.1 b), 1268), zrow hh_98.2.1 49 (fun _ => 0), zrow hh_98.2.2.1 49 (fun _ => 0), zrow hh_98.2.2.2.1 49 (fun _ => none), 0)
def hh_100 : zH := ((50, hh_99.1.2.1, 1268), hh_99.2.1, hh_99.2.2.1, zup hh_99.2.2.2.1 45 0 (some 49), 0)
def hh_101 : zH := ((51, (fun b => if b = 50 then (9, 4) else hh_100.1.2.1 b), 1272), zrow hh_100.2.1 50 (fun _ => 0), zrow hh_100.2.2.1 50 (fun _ => 0), zrow hh_100.2.2.2.1 50 (fun _ => none), 0)
def hh_102 : zH := ((51, hh_101.1.2.1, 1272), hh_101.2.1, hh_101.2.2.1, zup hh_101.2.2.2.1 45 1 (some 50), 0)
def hh_103 : zH := ((52, (fun b => if b = 51 then (9, 4) else hh_102.1.2.1 b), 1276), zrow hh_102.2.1 51 (fun _ => 0), zrow hh_102.2.2.1 51 (fun _ => 0), zrow hh_102.2.2.2.1 51 (fun _ => none), 0)
def hh_104 : zH := ((52, hh_103.1.2.1, 1276), hh_103.2.1, hh_103.2.2.1, zup hh_103.2.2.2.1 45 2 (some 51), 0)
def hh_105 : zH := ((53, (fun b => if b = 52 then (9, 4) else hh_104.1.2.1 b), 1280), zrow hh_104.2.1 52 (fun _ => 0), zrow hh_104.2.2.1 52 (fun _ => 0), zrow hh_104.2.2.2.1 52 (fun _ => none), 0)
def hh_106 : zH := ((53, hh_105.1.2.1, 1280), hh_105.2.1, hh_105.2.2.1, zup hh_105.2.2.2.1 45 3 (some 52), 0)
def hh_107 : zH := ((54, (fun b => if b = 53 then (9, 4) else hh_106.1.2.1 b), 1284), zrow hh_106.2.1 53 (fun _ => 0), zrow hh_106.2.2.1 53 (fun _ => 0), zrow hh_106.2.2.2.1 53 (fun _ => none), 0)
def hh_108 : zH := ((54, hh_107.1.2.1, 1284), hh_107.2.1, hh_107.2.2.1, zup hh_107.2.2.2.1 45 4 (some 53), 0)
def hh_109 : zH := ((55, (fun b => if b = 54 then (9, 4) else hh_108.1.2.1 b), 1288), zrow hh_108.2.1 54 (fun _ => 0), zrow hh_108.2.2.1 54 (fun _ => 0), zrow hh_108.2.2.2.1 54 (fun _ => none), 0)
def hh_110 : zH := ((55, hh_109.1.2.1, 1288), hh_109.2.1, hh_109.2.2.1, zup hh_109.2.2.2.1 45 5 (some 54), 0)
def hh_111 : zH := ((56, (fun b => if b = 55 then (9, 4) else hh_110.1.2.1 b), 1292), zrow hh_110.2.1 55 (fun _ => 0), zrow hh_110.2.2.1 55 (fun _ => 0), zrow hh_110.2.2.2.1 55 (fun _ => none), 0)
def hh_112 : zH := ((56, hh_111.1.2.1, 1292), hh_111.2.1, hh_111.2.2.1, zup hh_111.2.2.2.1 45 6 (some 55), 0)
def hh_113 : zH := ((57, (fun b => if b = 56 then (9, 4) else hh_112.1.2.1 b), 1296), zrow hh_112.2.1 56 (fun _ => 0), zrow hh_112.2.2.1 56 (fun _ => 0), zrow hh_112.2.2.2.1 56 (fun _ => none), 0)
def hh_114 : zH := ((57, hh_113.1.2.1, 1296), hh_113.2.1, hh_113.2.2.1, zup hh_113.2.2.2.1 45 7 (some 56), 0)
def hh_115 : zH := ((58, (fun b => if b = 57 then (9, 4) else hh_114.1.2.1 b), 1300), zrow hh_114.2.1 57 (fun _ => 0), zrow hh_114.2.2.1 57 (fun _ => 0), zrow hh_114.2.2.2.1 57 (fun _ => none), 0)
def hh_116 : zH := ((58, hh_115.1.2.1, 1300), hh_115.2.1, hh_115.2.2.1, zup hh_115.2.2.2.1 45 8 (some 57), 0)
def hh_117 : zH := ((59, (fun b => if b = 58 then (9, 4) else hh_116.1.2.1 b), 1304), zrow hh_116.2.1 58 (fun _ => 0), zrow hh_116.2.2.1 58 (fun _ => 0), zrow hh_116.2.2.2.1 58 (fun _ => none), 0)
def hh_118 : zH := ((59, hh_117.1.2.1, 1304), hh_117.2.1, hh_117.2.2.1, zup hh_117.2.2.2.1 45 9 (some 58), 0)
def hh_119 : zH := ((60, (fun b => if b = 59 then (9, 4) else hh_118.1.2.1 b), 1308), zrow hh_118.2.1 59 (fun _ => 0), zrow hh_118.2.2.1 59 (fun _ => 0), zrow hh_118.2.2.2.1 59 (fun _ => none), 0)
def hh_120 : zH := ((60, hh_119.1.2.1, 1308), hh_119.2.1, hh_119.2.2.1, zup hh_119.2.2.2.1 45 10 (some 59), 0)
def hh_121 : zH := ((61, (fun b => if b = 60 then (9, 4) else hh_120.1.2.1 b), 1312), zrow hh_120.2.1 60 (fun _ => 0), zrow hh_120.2.2.1 60 (fun _ => 0), zrow hh_120.2.2.2.1 60 (fun _ => none), 0)
def hh_122 : zH := ((61, hh_121.1.2.1, 1312), hh_121.2.1, hh_121.2.2.1, zup hh_121.2.2.2.1 45 11 (some 60), 0)
def hh_123 : zH := ((62, (fun b => if b = 61 then (10, 4) else hh_122.1.2.1 b), 1316), zrow hh_122.2.1 61 (fun _ => 0), zrow hh_122.2.2.1 61 (fun _ => 0), zrow hh_122.2.2.2.1 61 (fun _ => none), 0)
def hh_124 : zH := ((62, hh_123.1.2.1, 1316), hh_123.2.1, hh_123.2.2.1, zup hh_123.2.2.2.1 46 0 (some 61), 0)
def hh_125 : zH := ((63, (fun b => if b = 62 then (10, 4) else hh_124.1.2.1 b), 1320), zrow hh_124.2.1 62 (fun _ => 0), zrow hh_124.2.2.1 62 (fun _ => 0), zrow hh_124.2.2.2.1 62 (fun _ => none), 0)
def hh_126 : zH := ((63, hh_125.1.2.1, 1320), hh_125.2.1, hh_125.2.2.1, zup hh_125.2.2.2.1 46 1 (some 62), 0)
def hh_127 : zH := ((64, (fun b => if b = 63 then (10, 4) else hh_126.1.2.1 b), 1324), zrow hh_126.2.1 63 (fun _ => 0), zrow hh_126.2.2.1 63 (fun _ => 0), zrow hh_126.2.2.2.1 63 (fun _ => none), 0)
def hh_128 : zH := ((64, hh_127.1.2.1, 1324), hh_127.2.1, hh_127.2.2.1, zup hh_127.2.2.2.1 46 2 (some 63), 0)
def hh_129 : zH := ((65, (fun b => if b = 64 then (10, 4) else hh_128.1.2.1 b), 1328), zrow hh_128.2.1 64 (fun _ => 0), zrow hh_128.2.2.1 64 (fun _ => 0), zrow hh_128.2.2.2.1 64 (fun _ => none), 0)
def hh_130 : zH := ((65, hh_129.1.2.1, 1328), hh_129.2.1, hh_129.2.2.1, zup hh_129.2.2.2.1 46 3 (some 64), 0)
def hh_131 : zH := ((66, (fun b => if b = 65 then (10, 4) else hh_130.1.2.1 b), 1332), zrow hh_130.2.1 65 (fun _ => 0), zrow hh_130.2.2.1 65 (fun _ => 0), zrow hh_130.2.2.2.1 65 (fun _ => none), 0)
def hh_132 : zH := ((66, hh_131.1.2.1, 1332), hh_131.2.1, hh_131.2.2.1, zup hh_131.2.2.2.1 46 4 (some 65), 0)
def hh_133 : zH := ((67, (fun b => if b = 66 then (0, 4) else hh_132.1.2.1 b), 1336), zrow hh_132.2.1 66 (fun _ => 0), zrow hh_132.2.2.1 66 (fun _ => 0), zrow hh_132.2.2.2.1 66 (fun _ => none), 0)
def hh_134 : zH := ((67, hh_133.1.2.1, 1336), hh_133.2.1, hh_133.2.2.1, zup hh_133.2.2.2.1 47 0 (some 66), 0)
def hh_135 : zH := ((68, (fun b => if b = 67 then (0, 4) else hh_134.1.2.1 b), 1340), zrow hh_134.2.1 67 (fun _ => 0), zrow hh_134.2.2.1 67 (fun _ => 0), zrow hh_134.2.2.2.1 67 (fun _ => none), 0)
def hh_136 : zH := ((68, hh_135.1.2.1, 1340), hh_135.2.1, hh_135.2.2.1, zup hh_135.2.2.2.1 47 1 (some 67), 0)
def hh_137 : zH := ((69, (fun b => if b = 68 then (0, 4) else hh_136.1.2.1 b), 1344), zrow hh_136.2.1 68 (fun _ => 0), zrow hh_136.2.2.1 68 (fun _ => 0), zrow hh_136.2.2.2.1 68 (fun _ => none), 0)
def hh_138 : zH := ((69, hh_137.1.2.1, 1344), hh_137.2.1, hh_137.2.2.1, zup hh_137.2.2.2.1 47 2 (some 68), 0)
def hh_139 : zH := ((70, (fun b => if b = 69 then (0, 4) else hh_138.1.2.1 b), 1348), zrow hh_138.2.1 69 (fun _ => 0), zrow hh_138.2.2.1 69 (fun _ => 0), zrow hh_138.2.2.2.1 69 (fun _ => none), 0)
def hh_140 : zH := ((70, hh_139.1.2.1, 1348), hh_139.2.1, hh_139.2.2.1, zup hh_139.2.2.2.1 47 3 (some 69), 0)
def hh_141 : zH := ((71, (fun b => if b = 70 then (0, 4) else hh_140.1.2.1 b), 1352), zrow hh_140.2.1 70 (fun _ => 0), zrow hh_140.2.2.1 70 (fun _ => 0), zrow hh_140.2.2.2.1 70 (fun _ => none), 0)
def hh_142 : zH := ((71, hh_141.1.2.1, 1352), hh_141.2.1, hh_141.2.2.1, zup hh_141.2.2.2.1 47 4 (some 70), 0)
def hh_143 : zH := ((72, (fun b => if b = 71 then (0, 4) else hh_142.1.2.1 b), 1356), zrow hh_142.2.1 71 (fun _ => 0), zrow hh_142.2.2.1 71 (fun _ => 0), zrow hh_142.2.2.2.1 71 (fun _ => none), 0)
def hh_144 : zH := ((72, hh_143.1.2.1, 1356), hh_143.2.1, hh_143.2.2.1, zup hh_143.2.2.2.1 47 5 (some 71), 0)
def hh_145 : zH := ((73, (fun b => if b = 72 then (0, 4) else hh_144.1.2.1 b), 1360), zrow hh_144.2.1 72 (fun _ => 0), zrow hh_144.2.2.1 72 (fun _ => 0), zrow hh_144.2.2.2.1 72 (fun _ => none), 0)
def hh_146 : zH := ((73, hh_145.1.2.1, 1360), hh_145.2.1, hh_145.2.2.1, zup hh_145.2.2.2.1 47 6 (some 72), 0)
def hh_147 : zH := ((74, (fun b => if b = 73 then (0, 4) else hh_146.1.2.1 b), 1364), zrow hh_146.2.1 73 (fun _ => 0), zrow hh_146.2.2.1 73 (fun _ => 0), zrow hh_146.2.2.2.1 73 (fun _ => none), 0)
def hh_148 : zH := ((74, hh_147.1.2.1, 1364), hh_147.2.1, hh_147.2.2.1, zup hh_147.2.2.2.1 47 7 (some 73), 0)
def hh_149 : zH := ((75, (fun b => if b = 74 then (8, 3) else hh_148.1.2.1 b), 1367), zrow hh_148.2.1 74 (fun _ => 0), zrow hh_148.2.2.1 74 (fun _ => 0), zrow hh_148.2.2.2.1 74 (fun _ => none), 0)
def hh_150 : zH := ((75, hh_149.1.2.1, 1367), hh_149.2.1, hh_149.2.2.1, zup hh_149.2.2.2.1 48 0 (some 74), 0)
def hh_151 : zH := ((76, (fun b => if b = 75 then (8, 3) else hh_150.1.2.1 b), 1370), zrow hh_150.2.1 75 (fun _ => 0), zrow hh_150.2.2.1 75 (fun _ => 0), zrow hh_150.2.2.2.1 75 (fun _ => none), 0)
def hh_152 : zH := ((76, hh_151.1.2.1, 1370), hh_151.2.1, hh_151.2.2.1, zup hh_151.2.2.2.1 48 1 (some 75), 0)
def hh_153 : zH := ((77, (fun b => if b = 76 then (8, 3) else hh_152.1.2.1 b), 1373), zrow hh_152.2.1 76 (fun _ => 0), zrow hh_152.2.2.1 76 (fun _ => 0), zrow hh_152.2.2.2.1 76 (fun _ => none), 0)
def hh_154 : zH := ((77, hh_153.1.2.1, 1373), hh_153.2.1, hh_153.2.2.1, zup hh_153.2.2.2.1 48 2 (some 76), 0)
def hh_155 : zH := ((78, (fun b => if b = 77 then (8, 3) else hh_154.1.2.1 b), 1376), zrow hh_154.2.1 77 (fun _ => 0), zrow hh_154.2.2.1 77 (fun _ => 0), zrow hh_154.2.2.2.1 77 (fun _ => none), 0)
def hh_156 : zH := ((78, hh_155.1.2.1, 1376), hh_155.2.1, hh_155.2.2.1, zup hh_155.2.2.2.1 48 3 (some 77), 0)
def hh_157 : zH := ((79, (fun b => if b = 78 then (8, 3) else hh_156.1.2.1 b), 1379), zrow hh_156.2.1 78 (fun _ => 0), zrow hh_156.2.2.1 78 (fun _ => 0), zrow hh_156.2.2.2.1 78 (fun _ => none), 0)
def hh_158 : zH := ((79, hh_157.1.2.1, 1379), hh_157.2.1, hh_157.2.2.1, zup hh_157.2.2.2.1 48 4 (some 78), 0)
def hh_159 : zH := ((80, (fun b => if b = 79 then (8, 3) else hh_158.1.2.1 b), 1382), zrow hh_158.2.1 79 (fun _ => 0), zrow hh_158.2.2.1 79 (fun _ => 0), zrow hh_158.2.2.2.1 79 (fun _ => none), 0)
def hh_160 : zH := ((80, hh_159.1.2.1, 1382), hh_159.2.1, hh_159.2.2.1, zup hh_159.2.2.2.1 48 5 (some 79), 0)
def hh_161 : zH := ((81, (fun b => if b = 80 then (8, 3) else hh_160.1.2.1 b), 1385), zrow hh_160.2.1 80 (fun _ => 0), zrow hh_160.2.2.1 80 (fun _ => 0), zrow hh_160.2.2.2.1 80 (fun _ => none), 0)
def hh_162 : zH := ((81, hh_161.1.2.1, 1385), hh_161.2.1, hh_161.2.2.1, zup hh_161.2.2.2.1 48 6 (some 80), 0)
def hh_163 : zH := ((82, (fun b => if b = 81 then (8, 3) else hh_162.1.2.1 b), 1388), zrow hh_162.2.1 81 (fun _ => 0), zrow hh_162.2.2.1 81 (fun _ => 0), zrow hh_162.2.2.2.1 81 (fun _ => none), 0)
def hh_164 : zH := ((82, hh_163.1.2.1, 1388), hh_163.2.1, hh_163.2.2.1, zup hh_163.2.2.2.1 48 7 (some 81), 0)
def hh_165 : zH := ((82, hh_164.1.2.1, 1388), hh_164.2.1, hh_164.2.2.1, zup hh_164.2.2.2.1 0 4 (some 42), 0)
def hh_166 : zH := ((83, (fun b => if b = 82 then (5, 13) else hh_165.1.2.1 b), 1401), zrow hh_165.2.1 82 (fun _ => 0), zrow hh_165.2.2.1 82 (fun _ => 0), zrow hh_165.2.2.2.1 82 (fun _ => none), 0)
def hh_167 : zH := ((83, hh_166.1.2.1, 1401), zup hh_166.2.1 82 1 0, hh_166.2.2.1, hh_166.2.2.2.1, 0)
def hh_168 : zH := ((83, hh_167.1.2.1, 1401), zup hh_167.2.1 82 2 0, hh_167.2.2.1, hh_167.2.2.2.1, 0)
def hh_169 : zH := ((83, hh_168.1.2.1, 1401), zup hh_168.2.1 82 3 0, hh_168.2.2.1, hh_168.2.2.2.1, 0)
def hh_170 : zH := ((83, hh_169.1.2.1, 1401), zup hh_169.2.1 82 4 0, hh_169.2.2.1, hh_169.2.2.2.1, 0)
def hh_171 : zH := ((83, hh_170.1.2.1, 1401), zup hh_170.2.1 82 5 0, hh_170.2.2.1, hh_170.2.2.2.1, 0)
def hh_172 : zH := ((84, (fun b => if b = 83 then (15, 20) else hh_171.1.2.1 b), 1421), zrow hh_171.2.1 83 (fun _ => 0), zrow hh_171.2.2.1 83 (fun _ => 0), zrow hh_171.2.2.2.1 83 (fun _ => none), 0)
def hh_173 : zH := ((84, hh_172.1.2.1, 1421), hh_172.2.1, hh_172.2.2.1, zup hh_172.2.2.2.1 82 7 (some 83), 0)
def hh_174 : zH := ((85, (fun b => if b = 84 then (14, 20) else hh_173.1.2.1 b), 1441), zrow hh_173.2.1 84 (fun _ => 0), zrow hh_173.2.2.1 84 (fun _ => 0), zrow hh_173.2.2.2.1 84 (fun _ => none), 0)
def hh_175 : zH := ((85, hh_174.1.2.1, 1441), hh_174.2.1, hh_174.2.2.1, zup hh_174.2.2.2.1 82 8 (some 84), 0)
def hh_176 : zH := ((86, (fun b => if b = 85 then (14, 20) else hh_175.1.2.1 b), 1461), zrow hh_175.2.1 85 (fun _ => 0), zrow hh_175.2.2.1 85 (fun _ => 0), zrow hh_175.2.2.2.1 85 (fun _ => none), 0)
def hh_177 : zH := ((86, hh_176.1.2.1, 1461), hh_176.2.1, hh_176.2.2.1, zup hh_176.2.2.2.1 82 9 (some 85), 0)
def hh_178 : zH := ((86, hh_177.1.2.1, 1461), zup hh_177.2.1 82 10 0, hh_177.2.2.1, hh_177.2.2.2.1, 0)
def hh_179 : zH := ((86, hh_178.1.2.1, 1461), zup hh_178.2.1 82 11 0, hh_178.2.2.1, hh_178.2.2.2.1, 0)
def hh_180 : zH := ((86, hh_179.1.2.1, 1461), zup hh_179.2.1 82 12 (-1), hh_179.2.2.1, hh_179.2.2.2.1, 0)
def hh_181 : zH := ((86, hh_180.1.2.1, 1461), hh_180.2.1, hh_180.2.2.1, zup hh_180.2.2.2.1 82 0 (some 1), 0)
def hh_182 : zH := ((86, hh_181.1.2.1, 1461), hh_181.2.1, hh_181.2.2.1, zup hh_181.2.2.2.1 82 6 (some 42), 0)
def hh_183 : zH := ((86, hh_182.1.2.1, 1461), hh_182.2.1, hh_182.2.2.1, zup hh_182.2.2.2.1 0 5 (some 82), 0)
def hh_184 : zH := ((87, (fun b => if b = 86 then (2, 7) else hh_183.1.2.1 b), 1468), zrow hh_183.2.1 86 (fun _ => 0), zrow hh_183.2.2.1 86 (fun _ => 0), zrow hh_183.2.2.2.1 86 (fun _ => none), 0)
def hh_185 : zH := ((87, hh_184.1.2.1, 1468), zup hh_184.2.1 86 0 0, hh_184.2.2.1, hh_184.2.2.2.1, 0)
def hh_186 : zH := ((87, hh_185.1.2.1, 1468), zup hh_185.2.1 86 1 0, hh_185.2.2.1, hh_185.2.2.2.1, 0)
def hh_187 : zH := ((88, (fun b => if b = 87 then (14, 5) else hh_186.1.2.1 b), 1473), zrow hh_186.2.1 87 (fun _ => 0), zrow hh_186.2.2.1 87 (fun _ => 0), zrow hh_186.2.2.2.1 87 (fun _ => none), 0)
def hh_188 : zH := ((88, hh_187.1.2.1, 1473), hh_187.2.1, hh_187.2.2.1, zup hh_187.2.2.2.1 86 2 (some 87), 0)
def hh_189 : zH := ((89, (fun b => if b = 88 then (14, 5) else hh_188.1.2.1 b), 1478), zrow hh_188.2.1 88 (fun _ => 0), zrow hh_188.2.2.1 88 (fun _ => 0), zrow hh_188.2.2.2.1 88 (fun _ => none), 0)
def hh_190 : zH := ((89, hh_189.1.2.1, 1478), hh_189.2.1, hh_189.2.2.1, zup hh_189.2.2.2.1 86 3 (some 88), 0)
def hh_191 : zH := ((90, (fun b => if b = 89 then (14, 8) else hh_190.1.2.1 b), 1486), zrow hh_190.2.1 89 (fun _ => 0), zrow hh_190.2.2.1 89 (fun _ => 0), zrow hh_190.2.2.2.1 89 (fun _ => none), 0)
def hh_192 : zH := ((90, hh_191.1.2.1, 1486), hh_191.2.1, hh_191.2.2.1, zup hh_191.2.2.2.1 86 4 (some 89), 0)
def hh_193 : zH := ((91, (fun b => if b = 90 then (14, 8) else hh_192.1.2.1 b), 1494), zrow hh_192.2.1 90 (fun _ => 0), zrow hh_192.2.2.1 90 (fun _ => 0), zrow hh_192.2.2.2.1 90 (fun _ => none), 0)
def hh_194 : zH := ((91, hh_193.1.2.1, 1494), hh_193.2.1, hh_193.2.2.1, zup hh_193.2.2.2.1 86 5 (some 90), 0)
def hh_195 : zH := ((92, (fun b => if b = 91 then (14, 8) else hh_194.1.2.1 b), 1502), zrow hh_194.2.1 91 (fun _ => 0), zrow hh_194.2.2.1 91 (fun _ => 0), zrow hh_194.2.2.2.1 91 (fun _ => none), 0)
def hh_196 : zH := ((92, hh_195.1.2.1, 1502), hh_195.2.1, hh_195.2.2.1, zup hh_195.2.2.2.1 86 6 (some 91), 0)
def hh_197 : zH := ((92, hh_196.1.2.1, 1502), hh_196.2.1, hh_196.2.2.1, zup hh_196.2.2.2.1 0 6 (some 86), 0)
def hh_198 : zH := ((93, (fun b => if b = 92 then (7, 6) else hh_197.1.2.1 b), 1508), zrow hh_197.2.1 92 (fun _ => 0), zrow hh_197.2.2.1 92 (fun _ => 0), zrow hh_197.2.2.2.1 92 (fun _ => none), 0)
def hh_199 : zH := ((93, hh_198.1.2.1, 1508), zup hh_198.2.1 92 1 0, hh_198.2.2.1, hh_198.2.2.2.1, 0)
def hh_200 : zH := ((93, hh_199.1.2.1, 1508), zup hh_199.2.1 92 2 0, hh_199.2.2.1, hh_199.2.2.2.1, 0)
def hh_201 : zH := ((93, hh_200.1.2.1, 1508), zup hh_200.2.1 92 3 0, hh_200.2.2.1, hh_200.2.2.2.1, 0)
def hh_202 : zH := ((93, hh_201.1.2.1, 1508), zup hh_201.2.1 92 4 (-2), hh_201.2.2.1, hh_201.2.2.2.1, 0)
def hh_203 : zH := ((94, (fun b => if b = 93 then (14, 1031) else hh_202.1.2.1 b), 2539), zrow hh_202.2.1 93 (fun _ => 0), zrow hh_202.2.2.1 93 (fun _ => 0), zrow hh_202.2.2.2.1 93 (fun _ => none), 0)
def hh_204 : zH := ((94, hh_203.1.2.1, 2539), hh_203.2.1, hh_203.2.2.1, zup hh_203.2.2.2.1 92 5 (some 93), 0)
def hh_205 : zH := ((94, hh_204.1.2.1, 2539), hh_204.2.1, hh_204.2.2.1, zup hh_204.2.2.2.1 92 0 (some 2), 0)
def hh_206 : zH := ((94, hh_205.1.2.1, 2539), hh_205.2.1, hh_205.2.2.1, zup hh_205.2.2.2.1 0 7 (some 92), 0)
def hh_207 : zH := ((95, (fun b => if b = 94 then (6, 7) else hh_206.1.2.1 b), 2546), zrow hh_206.2.1 94 (fun _ => 0), zrow hh_206.2.2.1 94 (fun _ => 0), zrow hh_206.2.2.2.1 94 (fun _ => none), 0)
def hh_208 : zH := ((96, (fun b => if b = 95 then (14, 7) else hh_207.1.2.1 b), 2553), zrow hh_207.2.1 95 (fun _ => 0), zrow hh_207.2.2.1 95 (fun _ => 0), zrow hh_207.2.2.2.1 95 (fun _ => none), 0)
def hh_209 : zH := ((96, hh_208.1.2.1, 2553), hh_208.2.1, hh_208.2.2.1, zup hh_208.2.2.2.1 94 3 (some 95), 0)
def hh_210 : zH := ((96, hh_209.1.2.1, 2553), zup hh_209.2.1 94 4 (-2), hh_209.2.2.1, hh_209.2.2.2.1, 0)
def hh_211 : zH := ((96, hh_210.1.2.1, 2553), zup hh_210.2.1 94 5 0, hh_210.2.2.1, hh_210.2.2.2.1, 0)
def hh_212 : zH := ((96, hh_211.1.2.1, 2553), zup hh_211.2.1 94 6 0, hh_211.2.2.1, hh_211.2.2.2.1, 0)
def hh_213 : zH := ((96, hh_212.1.2.1, 2553), hh_212.2.1, hh_212.2.2.1, zup hh_212.2.2.2.1 94 0 (some 2), 0)
def hh_214 : zH := ((96, hh_213.1.2.1, 2553), hh_213.2.1, hh_213.2.2.1, zup hh_213.2.2.2.1 94 1 (some 86), 0)
def hh_215 : zH := ((96, hh_214.1.2.1, 2553), hh_214.2.1, hh_214.2.2.1, zup hh_214.2.2.2.1 94 2 (some 92), 0)
def hh_216 : zH := ((96, hh_215.1.2.1, 2553), hh_215.2.1, hh_215.2.2.1, zup hh_215.2.2.2.1 0 8 (some 94), 0)
def hh_217 : zH := ((97, (fun b => if b = 96 then (3, 4) else hh_216.1.2.1 b), 2557), zrow hh_216.2.1 96 (fun _ => 0), zrow hh_216.2.2.1 96 (fun _ => 0), zrow hh_216.2.2.2.1 96 (fun _ => none), 0)
def hh_218 : zH := ((98, (fun b => if b = 97 then (14, 7) else hh_217.1.2.1 b), 2564), zrow hh_217.2.1 97 (fun _ => 0), zrow hh_217.2.2.1 97 (fun _ => 0), zrow hh_217.2.2.2.1 97 (fun _ => none), 0)
def hh_219 : zH := ((98, hh_218.1.2.1, 2564), hh_218.2.1, hh_218.2.2.1, zup hh_218.2.2.2.1 96 1 (some 97), 0)
def hh_220 : zH := ((99, (fun b => if b = 98 then (14, 49) else hh_219.1.2.1 b), 2613), zrow hh_219.2.1 98 (fun _ => 0), zrow hh_219.2.2.1 98 (fun _ => 0), zrow hh_219.2.2.2.1 98 (fun _ => none), 0)
def hh_221 : zH := ((99, hh_220.1.2.1, 2613), hh_220.2.1, hh_220.2.2.1, zup hh_220.2.2.2.1 96 2 (some 98), 0)
def hh_222 : zH := ((100, (fun b => if b = 99 then (14, 896) else hh_221.1.2.1 b), 3509), zrow hh_221.2.1 99 (fun _ => 0), zrow hh_221.2.2.1 99 (fun _ => 0), zrow hh_221.2.2.2.1 99 (fun _ => none), 0)
def hh_223 : zH := ((100, hh_222.1.2.1, 3509), hh_222.2.1, hh_222.2.2.1, zup hh_222.2.2.2.1 96 3 (some 99), 0)
def hh_224 : zH := ((100, hh_223.1.2.1, 3509), hh_223.2.1, hh_223.2.2.1, zup hh_223.2.2.2.1 96 0 (some 2), 0)
def hh_225 : zH := ((100, hh_224.1.2.1, 3509), hh_224.2.1, hh_224.2.2.1, zup hh_224.2.2.2.1 0 9 (some 96), 0)
def hh_226 : zH := ((101, (fun b => if b = 100 then (1, 5) else hh_225.1.2.1 b), 3514), zrow hh_225.2.1 100 (fun _ => 0), zrow hh_225.2.2.1 100 (fun _ => 0), zrow hh_225.2.2.2.1 100 (fun _ => none), 0)
def hh_227 : zH := ((102, (fun b => if b = 101 then (14, 40) else hh_226.1.2.1 b), 3554), zrow hh_226.2.1 101 (fun _ => 0), zrow hh_226.2.2.1 101 (fun _ => 0), zrow hh_226.2.2.2.1 101 (fun _ => none), 0)
def hh_228 : zH := ((102, hh_227.1.2.1, 3554), hh_227.2.1, hh_227.2.2.1, zup hh_227.2.2.2.1 100 0 (some 101), 0)
def hh_229 : zH := ((103, (fun b => if b = 102 then (14, 8) else hh_228.1.2.1 b), 3562), zrow hh_228.2.1 102 (fun _ => 0), zrow hh_228.2.2.1 102 (fun _ => 0), zrow hh_228.2.2.2.1 102 (fun _ => none), 0)
def hh_230 : zH := ((103, hh_229.1.2.1, 3562), hh_229.2.1, hh_229.2.2.1, zup hh_229.2.2.2.1 100 1 (some 102), 0)
def hh_231 : zH := ((103, hh_230.1.2.1, 3562), zup hh_230.2.1 100 2 0, hh_230.2.2.1, hh_230.2.2.2.1, 0)
def hh_232 : zH := ((103, hh_231.1.2.1, 3562), zup hh_231.2.1 100 3 0, hh_231.2.2.1, hh_231.2.2.2.1, 0)
def hh_233 : zH := ((104, (fun b => if b = 103 then (14, 288) else hh_232.1.2.1 b), 3850), zrow hh_232.2.1 103 (fun _ => 0), zrow hh_232.2.2.1 103 (fun _ => 0), zrow hh_232.2.2.2.1 103 (fun _ => none), 0)
def hh_234 : zH := ((104, hh_233.1.2.1, 3850), hh_233.2.1, hh_233.2.2.1, zup hh_233.2.2.2.1 100 4 (some 103), 0)
def hh_235 : zH := ((104, hh_234.1.2.1, 3850), hh_234.2.1, hh_234.2.2.1, zup hh_234.2.2.2.1 0 10 (some 100), 0)
def hh_236 : zH := ((105, (fun b => if b = 104 then (17, 12) else hh_235.1.2.1 b), 3862), zrow hh_235.2.1 104 (fun _ => 0), zrow hh_235.2.2.1 104 (fun _ => 0), zrow hh_235.2.2.2.1 104 (fun _ => none), 0)
def hh_237 : zH := ((105, hh_236.1.2.1, 3862), hh_236.2.1, hh_236.2.2.1, zup hh_236.2.2.2.1 0 11 (some 104), 0)
def hh_238 : zH := ((105, hh_237.1.2.1, 3862), zup hh_237.2.1 0 12 0, hh_237.2.2.1, hh_237.2.2.2.1, 0)
def hh_239 : zH := ((105, hh_238.1.2.1, 3862), zup hh_238.2.1 0 13 0, hh_238.2.2.1, hh_238.2.2.2.1, 0)
def hh_240 : zH := ((106, (fun b => if b = 105 then (17, 3) else hh_239.1.2.1 b), 3865), zrow hh_239.2.1 105 (fun _ => 0), zrow hh_239.2.2.1 105 (fun _ => 0), zrow hh_239.2.2.2.1 105 (fun _ => none), 0)
def hh_241 : zH := ((106, hh_240.1.2.1, 3865), hh_240.2.1, hh_240.2.2.1, zup hh_240.2.2.2.1 0 14 (some 105), 0)
def hh_242 : zH := ((106, hh_241.1.2.1, 3865), zup hh_241.2.1 0 15 0, hh_241.2.2.1, hh_241.2.2.2.1, 0)
def hh_243 : zH := ((107, (fun b => if b = 106 then (2, 7) else hh_242.1.2.1 b), 3872), zrow hh_242.2.1 106 (fun _ => 0), zrow hh_242.2.2.1 106 (fun _ => 0), zrow hh_242.2.2.2.1 106 (fun _ => none), 0)
def hh_244 : zH := ((107, hh_243.1.2.1, 3872), zup hh_243.2.1 106 0 0, hh_243.2.2.1, hh_243.2.2.2.1, 0)
def hh_245 : zH := ((107, hh_244.1.2.1, 3872), zup hh_244.2.1 106 1 0, hh_244.2.2.1, hh_244.2.2.2.1, 0)
def hh_246 : zH := ((108, (fun b => if b = 107 then (14, 5) else hh_245.1.2.1 b), 3877), zrow hh_245.2.1 107 (fun _ => 0), zrow hh_245.2.2.1 107 (fun _ => 0), zrow hh_245.2.2.2.1 107 (fun _ => none), 0)
def hh_247 : zH := ((108, hh_246.1.2.1, 3877), hh_246.2.1, hh_246.2.2.1, zup hh_246.2.2.2.1 106 2 (some 107), 0)
def hh_248 : zH := ((109, (fun b => if b = 108 then (14, 5) else hh_247.1.2.1 b), 3882), zrow hh_247.2.1 108 (fun _ => 0), zrow hh_247.2.2.1 108 (fun _ => 0), zrow hh_247.2.2.2.1 108 (fun _ => none), 0)
def hh_249 : zH := ((109, hh_248.1.2.1, 3882), hh_248.2.1, hh_248.2.2.1, zup hh_248.2.2.2.1 106 3 (some 108), 0)
def hh_250 : zH := ((110, (fun b => if b = 109 then (14, 8) else hh_249.1.2.1 b), 3890), zrow hh_249.2.1 109 (fun _ => 0), zrow hh_249.2.2.1 109 (fun _ => 0), zrow hh_249.2.2.2.1 109 (fun _ => none), 0)
def hh_251 : zH := ((110, hh_250.1.2.1, 3890), hh_250.2.1, hh_250.2.2.1, zup hh_250.2.2.2.1 106 4 (some 109), 0)
def hh_252 : zH := ((111, (fun b => if b = 110 then (14, 8) else hh_251.1.2.1 b), 3898), zrow hh_251.2.1 110 (fun _ => 0), zrow hh_251.2.2.1 110 (fun _ => 0), zrow hh_251.2.2.2.1 110 (fun _ => none), 0)
def hh_253 : zH := ((111, hh_252.1.2.1, 3898), hh_252.2.1, hh_252.2.2.1, zup hh_252.2.2.2.1 106 5 (some 110), 0)
def hh_254 : zH := ((112, (fun b => if b = 111 then (14, 8) else hh_253.1.2.1 b), 3906), zrow hh_253.2.1 111 (fun _ => 0), zrow hh_253.2.2.1 111 (fun _ => 0), zrow hh_253.2.2.2.1 111 (fun _ => none), 0)
def hh_255 : zH := ((112, hh_254.1.2.1, 3906), hh_254.2.1, hh_254.2.2.1, zup hh_254.2.2.2.1 106 6 (some 111), 0)
def hh_256 : zH := ((112, hh_255.1.2.1, 3906), hh_255.2.1, hh_255.2.2.1, zup hh_255.2.2.2.1 104 0 (some 106), 0)
def hh_257 : zH := ((113, (fun b => if b = 112 then (2, 7) else hh_256.1.2.1 b), 3913), zrow hh_256.2.1 112 (fun _ => 0), zrow hh_256.2.2.1 112 (fun _ => 0), zrow hh_256.2.2.2.1 112 (fun _ => none), 0)
def hh_258 : zH := ((113, hh_257.1.2.1, 3913), zup hh_257.2.1 112 0 0, hh_257.2.2.1, hh_257.2.2.2.1, 0)
def hh_259 : zH := ((113, hh_258.1.2.1, 3913), zup hh_258.2.1 112 1 0, hh_258.2.2.1, hh_258.2.2.2.1, 0)
def hh_260 : zH := ((114, (fun b => if b = 113 then (14, 5) else hh_259.1.2.1 b), 3918), zrow hh_259.2.1 113 (fun _ => 0), zrow hh_259.2.2.1 113 (fun _ => 0), zrow hh_259.2.2.2.1 113 (fun _ => none), 0)
def hh_261 : zH := ((114, hh_260.1.2.1, 3918), hh_260.2.1, hh_260.2.2.1, zup hh_260.2.2.2.1 112 2 (some 113), 0)
def hh_262 : zH := ((115, (fun b => if b = 114 then (14, 5) else hh_261.1.2.1 b), 3923), zrow hh_261.2.1 114 (fun _ => 0), zrow hh_261.2.2.1 114 (fun _ => 0), zrow hh_261.2.2.2.1 114 (fun _ => none), 0)
def hh_263 : zH := ((115, hh_262.1.2.1, 3923), hh_262.2.1, hh_262.2.2.1, zup hh_262.2.2.2.1 112 3 (some 114), 0)
def hh_264 : zH := ((116, (fun b => if b = 115 then (14, 8) else hh_263.1.2.1 b), 3931), zrow hh_263.2.1 115 (fun _ => 0), zrow hh_263.2.2.1 115 (fun _ => 0), zrow hh_263.2.2.2.1 115 (fun _ => none), 0)
def hh_265 : zH := ((116, hh_264.1.2.1, 3931), hh_264.2.1, hh_264.2.2.1, zup hh_264.2.2.2.1 112 4 (some 115), 0)
def hh_266 : zH := ((117, (fun b => if b = 116 then (14, 8) else hh_265.1.2.1 b), 3939), zrow hh_265.2.1 116 (fun _ => 0), zrow hh_265.2.2.1 116 (fun _ => 0), zrow hh_265.2.2.2.1 116 (fun _ => none), 0)
def hh_267 : zH := ((117, hh_266.1.2.1, 3939), hh_266.2.1, hh_266.2.2.1, zup hh_266.2.2.2.1 112 5 (some 116), 0)
def hh_268 : zH := ((118, (fun b => if b = 117 then (14, 8) else hh_267.1.2.1 b), 3947), zrow hh_267.2.1 117 (fun _ => 0), zrow hh_267.2.2.1 117 (fun _ => 0), zrow hh_267.2.2.2.1 117 (fun _ => none), 0)
def hh_269 : zH := ((118, hh_268.1.2.1, 3947), hh_268.2.1, hh_268.2.2.1, zup hh_268.2.2.2.1 112 6 (some 117), 0)
def hh_270 : zH := ((118, hh_269.1.2.1, 3947), hh_269.2.1, hh_269.2.2.1, zup hh_269.2.2.2.1 104 1 (some 112), 0)
def hh_271 : zH := ((119, (fun b => if b = 118 then (2, 7) else hh_270.1.2.1 b), 3954), zrow hh_270.2.1 118 (fun _ => 0), zrow hh_270.2.2.1 118 (fun _ => 0), zrow hh_270.2.2.2.1 118 (fun _ => none), 0)
def hh_272 : zH := ((119, hh_271.1.2.1, 3954), zup hh_271.2.1 118 0 0, hh_271.2.2.1, hh_271.2.2.2.1, 0)
def hh_273 : zH := ((119, hh_272.1.2.1, 3954), zup hh_272.2.1 118 1 0, hh_272.2.2.1, hh_272.2.2.2.1, 0)
def hh_274 : zH := ((120, (fun b => if b = 119 then (14, 5) else hh_273.1.2.1 b), 3959), zrow hh_273.2.1 119 (fun _ => 0), zrow hh_273.2.2.1 119 (fun _ => 0), zrow hh_273.2.2.2.1 119 (fun _ => none), 0)
def hh_275 : zH := ((120, hh_274.1.2.1, 3959), hh_274.2.1, hh_274.2.2.1, zup hh_274.2.2.2.1 118 2 (some 119), 0)
def hh_276 : zH := ((121, (fun b => if b = 120 then (14, 5) else hh_275.1.2.1 b), 3964), zrow hh_275.2.1 120 (fun _ => 0), zrow hh_275.2.2.1 120 (fun _ => 0), zrow hh_275.2.2.2.1 120 (fun _ => none), 0)
def hh_277 : zH := ((121, hh_276.1.2.1, 3964), hh_276.2.1, hh_276.2.2.1, zup hh_276.2.2.2.1 118 3 (some 120), 0)
def hh_278 : zH := ((122, (fun b => if b = 121 then (14, 8) else hh_277.1.2.1 b), 3972), zrow hh_277.2.1 121 (fun _ => 0), zrow hh_277.2.2.1 121 (fun _ => 0), zrow hh_277.2.2.2.1 121 (fun _ => none), 0)
def hh_279 : zH := ((122, hh_278.1.2.1, 3972), hh_278.2.1, hh_278.2.2.1, zup hh_278.2.2.2.1 118 4 (some 121), 0)
def hh_280 : zH := ((123, (fun b => if b = 122 then (14, 8) else hh_279.1.2.1 b), 3980), zrow hh_279.2.1 122 (fun _ => 0), zrow hh_279.2.2.1 122 (fun _ => 0), zrow hh_279.2.2.2.1 122 (fun _ => none), 0)
def hh_281 : zH := ((123, hh_280.1.2.1, 3980), hh_280.2.1, hh_280.2.2.1, zup hh_280.2.2.2.1 118 5 (some 122), 0)
def hh_282 : zH := ((124, (fun b => if b = 123 then (14, 8) else hh_281.1.2.1 b), 3988), zrow hh_281.2.1 123 (fun _ => 0), zrow hh_281.2.2.1 123 (fun _ => 0), zrow hh_281.2.2.2.1 123 (fun _ => none), 0)
def hh_283 : zH := ((124, hh_282.1.2.1, 3988), hh_282.2.1, hh_282.2.2.1, zup hh_282.2.2.2.1 118 6 (some 123), 0)
def hh_284 : zH := ((124, hh_283.1.2.1, 3988), hh_283.2.1, hh_283.2.2.1, zup hh_283.2.2.2.1 104 2 (some 118), 0)
def hh_285 : zH := ((125, (fun b => if b = 124 then (2, 7) else hh_284.1.2.1 b), 3995), zrow hh_284.2.1 124 (fun _ => 0), zrow hh_284.2.2.1 124 (fun _ => 0), zrow hh_284.2.2.2.1 124 (fun _ => none), 0)
def hh_286 : zH := ((125, hh_285.1.2.1, 3995), zup hh_285.2.1 124 0 0, hh_285.2.2.1, hh_285.2.2.2.1, 0)
def hh_287 : zH := ((125, hh_286.1.2.1, 3995), zup hh_286.2.1 124 1 0, hh_286.2.2.1, hh_286.2.2.2.1, 0)
def hh_288 : zH := ((126, (fun b => if b = 125 then (14, 5) else hh_287.1.2.1 b), 4000), zrow hh_287.2.1 125 (fun _ => 0), zrow hh_287.2.2.1 125 (fun _ => 0), zrow hh_287.2.2.2.1 125 (fun _ => none), 0)
def hh_289 : zH := ((126, hh_288.1.2.1, 4000), hh_288.2.1, hh_288.2.2.1, zup hh_288.2.2.2.1 124 2 (some 125), 0)
def hh_290 : zH := ((127, (fun b => if b = 126 then (14, 5) else hh_289.1.2.1 b), 4005), zrow hh_289.2.1 126 (fun _ => 0), zrow hh_289.2.2.1 126 (fun _ => 0), zrow hh_289.2.2.2.1 126 (fun _ => none), 0)
def hh_291 : zH := ((127, hh_290.1.2.1, 4005), hh_290.2.1, hh_290.2.2.1, zup hh_290.2.2.2.1 124 3 (some 126), 0)
def hh_292 : zH := ((128, (fun b => if b = 127 then (14, 8) else hh_291.1.2.1 b), 4013), zrow hh_291.2.1 127 (fun _ => 0), zrow hh_291.2.2.1 127 (fun _ => 0), zrow hh_291.2.2.2.1 127 (fun _ => none), 0)
def hh_293 : zH := ((128, hh_292.1.2.1, 4013), hh_292.2.1, hh_292.2.2.1, zup hh_292.2.2.2.1 124 4 (some 127), 0)
def hh_294 : zH := ((129, (fun b => if b = 128 then (14, 8) else hh_293.1.2.1 b), 4021), zrow hh_293.2.1 128 (fun _ => 0), zrow hh_293.2.2.1 128 (fun _ => 0), zrow hh_293.2.2.2.1 128 (fun _ => none), 0)
def hh_295 : zH := ((129, hh_294.1.2.1, 4021), hh_294.2.1, hh_294.2.2.1, zup hh_294.2.2.2.1 124 5 (some 128), 0)
def hh_296 : zH := ((130, (fun b => if b = 129 then (14, 8) else hh_295.1.2.1 b), 4029), zrow hh_295.2.1 129 (fun _ => 0), zrow hh_295.2.2.1 129 (fun _ => 0), zrow hh_295.2.2.2.1 129 (fun _ => none), 0)
def hh_297 : zH := ((130, hh_296.1.2.1, 4029), hh_296.2.1, hh_296.2.2.1, zup hh_296.2.2.2.1 124 6 (some 129), 0)
def hh_298 : zH := ((130, hh_297.1.2.1, 4029), hh_297.2.1, hh_297.2.2.1, zup hh_297.2.2.2.1 104 3 (some 124), 0)
def hh_299 : zH := ((131, (fun b => if b = 130 then (2, 7) else hh_298.1.2.1 b), 4036), zrow hh_298.2.1 130 (fun _ => 0), zrow hh_298.2.2.1 130 (fun _ => 0), zrow hh_298.2.2.2.1 130 (fun _ => none), 0)
def hh_300 : zH := ((131, hh_299.1.2.1, 4036), zup hh_299.2.1 130 0 0, hh_299.2.2.1, hh_299.2.2.2.1, 0)
def hh_301 : zH := ((131, hh_300.1.2.1, 4036), zup hh_300.2.1 130 1 0, hh_300.2.2.1, hh_300.2.2.2.1, 0)
def hh_302 : zH := ((132, (fun b => if b = 131 then (14, 5) else hh_301.1.2.1 b), 4041), zrow hh_301.2.1 131 (fun _ => 0), zrow hh_301.2.2.1 131 (fun _ => 0), zrow hh_301.2.2.2.1 131 (fun _ => none), 0)
def hh_303 : zH := ((132, hh_302.1.2.1, 4041), hh_302.2.1, hh_302.2.2.1, zup hh_302.2.2.2.1 130 2 (some 131), 0)
def hh_304 : zH := ((133, (fun b => if b = 132 then (14, 5) else hh_303.1.2.1 b), 4046), zrow hh_303.2.1 132 (fun _ => 0), zrow hh_303.2.2.1 132 (fun _ => 0), zrow hh_303.2.2.2.1 132 (fun _ => none), 0)
def hh_305 : zH := ((133, hh_304.1.2.1, 4046), hh_304.2.1, hh_304.2.2.1, zup hh_304.2.2.2.1 130 3 (some 132), 0)
def hh_306 : zH := ((134, (fun b => if b = 133 then (14, 8) else hh_305.1.2.1 b), 4054), zrow hh_305.2.1 133 (fun _ => 0), zrow hh_305.2.2.1 133 (fun _ => 0), zrow hh_305.2.2.2.1 133 (fun _ => none), 0)
def hh_307 : zH := ((134, hh_306.1.2.1, 4054), hh_306.2.1, hh_306.2.2.1, zup hh_306.2.2.2.1 130 4 (some 133), 0)
def hh_308 : zH := ((135, (fun b => if b = 134 then (14, 8) else hh_307.1.2.1 b), 4062), zrow hh_307.2.1 134 (fun _ => 0), zrow hh_307.2.2.1 134 (fun _ => 0), zrow hh_307.2.2.2.1 134 (fun _ => none), 0)
def hh_309 : zH := ((135, hh_308.1.2.1, 4062), hh_308.2.1, hh_308.2.2.1, zup hh_308.2.2.2.1 130 5 (some 134), 0)
def hh_310 : zH := ((136, (fun b => if b = 135 then (14, 8) else hh_309.1.2.1 b), 4070), zrow hh_309.2.1 135 (fun _ => 0), zrow hh_309.2.2.1 135 (fun _ => 0), zrow hh_309.2.2.2.1 135 (fun _ => none), 0)
def hh_311 : zH := ((136, hh_310.1.2.1, 4070), hh_310.2.1, hh_310.2.2.1, zup hh_310.2.2.2.1 130 6 (some 135), 0)
def hh_312 : zH := ((136, hh_311.1.2.1, 4070), hh_311.2.1, hh_311.2.2.1, zup hh_311.2.2.2.1 104 4 (some 130), 0)
def hh_313 : zH := ((137, (fun b => if b = 136 then (2, 7) else hh_312.1.2.1 b), 4077), zrow hh_312.2.1 136 (fun _ => 0), zrow hh_312.2.2.1 136 (fun _ => 0), zrow hh_312.2.2.2.1 136 (fun _ => none), 0)
def hh_314 : zH := ((137, hh_313.1.2.1, 4077), zup hh_313.2.1 136 0 0, hh_313.2.2.1, hh_313.2.2.2.1, 0)
def hh_315 : zH := ((137, hh_314.1.2.1, 4077), zup hh_314.2.1 136 1 0, hh_314.2.2.1, hh_314.2.2.2.1, 0)
def hh_316 : zH := ((138, (fun b => if b = 137 then (14, 5) else hh_315.1.2.1 b), 4082), zrow hh_315.2.1 137 (fun _ => 0), zrow hh_315.2.2.1 137 (fun _ => 0), zrow hh_315.2.2.2.1 137 (fun _ => none), 0)
def hh_317 : zH := ((138, hh_316.1.2.1, 4082), hh_316.2.1, hh_316.2.2.1, zup hh_316.2.2.2.1 136 2 (some 137), 0)
def hh_318 : zH := ((139, (fun b => if b = 138 then (14, 5) else hh_317.1.2.1 b), 4087), zrow hh_317.2.1 138 (fun _ => 0), zrow hh_317.2.2.1 138 (fun _ => 0), zrow hh_317.2.2.2.1 138 (fun _ => none), 0)
def hh_319 : zH := ((139, hh_318.1.2.1, 4087), hh_318.2.1, hh_318.2.2.1, zup hh_318.2.2.2.1 136 3 (some 138), 0)
def hh_320 : zH := ((140, (fun b => if b = 139 then (14, 8) else hh_319.1.2.1 b), 4095), zrow hh_319.2.1 139 (fun _ => 0), zrow hh_319.2.2.1 139 (fun _ => 0), zrow hh_319.2.2.2.1 139 (fun _ => none), 0)
def hh_321 : zH := ((140, hh_320.1.2.1, 4095), hh_320.2.1, hh_320.2.2.1, zup hh_320.2.2.2.1 136 4 (some 139), 0)
def hh_322 : zH := ((141, (fun b => if b = 140 then (14, 8) else hh_321.1.2.1 b), 4103), zrow hh_321.2.1 140 (fun _ => 0), zrow hh_321.2.2.1 140 (fun _ => 0), zrow hh_321.2.2.2.1 140 (fun _ => none), 0)
def hh_323 : zH := ((141, hh_322.1.2.1, 4103), hh_322.2.1, hh_322.2.2.1, zup hh_322.2.2.2.1 136 5 (some 140), 0)
def hh_324 : zH := ((142, (fun b => if b = 141 then (14, 8) else hh_323.1.2.1 b), 4111), zrow hh_323.2.1 141 (fun _ => 0), zrow hh_323.2.2.1 141 (fun _ => 0), zrow hh_323.2.2.2.1 141 (fun _ => none), 0)
def hh_325 : zH := ((142, hh_324.1.2.1, 4111), hh_324.2.1, hh_324.2.2.1, zup hh_324.2.2.2.1 136 6 (some 141), 0)
def hh_326 : zH := ((142, hh_325.1.2.1, 4111), hh_325.2.1, hh_325.2.2.1, zup hh_325.2.2.2.1 104 5 (some 136), 0)
def hh_327 : zH := ((143, (fun b => if b = 142 then (2, 7) else hh_326.1.2.1 b), 4118), zrow hh_326.2.1 142 (fun _ => 0), zrow hh_326.2.2.1 142 (fun _ => 0), zrow hh_326.2.2.2.1 142 (fun _ => none), 0)
def hh_328 : zH := ((143, hh_327.1.2.1, 4118), zup hh_327.2.1 142 0 0, hh_327.2.2.1, hh_327.2.2.2.1, 0)
def hh_329 : zH := ((143, hh_328.1.2.1, 4118), zup hh_328.2.1 142 1 0, hh_328.2.2.1, hh_328.2.2.2.1, 0)
def hh_330 : zH := ((144, (fun b => if b = 143 then (14, 5) else hh_329.1.2.1 b), 4123), zrow hh_329.2.1 143 (fun _ => 0), zrow hh_329.2.2.1 143 (fun _ => 0), zrow hh_329.2.2.2.1 143 (fun _ => none), 0)
def hh_331 : zH := ((144, hh_330.1.2.1, 4123), hh_330.2.1, hh_330.2.2.1, zup hh_330.2.2.2.1 142 2 (some 143), 0)
def hh_332 : zH := ((145, (fun b => if b = 144 then (14, 5) else hh_331.1.2.1 b), 4128), zrow hh_331.2.1 144 (fun _ => 0), zrow hh_331.2.2.1 144 (fun _ => 0), zrow hh_331.2.2.2.1 144 (fun _ => none), 0)
def hh_333 : zH := ((145, hh_332.1.2.1, 4128), hh_332.2.1, hh_332.2.2.1, zup hh_332.2.2.2.1 142 3 (some 144), 0)
def hh_334 : zH := ((146, (fun b => if b = 145 then (14, 8) else hh_333.1.2.1 b), 4136), zrow hh_333.2.1 145 (fun _ => 0), zrow hh_333.2.2.1 145 (fun _ => 0), zrow hh_333.2.2.2.1 145 (fun _ => none), 0)
def hh_335 : zH := ((146, hh_334.1.2.1, 4136), hh_334.2.1, hh_334.2.2.1, zup hh_334.2.2.2.1 142 4 (some 145), 0)
def hh_336 : zH := ((147, (fun b => if b = 146 then (14, 8) else hh_335.1.2.1 b), 4144), zrow hh_335.2.1 146 (fun _ => 0), zrow hh_335.2.2.1 146 (fun _ => 0), zrow hh_335.2.2.2.1 146 (fun _ => none), 0)
def hh_337 : zH := ((147, hh_336.1.2.1, 4144), hh_336.2.1, hh_336.2.2.1, zup hh_336.2.2.2.1 142 5 (some 146), 0)
def hh_338 : zH := ((148, (fun b => if b = 147 then (14, 8) else hh_337.1.2.1 b), 4152), zrow hh_337.2.1 147 (fun _ => 0), zrow hh_337.2.2.1 147 (fun _ => 0), zrow hh_337.2.2.2.1 147 (fun _ => none), 0)
def hh_339 : zH := ((148, hh_338.1.2.1, 4152), hh_338.2.1, hh_338.2.2.1, zup hh_338.2.2.2.1 142 6 (some 147), 0)
def hh_340 : zH := ((148, hh_339.1.2.1, 4152), hh_339.2.1, hh_339.2.2.1, zup hh_339.2.2.2.1 104 6 (some 142), 0)
def hh_341 : zH := ((149, (fun b => if b = 148 then (2, 7) else hh_340.1.2.1 b), 4159), zrow hh_340.2.1 148 (fun _ => 0), zrow hh_340.2.2.1 148 (fun _ => 0), zrow hh_340.2.2.2.1 148 (fun _ => none), 0)
def hh_342 : zH := ((149, hh_341.1.2.1, 4159), zup hh_341.2.1 148 0 0, hh_341.2.2.1, hh_341.2.2.2.1, 0)
def hh_343 : zH := ((149, hh_342.1.2.1, 4159), zup hh_342.2.1 148 1 0, hh_342.2.2.1, hh_342.2.2.2.1, 0)
def hh_344 : zH := ((150, (fun b => if b = 149 then (14, 5) else hh_343.1.2.1 b), 4164), zrow hh_343.2.1 149 (fun _ => 0), zrow hh_343.2.2.1 149 (fun _ => 0), zrow hh_343.2.2.2.1 149 (fun _ => none), 0)
def hh_345 : zH := ((150, hh_344.1.2.1, 4164), hh_344.2.1, hh_344.2.2.1, zup hh_344.2.2.2.1 148 2 (some 149), 0)
def hh_346 : zH := ((151, (fun b => if b = 150 then (14, 5) else hh_345.1.2.1 b), 4169), zrow hh_345.2.1 150 (fun _ => 0), zrow hh_345.2.2.1 150 (fun _ => 0), zrow hh_345.2.2.2.1 150 (fun _ => none), 0)
def hh_347 : zH := ((151, hh_346.1.2.1, 4169), hh_346.2.1, hh_346.2.2.1, zup hh_346.2.2.2.1 148 3 (some 150), 0)
def hh_348 : zH := ((152, (fun b => if b = 151 then (14, 8) else hh_347.1.2.1 b), 4177), zrow hh_347.2.1 151 (fun _ => 0), zrow hh_347.2.2.1 151 (fun _ => 0), zrow hh_347.2.2.2.1 151 (fun _ => none), 0)
def hh_349 : zH := ((152, hh_348.1.2.1, 4177), hh_348.2.1, hh_348.2.2.1, zup hh_348.2.2.2.1 148 4 (some 151), 0)
def hh_350 : zH := ((153, (fun b => if b = 152 then (14, 8) else hh_349.1.2.1 b), 4185), zrow hh_349.2.1 152 (fun _ => 0), zrow hh_349.2.2.1 152 (fun _ => 0), zrow hh_349.2.2.2.1 152 (fun _ => none), 0)
def hh_351 : zH := ((153, hh_350.1.2.1, 4185), hh_350.2.1, hh_350.2.2.1, zup hh_350.2.2.2.1 148 5 (some 152), 0)
def hh_352 : zH := ((154, (fun b => if b = 153 then (14, 8) else hh_351.1.2.1 b), 4193), zrow hh_351.2.1 153 (fun _ => 0), zrow hh_351.2.2.1 153 (fun _ => 0), zrow hh_351.2.2.2.1 153 (fun _ => none), 0)
def hh_353 : zH := ((154, hh_352.1.2.1, 4193), hh_352.2.1, hh_352.2.2.1, zup hh_352.2.2.2.1 148 6 (some 153), 0)
def hh_354 : zH := ((154, hh_353.1.2.1, 4193), hh_353.2.1, hh_353.2.2.1, zup hh_353.2.2.2.1 104 7 (some 148), 0)
def hh_355 : zH := ((155, (fun b => if b = 154 then (2, 7) else hh_354.1.2.1 b), 4200), zrow hh_354.2.1 154 (fun _ => 0), zrow hh_354.2.2.1 154 (fun _ => 0), zrow hh_354.2.2.2.1 154 (fun _ => none), 0)
def hh_356 : zH := ((155, hh_355.1.2.1, 4200), zup hh_355.2.1 154 0 0, hh_355.2.2.1, hh_355.2.2.2.1, 0)
def hh_357 : zH := ((155, hh_356.1.2.1, 4200), zup hh_356.2.1 154 1 0, hh_356.2.2.1, hh_356.2.2.2.1, 0)
def hh_358 : zH := ((156, (fun b => if b = 155 then (14, 5) else hh_357.1.2.1 b), 4205), zrow hh_357.2.1 155 (fun _ => 0), zrow hh_357.2.2.1 155 (fun _ => 0), zrow hh_357.2.2.2.1 155 (fun _ => none), 0)
def hh_359 : zH := ((156, hh_358.1.2.1, 4205), hh_358.2.1, hh_358.2.2.1, zup hh_358.2.2.2.1 154 2 (some 155), 0)
def hh_360 : zH := ((157, (fun b => if b = 156 then (14, 5) else hh_359.1.2.1 b), 4210), zrow hh_359.2.1 156 (fun _ => 0), zrow hh_359.2.2.1 156 (fun _ => 0), zrow hh_359.2.2.2.1 156 (fun _ => none), 0)
def hh_361 : zH := ((157, hh_360.1.2.1, 4210), hh_360.2.1, hh_360.2.2.1, zup hh_360.2.2.2.1 154 3 (some 156), 0)
def hh_362 : zH := ((158, (fun b => if b = 157 then (14, 8) else hh_361.1.2.1 b), 4218), zrow hh_361.2.1 157 (fun _ => 0), zrow hh_361.2.2.1 157 (fun _ => 0), zrow hh_361.2.2.2.1 157 (fun _ => none), 0)
def hh_363 : zH := ((158, hh_362.1.2.1, 4218), hh_362.2.1, hh_362.2.2.1, zup hh_362.2.2.2.1 154 4 (some 157), 0)
def hh_364 : zH := ((159, (fun b => if b = 158 then (14, 8) else hh_363.1.2.1 b), 4226), zrow hh_363.2.1 158 (fun _ => 0), zrow hh_363.2.2.1 158 (fun _ => 0), zrow hh_363.2.2.2.1 158 (fun _ => none), 0)
def hh_365 : zH := ((159, hh_364.1.2.1, 4226), hh_364.2.1, hh_364.2.2.1, zup hh_364.2.2.2.1 154 5 (some 158), 0)
def hh_366 : zH := ((160, (fun b => if b = 159 then (14, 8) else hh_365.1.2.1 b), 4234), zrow hh_365.2.1 159 (fun _ => 0), zrow hh_365.2.2.1 159 (fun _ => 0), zrow hh_365.2.2.2.1 159 (fun _ => none), 0)
def hh_367 : zH := ((160, hh_366.1.2.1, 4234), hh_366.2.1, hh_366.2.2.1, zup hh_366.2.2.2.1 154 6 (some 159), 0)
def hh_368 : zH := ((160, hh_367.1.2.1, 4234), hh_367.2.1, hh_367.2.2.1, zup hh_367.2.2.2.1 104 8 (some 154), 0)
def hh_369 : zH := ((161, (fun b => if b = 160 then (2, 7) else hh_368.1.2.1 b), 4241), zrow hh_368.2.1 160 (fun _ => 0), zrow hh_368.2.2.1 160 (fun _ => 0), zrow hh_368.2.2.2.1 160 (fun _ => none), 0)
def hh_370 : zH := ((161, hh_369.1.2.1, 4241), zup hh_369.2.1 160 0 0, hh_369.2.2.1, hh_369.2.2.2.1, 0)
def hh_371 : zH := ((161, hh_370.1.2.1, 4241), zup hh_370.2.1 160 1 0, hh_370.2.2.1, hh_370.2.2.2.1, 0)
def hh_372 : zH := ((162, (fun b => if b = 161 then (14, 5) else hh_371.1.2.1 b), 4246), zrow hh_371.2.1 161 (fun _ => 0), zrow hh_371.2.2.1 161 (fun _ => 0), zrow hh_371.2.2.2.1 161 (fun _ => none), 0)
def hh_373 : zH := ((162, hh_372.1.2.1, 4246), hh_372.2.1, hh_372.2.2.1, zup hh_372.2.2.2.1 160 2 (some 161), 0)
def hh_374 : zH := ((163, (fun b => if b = 162 then (14, 5) else hh_373.1.2.1 b), 4251), zrow hh_373.2.1 162 (fun _ => 0), zrow hh_373.2.2.1 162 (fun _ => 0), zrow hh_373.2.2.2.1 162 (fun _ => none), 0)
def hh_375 : zH := ((163, hh_374.1.2.1, 4251), hh_374.2.1, hh_374.2.2.1, zup hh_374.2.2.2.1 160 3 (some 162), 0)
def hh_376 : zH := ((164, (fun b => if b = 163 then (14, 8) else hh_375.1.2.1 b), 4259), zrow hh_375.2.1 163 (fun _ => 0), zrow hh_375.2.2.1 163 (fun _ => 0), zrow hh_375.2.2.2.1 163 (fun _ => none), 0)
def hh_377 : zH := ((164, hh_376.1.2.1, 4259), hh_376.2.1, hh_376.2.2.1, zup hh_376.2.2.2.1 160 4 (some 163), 0)
def hh_378 : zH := ((165, (fun b => if b = 164 then (14, 8) else hh_377.1.2.1 b), 4267), zrow hh_377.2.1 164 (fun _ => 0), zrow hh_377.2.2.1 164 (fun _ => 0), zrow hh_377.2.2.2.1 164 (fun _ => none), 0)
def hh_379 : zH := ((165, hh_378.1.2.1, 4267), hh_378.2.1, hh_378.2.2.1, zup hh_378.2.2.2.1 160 5 (some 164), 0)
def hh_380 : zH := ((166, (fun b => if b = 165 then (14, 8) else hh_379.1.2.1 b), 4275), zrow hh_379.2.1 165 (fun _ => 0), zrow hh_379.2.2.1 165 (fun _ => 0), zrow hh_379.2.2.2.1 165 (fun _ => none), 0)
def hh_381 : zH := ((166, hh_380.1.2.1, 4275), hh_380.2.1, hh_380.2.2.1, zup hh_380.2.2.2.1 160 6 (some 165), 0)
def hh_382 : zH := ((166, hh_381.1.2.1, 4275), hh_381.2.1, hh_381.2.2.1, zup hh_381.2.2.2.1 104 9 (some 160), 0)
def hh_383 : zH := ((167, (fun b => if b = 166 then (2, 7) else hh_382.1.2.1 b), 4282), zrow hh_382.2.1 166 (fun _ => 0), zrow hh_382.2.2.1 166 (fun _ => 0), zrow hh_382.2.2.2.1 166 (fun _ => none), 0)
def hh_384 : zH := ((167, hh_383.1.2.1, 4282), zup hh_383.2.1 166 0 0, hh_383.2.2.1, hh_383.2.2.2.1, 0)
def hh_385 : zH := ((167, hh_384.1.2.1, 4282), zup hh_384.2.1 166 1 0, hh_384.2.2.1, hh_384.2.2.2.1, 0)
def hh_386 : zH := ((168, (fun b => if b = 167 then (14, 5) else hh_385.1.2.1 b), 4287), zrow hh_385.2.1 167 (fun _ => 0), zrow hh_385.2.2.1 167 (fun _ => 0), zrow hh_385.2.2.2.1 167 (fun _ => none), 0)
def hh_387 : zH := ((168, hh_386.1.2.1, 4287), hh_386.2.1, hh_386.2.2.1, zup hh_386.2.2.2.1 166 2 (some 167), 0)
def hh_388 : zH := ((169, (fun b => if b = 168 then (14, 5) else hh_387.1.2.1 b), 4292), zrow hh_387.2.1 168 (fun _ => 0), zrow hh_387.2.2.1 168 (fun _ => 0), zrow hh_387.2.2.2.1 168 (fun _ => none), 0)
def hh_389 : zH := ((169, hh_388.1.2.1, 4292), hh_388.2.1, hh_388.2.2.1, zup hh_388.2.2.2.1 166 3 (some 168), 0)
def hh_390 : zH := ((170, (fun b => if b = 169 then (14, 8) else hh_389.1.2.1 b), 4300), zrow hh_389.2.1 169 (fun _ => 0), zrow hh_389.2.2.1 169 (fun _ => 0), zrow hh_389.2.2.2.1 169 (fun _ => none), 0)
def hh_391 : zH := ((170, hh_390.1.2.1, 4300), hh_390.2.1, hh_390.2.2.1, zup hh_390.2.2.2.1 166 4 (some 169), 0)
def hh_392 : zH := ((171, (fun b => if b = 170 then (14, 8) else hh_391.1.2.1 b), 4308), zrow hh_391.2.1 170 (fun _ => 0), zrow hh_391.2.2.1 170 (fun _ => 0), zrow hh_391.2.2.2.1 170 (fun _ => none), 0)
def hh_393 : zH := ((171, hh_392.1.2.1, 4308), hh_392.2.1, hh_392.2.2.1, zup hh_392.2.2.2.1 166 5 (some 170), 0)
def hh_394 : zH := ((172, (fun b => if b = 171 then (14, 8) else hh_393.1.2.1 b), 4316), zrow hh_393.2.1 171 (fun _ => 0), zrow hh_393.2.2.1 171 (fun _ => 0), zrow hh_393.2.2.2.1 171 (fun _ => none), 0)
def hh_395 : zH := ((172, hh_394.1.2.1, 4316), hh_394.2.1, hh_394.2.2.1, zup hh_394.2.2.2.1 166 6 (some 171), 0)
def hh_396 : zH := ((172, hh_395.1.2.1, 4316), hh_395.2.1, hh_395.2.2.1, zup hh_395.2.2.2.1 104 10 (some 166), 0)
def hh_397 : zH := ((173, (fun b => if b = 172 then (2, 7) else hh_396.1.2.1 b), 4323), zrow hh_396.2.1 172 (fun _ => 0), zrow hh_396.2.2.1 172 (fun _ => 0), zrow hh_396.2.2.2.1 172 (fun _ => none), 0)
def hh_398 : zH := ((173, hh_397.1.2.1, 4323), zup hh_397.2.1 172 0 0, hh_397.2.2.1, hh_397.2.2.2.1, 0)
def hh_399 : zH := ((173, hh_398.1.2.1, 4323), zup hh_398.2.1 172 1 0, hh_398.2.2.1, hh_398.2.2.2.1, 0)
def hh_400 : zH := ((174, (fun b => if b = 173 then (14, 5) else hh_399.1.2.1 b), 4328), zrow hh_399.2.1 173 (fun _ => 0), zrow hh_399.2.2.1 173 (fun _ => 0), zrow hh_399.2.2.2.1 173 (fun _ => none), 0)
def hh_401 : zH := ((174, hh_400.1.2.1, 4328), hh_400.2.1, hh_400.2.2.1, zup hh_400.2.2.2.1 172 2 (some 173), 0)
def hh_402 : zH := ((175, (fun b => if b = 174 then (14, 5) else hh_401.1.2.1 b), 4333), zrow hh_401.2.1 174 (fun _ => 0), zrow hh_401.2.2.1 174 (fun _ => 0), zrow hh_401.2.2.2.1 174 (fun _ => none), 0)
def hh_403 : zH := ((175, hh_402.1.2.1, 4333), hh_402.2.1, hh_402.2.2.1, zup hh_402.2.2.2.1 172 3 (some 174), 0)
def hh_404 : zH := ((176, (fun b => if b = 175 then (14, 8) else hh_403.1.2.1 b), 4341), zrow hh_403.2.1 175 (fun _ => 0), zrow hh_403.2.2.1 175 (fun _ => 0), zrow hh_403.2.2.2.1 175 (fun _ => none), 0)
def hh_405 : zH := ((176, hh_404.1.2.1, 4341), hh_404.2.1, hh_404.2.2.1, zup hh_404.2.2.2.1 172 4 (some 175), 0)
def hh_406 : zH := ((177, (fun b => if b = 176 then (14, 8) else hh_405.1.2.1 b), 4349), zrow hh_405.2.1 176 (fun _ => 0), zrow hh_405.2.2.1 176 (fun _ => 0), zrow hh_405.2.2.2.1 176 (fun _ => none), 0)
def hh_407 : zH := ((177, hh_406.1.2.1, 4349), hh_406.2.1, hh_406.2.2.1, zup hh_406.2.2.2.1 172 5 (some 176), 0)
def hh_408 : zH := ((178, (fun b => if b = 177 then (14, 8) else hh_407.1.2.1 b), 4357), zrow hh_407.2.1 177 (fun _ => 0), zrow hh_407.2.2.1 177 (fun _ => 0), zrow hh_407.2.2.2.1 177 (fun _ => none), 0)
def hh_409 : zH := ((178, hh_408.1.2.1, 4357), hh_408.2.1, hh_408.2.2.1, zup hh_408.2.2.2.1 172 6 (some 177), 0)
def hh_410 : zH := ((178, hh_409.1.2.1, 4357), hh_409.2.1, hh_409.2.2.1, zup hh_409.2.2.2.1 104 11 (some 172), 0)
def hh_411 : zH := ((179, (fun b => if b = 178 then (2, 7) else hh_410.1.2.1 b), 4364), zrow hh_410.2.1 178 (fun _ => 0), zrow hh_410.2.2.1 178 (fun _ => 0), zrow hh_410.2.2.2.1 178 (fun _ => none), 0)
def hh_412 : zH := ((179, hh_411.1.2.1, 4364), zup hh_411.2.1 178 0 0, hh_411.2.2.1, hh_411.2.2.2.1, 0)
def hh_413 : zH := ((179, hh_412.1.2.1, 4364), zup hh_412.2.1 178 1 0, hh_412.2.2.1, hh_412.2.2.2.1, 0)
def hh_414 : zH := ((180, (fun b => if b = 179 then (14, 5) else hh_413.1.2.1 b), 4369), zrow hh_413.2.1 179 (fun _ => 0), zrow hh_413.2.2.1 179 (fun _ => 0), zrow hh_413.2.2.2.1 179 (fun _ => none), 0)
def hh_415 : zH := ((180, hh_414.1.2.1, 4369), hh_414.2.1, hh_414.2.2.1, zup hh_414.2.2.2.1 178 2 (some 179), 0)
def hh_416 : zH := ((181, (fun b => if b = 180 then (14, 5) else hh_415.1.2.1 b), 4374), zrow hh_415.2.1 180 (fun _ => 0), zrow hh_415.2.2.1 180 (fun _ => 0), zrow hh_415.2.2.2.1 180 (fun _ => none), 0)
def hh_417 : zH := ((181, hh_416.1.2.1, 4374), hh_416.2.1, hh_416.2.2.1, zup hh_416.2.2.2.1 178 3 (some 180), 0)
def hh_418 : zH := ((182, (fun b => if b = 181 then (14, 8) else hh_417.1.2.1 b), 4382), zrow hh_417.2.1 181 (fun _ => 0), zrow hh_417.2.2.1 181 (fun _ => 0), zrow hh_417.2.2.2.1 181 (fun _ => none), 0)
def hh_419 : zH := ((182, hh_418.1.2.1, 4382), hh_418.2.1, hh_418.2.2.1, zup hh_418.2.2.2.1 178 4 (some 181), 0)
def hh_420 : zH := ((183, (fun b => if b = 182 then (14, 8) else hh_419.1.2.1 b), 4390), zrow hh_419.2.1 182 (fun _ => 0), zrow hh_419.2.2.1 182 (fun _ => 0), zrow hh_419.2.2.2.1 182 (fun _ => none), 0)
def hh_421 : zH := ((183, hh_420.1.2.1, 4390), hh_420.2.1, hh_420.2.2.1, zup hh_420.2.2.2.1 178 5 (some 182), 0)
def hh_422 : zH := ((184, (fun b => if b = 183 then (14, 8) else hh_421.1.2.1 b), 4398), zrow hh_421.2.1 183 (fun _ => 0), zrow hh_421.2.2.1 183 (fun _ => 0), zrow hh_421.2.2.2.1 183 (fun _ => none), 0)
def hh_423 : zH := ((184, hh_422.1.2.1, 4398), hh_422.2.1, hh_422.2.2.1, zup hh_422.2.2.2.1 178 6 (some 183), 0)
def hh_424 : zH := ((184, hh_423.1.2.1, 4398), hh_423.2.1, hh_423.2.2.1, zup hh_423.2.2.2.1 105 0 (some 178), 0)
def hh_425 : zH := ((185, (fun b => if b = 184 then (2, 7) else hh_424.1.2.1 b), 4405), zrow hh_424.2.1 184 (fun _ => 0), zrow hh_424.2.2.1 184 (fun _ => 0), zrow hh_424.2.2.2.1 184 (fun _ => none), 0)
def hh_426 : zH := ((185, hh_425.1.2.1, 4405), zup hh_425.2.1 184 0 0, hh_425.2.2.1, hh_425.2.2.2.1, 0)
def hh_427 : zH := ((185, hh_426.1.2.1, 4405), zup hh_426.2.1 184 1 0, hh_426.2.2.1, hh_426.2.2.2.1, 0)
def hh_428 : zH := ((186, (fun b => if b = 185 then (14, 5) else hh_427.1.2.1 b), 4410), zrow hh_427.2.1 185 (fun _ => 0), zrow hh_427.2.2.1 185 (fun _ => 0), zrow hh_427.2.2.2.1 185 (fun _ => none), 0)
def hh_429 : zH := ((186, hh_428.1.2.1, 4410), hh_428.2.1, hh_428.2.2.1, zup hh_428.2.2.2.1 184 2 (some 185), 0)
def hh_430 : zH := ((187, (fun b => if b = 186 then (14, 5) else hh_429.1.2.1 b), 4415), zrow hh_429.2.1 186 (fun _ => 0), zrow hh_429.2.2.1 186 (fun _ => 0), zrow hh_429.2.2.2.1 186 (fun _ => none), 0)
def hh_431 : zH := ((187, hh_430.1.2.1, 4415), hh_430.2.1, hh_430.2.2.1, zup hh_430.2.2.2.1 184 3 (some 186), 0)
def hh_432 : zH := ((188, (fun b => if b = 187 then (14, 8) else hh_431.1.2.1 b), 4423), zrow hh_431.2.1 187 (fun _ => 0), zrow hh_431.2.2.1 187 (fun _ => 0), zrow hh_431.2.2.2.1 187 (fun _ => none), 0)
def hh_433 : zH := ((188, hh_432.1.2.1, 4423), hh_432.2.1, hh_432.2.2.1, zup hh_432.2.2.2.1 184 4 (some 187), 0)
def hh_434 : zH := ((189, (fun b => if b = 188 then (14, 8) else hh_433.1.2.1 b), 4431), zrow hh_433.2.1 188 (fun _ => 0), zrow hh_433.2.2.1 188 (fun _ => 0), zrow hh_433.2.2.2.1 188 (fun _ => none), 0)
def hh_435 : zH := ((189, hh_434.1.2.1, 4431), hh_434.2.1, hh_434.2.2.1, zup hh_434.2.2.2.1 184 5 (some 188), 0)
def hh_436 : zH := ((190, (fun b => if b = 189 then (14, 8) else hh_435.1.2.1 b), 4439), zrow hh_435.2.1 189 (fun _ => 0), zrow hh_435.2.2.1 189 (fun _ => 0), zrow hh_435.2.2.2.1 189 (fun _ => none), 0)
def hh_437 : zH := ((190, hh_436.1.2.1, 4439), hh_436.2.1, hh_436.2.2.1, zup hh_436.2.2.2.1 184 6 (some 189), 0)
def hh_438 : zH := ((190, hh_437.1.2.1, 4439), hh_437.2.1, hh_437.2.2.1, zup hh_437.2.2.2.1 105 1 (some 184), 0)
def hh_439 : zH := ((191, (fun b => if b = 190 then (2, 7) else hh_438.1.2.1 b), 4446), zrow hh_438.2.1 190 (fun _ => 0), zrow hh_438.2.2.1 190 (fun _ => 0), zrow hh_438.2.2.2.1 190 (fun _ => none), 0)
def hh_440 : zH := ((191, hh_439.1.2.1, 4446), zup hh_439.2.1 190 0 0, hh_439.2.2.1, hh_439.2.2.2.1, 0)
def hh_441 : zH := ((191, hh_440.1.2.1, 4446), zup hh_440.2.1 190 1 0, hh_440.2.2.1, hh_440.2.2.2.1, 0)
def hh_442 : zH := ((192, (fun b => if b = 191 then (14, 5) else hh_441.1.2.1 b), 4451), zrow hh_441.2.1 191 (fun _ => 0), zrow hh_441.2.2.1 191 (fun _ => 0), zrow hh_441.2.2.2.1 191 (fun _ => none), 0)
def hh_443 : zH := ((192, hh_442.1.2.1, 4451), hh_442.2.1, hh_442.2.2.1, zup hh_442.2.2.2.1 190 2 (some 191), 0)
def hh_444 : zH := ((193, (fun b => if b = 192 then (14, 5) else hh_443.1.2.1 b), 4456), zrow hh_443.2.1 192 (fun _ => 0), zrow hh_443.2.2.1 192 (fun _ => 0), zrow hh_443.2.2.2.1 192 (fun _ => none), 0)
def hh_445 : zH := ((193, hh_444.1.2.1, 4456), hh_444.2.1, hh_444.2.2.1, zup hh_444.2.2.2.1 190 3 (some 192), 0)
def hh_446 : zH := ((194, (fun b => if b = 193 then (14, 8) else hh_445.1.2.1 b), 4464), zrow hh_445.2.1 193 (fun _ => 0), zrow hh_445.2.2.1 193 (fun _ => 0), zrow hh_445.2.2.2.1 193 (fun _ => none), 0)
def hh_447 : zH := ((194, hh_446.1.2.1, 4464), hh_446.2.1, hh_446.2.2.1, zup hh_446.2.2.2.1 190 4 (some 193), 0)
def hh_448 : zH := ((195, (fun b => if b = 194 then (14, 8) else hh_447.1.2.1 b), 4472), zrow hh_447.2.1 194 (fun _ => 0), zrow hh_447.2.2.1 194 (fun _ => 0), zrow hh_447.2.2.2.1 194 (fun _ => none), 0)
def hh_449 : zH := ((195, hh_448.1.2.1, 4472), hh_448.2.1, hh_448.2.2.1, zup hh_448.2.2.2.1 190 5 (some 194), 0)
def hh_450 : zH := ((196, (fun b => if b = 195 then (14, 8) else hh_449.1.2.1 b), 4480), zrow hh_449.2.1 195 (fun _ => 0), zrow hh_449.2.2.1 195 (fun _ => 0), zrow hh_449.2.2.2.1 195 (fun _ => none), 0)
def hh_451 : zH := ((196, hh_450.1.2.1, 4480), hh_450.2.1, hh_450.2.2.1, zup hh_450.2.2.2.1 190 6 (some 195), 0)
def hh_452 : zH := ((196, hh_451.1.2.1, 4480), hh_451.2.1, hh_451.2.2.1, zup hh_451.2.2.2.1 105 2 (some 190), 0)
def hh_453 : zH := ((197, (fun b => if b = 196 then (12, 39) else hh_452.1.2.1 b), 4519), zrow hh_452.2.1 196 (fun _ => 0), zrow hh_452.2.2.1 196 (fun _ => 0), zrow hh_452.2.2.2.1 196 (fun _ => none), 0)
def hh_454 : zH := ((198, (fun b => if b = 197 then (14, 1000) else hh_453.1.2.1 b), 5519), zrow hh_453.2.1 197 (fun _ => 0), zrow hh_453.2.2.1 197 (fun _ => 0), zrow hh_453.2.2.2.1 197 (fun _ => none), 0)
def hh_455 : zH := ((198, hh_454.1.2.1, 5519), hh_454.2.1, hh_454.2.2.1, zup hh_454.2.2.2.1 196 1 (some 197), 0)
def hh_456 : zH := ((198, hh_455.1.2.1, 5519), zup hh_455.2.1 196 10 (-1), hh_455.2.2.1, hh_455.2.2.2.1, 0)
def hh_457 : zH := ((199, (fun b => if b = 198 then (14, 8) else hh_456.1.2.1 b), 5527), zrow hh_456.2.1 198 (fun _ => 0), zrow hh_456.2.2.1 198 (fun _ => 0), zrow hh_456.2.2.2.1 198 (fun _ => none), 0)
def hh_458 : zH := ((199, hh_457.1.2.1, 5527), hh_457.2.1, hh_457.2.2.1, zup hh_457.2.2.2.1 196 12 (some 198), 0)
def hh_459 : zH := ((200, (fun b => if b = 199 then (14, 363) else hh_458.1.2.1 b), 5890), zrow hh_458.2.1 199 (fun _ => 0), zrow hh_458.2.2.1 199 (fun _ => 0), zrow hh_458.2.2.2.1 199 (fun _ => none), 0)
def hh_460 : zH := ((200, hh_459.1.2.1, 5890), hh_459.2.1, hh_459.2.2.1, zup hh_459.2.2.2.1 196 15 (some 199), 0)
def hh_461 : zH := ((201, (fun b => if b = 200 then (14, 363) else hh_460.1.2.1 b), 6253), zrow hh_460.2.1 200 (fun _ => 0), zrow hh_460.2.2.1 200 (fun _ => 0), zrow hh_460.2.2.2.1 200 (fun _ => none), 0)
def hh_462 : zH := ((201, hh_461.1.2.1, 6253), hh_461.2.1, hh_461.2.2.1, zup hh_461.2.2.2.1 196 16 (some 200), 0)
def hh_463 : zH := ((202, (fun b => if b = 201 then (14, 76) else hh_462.1.2.1 b), 6329), zrow hh_462.2.1 201 (fun _ => 0), zrow hh_462.2.2.1 201 (fun _ => 0), zrow hh_462.2.2.2.1 201 (fun _ => none), 0)
def hh_464 : zH := ((202, hh_463.1.2.1, 6329), hh_463.2.1, hh_463.2.2.1, zup hh_463.2.2.2.1 196 17 (some 201), 0)
def hh_465 : zH := ((203, (fun b => if b = 202 then (14, 912) else hh_464.1.2.1 b), 7241), zrow hh_464.2.1 202 (fun _ => 0), zrow hh_464.2.2.1 202 (fun _ => 0), zrow hh_464.2.2.2.1 202 (fun _ => none), 0)
def hh_466 : zH := ((203, hh_465.1.2.1, 7241), hh_465.2.1, hh_465.2.2.1, zup hh_465.2.2.2.1 196 18 (some 202), 0)
def hh_467 : zH := ((204, (fun b => if b = 203 then (14, 228) else hh_466.1.2.1 b), 7469), zrow hh_466.2.1 203 (fun _ => 0), zrow hh_466.2.2.1 203 (fun _ => 0), zrow hh_466.2.2.2.1 203 (fun _ => none), 0)
def hh_468 : zH := ((204, hh_467.1.2.1, 7469), hh_467.2.1, hh_467.2.2.1, zup hh_467.2.2.2.1 196 19 (some 203), 0)
def hh_469 : zH := ((205, (fun b => if b = 204 then (14, 3200) else hh_468.1.2.1 b), 10669), zrow hh_468.2.1 204 (fun _ => 0), zrow hh_468.2.2.1 204 (fun _ => 0), zrow hh_468.2.2.2.1 204 (fun _ => none), 0)
def hh_470 : zH := ((205, hh_469.1.2.1, 10669), hh_469.2.1, hh_469.2.2.1, zup hh_469.2.2.2.1 196 22 (some 204), 0)
def hh_471 : zH := ((206, (fun b => if b = 205 then (14, 7) else hh_470.1.2.1 b), 10676), zrow hh_470.2.1 205 (fun _ => 0), zrow hh_470.2.2.1 205 (fun _ => 0), zrow hh_470.2.2.2.1 205 (fun _ => none), 0)
def hh_472 : zH := ((206, hh_471.1.2.1, 10676), hh_471.2.1, hh_471.2.2.1, zup hh_471.2.2.2.1 196 24 (some 205), 0)
def hh_473 : zH := ((207, (fun b => if b = 206 then (14, 7) else hh_472.1.2.1 b), 10683), zrow hh_472.2.1 206 (fun _ => 0), zrow hh_472.2.2.1 206 (fun _ => 0), zrow hh_472.2.2.2.1 206 (fun _ => none), 0)
def hh_474 : zH := ((207, hh_473.1.2.1, 10683), hh_473.2.1, hh_473.2.2.1, zup hh_473.2.2.2.1 196 25 (some 206), 0)
def hh_475 : zH := ((208, (fun b => if b = 207 then (14, 8) else hh_474.1.2.1 b), 10691), zrow hh_474.2.1 207 (fun _ => 0), zrow hh_474.2.2.1 207 (fun _ => 0), zrow hh_474.2.2.2.1 207 (fun _ => none), 0)
def hh_476 : zH := ((208, hh_475.1.2.1, 10691), hh_475.2.1, hh_475.2.2.1, zup hh_475.2.2.2.1 196 28 (some 207), 0)
def hh_477 : zH := ((209, (fun b => if b = 208 then (14, 8) else hh_476.1.2.1 b), 10699), zrow hh_476.2.1 208 (fun _ => 0), zrow hh_476.2.2.1 208 (fun _ => 0), zrow hh_476.2.2.2.1 208 (fun _ => none), 0)
def hh_478 : zH := ((209, hh_477.1.2.1, 10699), hh_477.2.1, hh_477.2.2.1, zup hh_477.2.2.2.1 196 29 (some 208), 0)
def hh_479 : zH := ((210, (fun b => if b = 209 then (14, 40) else hh_478.1.2.1 b), 10739), zrow hh_478.2.1 209 (fun _ => 0), zrow hh_478.2.2.1 209 (fun _ => 0), zrow hh_478.2.2.2.1 209 (fun _ => none), 0)
def hh_480 : zH := ((210, hh_479.1.2.1, 10739), hh_479.2.1, hh_479.2.2.1, zup hh_479.2.2.2.1 196 30 (some 209), 0)
def hh_481 : zH := ((211, (fun b => if b = 210 then (14, 49) else hh_480.1.2.1 b), 10788), zrow hh_480.2.1 210 (fun _ => 0), zrow hh_480.2.2.1 210 (fun _ => 0), zrow hh_480.2.2.2.1 210 (fun _ => none), 0)
def hh_482 : zH := ((211, hh_481.1.2.1, 10788), hh_481.2.1, hh_481.2.2.1, zup hh_481.2.2.2.1 196 35 (some 210), 0)
def hh_483 : zH := ((212, (fun b => if b = 211 then (14, 7) else hh_482.1.2.1 b), 10795), zrow hh_482.2.1 211 (fun _ => 0), zrow hh_482.2.2.1 211 (fun _ => 0), zrow hh_482.2.2.2.1 211 (fun _ => none), 0)
def hh_484 : zH := ((212, hh_483.1.2.1, 10795), hh_483.2.1, hh_483.2.2.1, zup hh_483.2.2.2.1 196 36 (some 211), 0)
def hh_485 : zH := ((213, (fun b => if b = 212 then (14, 7) else hh_484.1.2.1 b), 10802), zrow hh_484.2.1 212 (fun _ => 0), zrow hh_484.2.2.1 212 (fun _ => 0), zrow hh_484.2.2.2.1 212 (fun _ => none), 0)
def hh_486 : zH := ((213, hh_485.1.2.1, 10802), hh_485.2.1, hh_485.2.2.1, zup hh_485.2.2.2.1 196 37 (some 212), 0)
def hh_487 : zH := ((214, (fun b => if b = 213 then (15, 1) else hh_486.1.2.1 b), 10803), zrow hh_486.2.1 213 (fun _ => 0), zrow hh_486.2.2.1 213 (fun _ => 0), zrow hh_486.2.2.2.1 213 (fun _ => none), 0)
end Pk0
section Pk1
/-! the constructors on the law's fresh heap, by program -/
set_option maxRecDepth 20000 in
theorem kc_3 (d : Nat) : zCv (d + 1) mX9_init [.inr (.inr (some 9))] hh_19 (fun h' => h' = hh_19) := by
  show zEx none (d + 1) mX9_init (0, [(0, .inr (.inr (some 9)))], [], hh_19) _
  refine ex_aload_n (pc' := 1) dX9_init_0 rfl rfl ?_
  refine ex_obj (pc' := 4) dX9_init_1 ml_9_1 (by decide) rfl ?_
  exact ex_vretV dX9_init_4 rfl rfl
set_option maxRecDepth 20000 in
theorem kc_4 (d : Nat) : zCv (d + 1) mX9_init [.inr (.inr (some 10))] hh_21 (fun h' => h' = hh_21) := by
  show zEx none (d + 1) mX9_init (0, [(0, .inr (.inr (some 10)))], [], hh_21) _
  refine ex_aload_n (pc' := 1) dX9_init_0 rfl rfl ?_
  refine ex_obj (pc' := 4) dX9_init_1 ml_9_1 (by decide) rfl ?_
  exact ex_vretV dX9_init_4 rfl rfl
set_option maxRecDepth 20000 in
theorem kc_5 (d : Nat) : zCv (d + 1) mX9_init [.inr (.inr (some 11))] hh_23 (fun h' => h' = hh_23) := by
  show zEx none (d + 1) mX9_init (0, [(0, .inr (.inr (some 11)))], [], hh_23) _
  refine ex_aload_n (pc' := 1) dX9_init_0 rfl rfl ?_
  refine ex_obj (pc' := 4) dX9_init_1 ml_9_1 (by decide) rfl ?_
  exact ex_vretV dX9_init_4 rfl rfl
set_option maxRecDepth 20000 in
theorem kc_6 (d : Nat) : zCv (d + 1) mX9_init [.inr (.inr (some 12))] hh_25 (fun h' => h' = hh_25) := by
  show zEx none (d + 1) mX9_init (0, [(0, .inr (.inr (some 12)))], [], hh_25) _
  refine ex_aload_n (pc' := 1) dX9_init_0 rfl rfl ?_
  refine ex_obj (pc' := 4) dX9_init_1 ml_9_1 (by decide) rfl ?_
  exact ex_vretV dX9_init_4 rfl rfl
set_option maxRecDepth 20000 in
theorem kc_7 (d : Nat) : zCv (d + 1) mX9_init [.inr (.inr (some 13))] hh_27 (fun h' => h' = hh_27) := by
  show zEx none (d + 1) mX9_init (0, [(0, .inr (.inr (some 13)))], [], hh_27) _
  refine ex_aload_n (pc' := 1) dX9_init_0 rfl rfl ?_
  refine ex_obj (pc' := 4) dX9_init_1 ml_9_1 (by decide) rfl ?_
  exact ex_vretV dX9_init_4 rfl rfl
set_option maxRecDepth 20000 in
theorem kc_8 (d : Nat) : zCv (d + 1) mX9_init [.inr (.inr (some 14))] hh_29 (fun h' => h' = hh_29) := by
  show zEx none (d + 1) mX9_init (0, [(0, .inr (.inr (some 14)))], [], hh_29) _
  refine ex_aload_n (pc' := 1) dX9_init_0 rfl rfl ?_
  refine ex_obj (pc' := 4) dX9_init_1 ml_9_1 (by decide) rfl ?_
  exact ex_vretV dX9_init_4 rfl rfl
set_option maxRecDepth 20000 in
theorem kc_9 (d : Nat) : zCv (d + 1) mX9_init [.inr (.inr (some 15))] hh_31 (fun h' => h' = hh_31) := by
  show zEx none (d + 1) mX9_init (0, [(0, .inr (.inr (some 15)))], [], hh_31) _
  refine ex_aload_n (pc' := 1) dX9_init_0 rfl rfl ?_
  refine ex_obj (pc' := 4) dX9_init_1 ml_9_1 (by decide) rfl ?_
  exact ex_vretV dX9_init_4 rfl rfl
set_option maxRecDepth 20000 in
theorem kc_10 (d : Nat) : zCv (d + 1) mX9_init [.inr (.inr (some 16))] hh_33 (fun h' => h' = hh_33) := by
  show zEx none (d + 1) mX9_init (0, [(0, .inr (.inr (some 16)))], [], hh_33) _
  refine ex_aload_n (pc' := 1) dX9_init_0 rfl rfl ?_
  refine ex_obj (pc' := 4) dX9_init_1 ml_9_1 (by decide) rfl ?_
  exact ex_vretV dX9_init_4 rfl rfl
set_option maxRecDepth 20000 in
theorem kc_11 (d : Nat) : zCv (d + 1) mX9_init [.inr (.inr (some 17))] hh_35 (fun h' => h' = hh_35) := by
  show zEx none (d + 1) mX9_init (0, [(0, .inr (.inr (some 17)))], [], hh_35) _
  refine ex_aload_n (pc' := 1) dX9_init_0 rfl rfl ?_
  refine ex_obj (pc' := 4) dX9_init_1 ml_9_1 (by decide) rfl ?_
  exact ex_vretV dX9_init_4 rfl rfl
set_option maxRecDepth 20000 in
theorem kc_12 (d : Nat) : zCv (d + 1) mX9_init [.inr (.inr (some 18))] hh_37 (fun h' => h' = hh_37) := by
  show zEx none (d + 1) mX9_init (0, [(0, .inr (.inr (some 18)))], [], hh_37) _
  refine ex_aload_n (pc' := 1) dX9_init_0 rfl rfl ?_
  refine ex_obj (pc' := 4) dX9_init_1 ml_9_1 (by decide) rfl ?_
  exact ex_vretV dX9_init_4 rfl rfl
set_option maxRecDepth 20000 in
theorem kc_13 (d : Nat) : zCv (d + 1) mX9_init [.inr (.inr (some 19))] hh_39 (fun h' => h' = hh_39) := by
  show zEx none (d + 1) mX9_init (0, [(0, .inr (.inr (some 19)))], [], hh_39) _
  refine ex_aload_n (pc' := 1) dX9_init_0 rfl rfl ?_
  refine ex_obj (pc' := 4) dX9_init_1 ml_9_1 (by decide) rfl ?_
  exact ex_vretV dX9_init_4 rfl rfl
set_option maxRecDepth 20000 in
theorem kc_14 (d : Nat) : zCv (d + 1) mX9_init [.inr (.inr (some 20))] hh_41 (fun h' => h' = hh_41) := by
  show zEx none (d + 1) mX9_init (0, [(0, .inr (.inr (some 20)))], [], hh_41) _
  refine ex_aload_n (pc' := 1) dX9_init_0 rfl rfl ?_
  refine ex_obj (pc' := 4) dX9_init_1 ml_9_1 (by decide) rfl ?_
  exact ex_vretV dX9_init_4 rfl rfl
set_option maxRecDepth 20000 in
theorem kc_15 (d : Nat) : zCv (d + 1) mX10_init [.inr (.inr (some 21))] hh_43 (fun h' => h' = hh_43) := by
  show zEx none (d + 1) mX10_init (0, [(0, .inr (.inr (some 21)))], [], hh_43) _
  refine ex_aload_n (pc' := 1) dX10_init_0 rfl rfl ?_
  refine ex_obj (pc' := 4) dX10_init_1 ml_10_1 (by decide) rfl ?_
  exact ex_vretV dX10_init_4 rfl rfl
set_option maxRecDepth 20000 in
theorem kc_16 (d : Nat) : zCv (d + 1) mX10_init [.inr (.inr (some 22))] hh_45 (fun h' => h' = hh_45) := by
  show zEx none (d + 1) mX10_init (0, [(0, .inr (.inr (some 22)))], [], hh_45) _
  refine ex_aload_n (pc' := 1) dX10_init_0 rfl rfl ?_
  refine ex_obj (pc' := 4) dX10_init_1 ml_10_1 (by decide) rfl ?_
  exact ex_vretV dX10_init_4 rfl rfl
set_option maxRecDepth 20000 in
theorem kc_17 (d : Nat) : zCv (d + 1) mX10_init [.inr (.inr (some 23))] hh_47 (fun h' => h' = hh_47) := by
  show zEx none (d + 1) mX10_init (0, [(0, .inr (.inr (some 23)))], [], hh_47) _
  refine ex_aload_n (pc' := 1) dX10_init_0 rfl rfl ?_
  refine ex_obj (pc' := 4) dX10_init_1 ml_10_1 (by decide) rfl ?_
  exact ex_vretV dX10_init_4 rfl rfl
set_option maxRecDepth 20000 in
theorem kc_18 (d : Nat) : zCv (d + 1) mX10_init [.inr (.inr (some 24))] hh_49 (fun h' => h' = hh_49) := by
  show zEx none (d + 1) mX10_init (0, [(0, .inr (.inr (some 24)))], [], hh_49) _
  refine ex_aload_n (pc' := 1) dX10_init_0 rfl rfl ?_
  refine ex_obj (pc' := 4) dX10_init_1 ml_10_1 (by decide) rfl ?_
  exact ex_vretV dX10_init_4 rfl rfl
set_option maxRecDepth 20000 in
theorem kc_19 (d : Nat) : zCv (d + 1) mX10_init [.inr (.inr (some 25))] hh_51 (fun h' => h' = hh_51) := by
  show zEx none (d + 1) mX10_init (0, [(0, .inr (.inr (some 25)))], [], hh_51) _
  refine ex_aload_n (pc' := 1) dX10_init_0 rfl rfl ?_
  refine ex_obj (pc' := 4) dX10_init_1 ml_10_1 (by decide) rfl ?_
  exact ex_vretV dX10_init_4 rfl rfl
set_option maxRecDepth 20000 in
theorem kc_20 (d : Nat) : zCv (d + 1) mX0_init [.inr (.inr (some 26))] hh_53 (fun h' => h' = hh_53) := by
  show zEx none (d + 1) mX0_init (0, [(0, .inr (.inr (some 26)))], [], hh_53) _
  refine ex_aload_n (pc' := 1) dX0_init_0 rfl rfl ?_
  refine ex_obj (pc' := 4) dX0_init_1 ml_0_1 (by decide) rfl ?_
  exact ex_vretV dX0_init_4 rfl rfl
set_option maxRecDepth 20000 in
theorem kc_21 (d : Nat) : zCv (d + 1) mX0_init [.inr (.inr (some 27))] hh_55 (fun h' => h' = hh_55) := by
  show zEx none (d + 1) mX0_init (0, [(0, .inr (.inr (some 27)))], [], hh_55) _
  refine ex_aload_n (pc' := 1) dX0_init_0 rfl rfl ?_
  refine ex_obj (pc' := 4) dX0_init_1 ml_0_1 (by decide) rfl ?_
  exact ex_vretV dX0_init_4 rfl rfl
set_option maxRecDepth 20000 in
theorem kc_22 (d : Nat) : zCv (d + 1) mX0_init [.inr (.inr (some 28))] hh_57 (fun h' => h' = hh_57) := by
  show zEx none (d + 1) mX0_init (0, [(0, .inr (.inr (some 28)))], [], hh_57) _
  refine ex_aload_n (pc' := 1) dX0_init_0 rfl rfl ?_
  refine ex_obj (pc' := 4) dX0_init_1 ml_0_1 (by decide) rfl ?_
  exact ex_vretV dX0_init_4 rfl rfl
set_option maxRecDepth 20000 in
theorem kc_23 (d : Nat) : zCv (d + 1) mX0_init [.inr (.inr (some 29))] hh_59 (fun h' => h' = hh_59) := by
  show zEx none (d + 1) mX0_init (0, [(0, .inr (.inr (some 29)))], [], hh_59) _
  refine ex_aload_n (pc' := 1) dX0_init_0 rfl rfl ?_
  refine ex_obj (pc' := 4) dX0_init_1 ml_0_1 (by decide) rfl ?_
  exact ex_vretV dX0_init_4 rfl rfl
set_option maxRecDepth 20000 in
theorem kc_24 (d : Nat) : zCv (d + 1) mX0_init [.inr (.inr (some 30))] hh_61 (fun h' => h' = hh_61) := by
  show zEx none (d + 1) mX0_init (0, [(0, .inr (.inr (some 30)))], [], hh_61) _
  refine ex_aload_n (pc' := 1) dX0_init_0 rfl rfl ?_
  refine ex_obj (pc' := 4) dX0_init_1 ml_0_1 (by decide) rfl ?_
  exact ex_vretV dX0_init_4 rfl rfl
set_option maxRecDepth 20000 in
theorem kc_25 (d : Nat) : zCv (d + 1) mX0_init [.inr (.inr (some 31))] hh_63 (fun h' => h' = hh_63) := by
  show zEx none (d + 1) mX0_init (0, [(0, .inr (.inr (some 31)))], [], hh_63) _
  refine ex_aload_n (pc' := 1) dX0_init_0 rfl rfl ?_
  refine ex_obj (pc' := 4) dX0_init_1 ml_0_1 (by decide) rfl ?_
  exact ex_vretV dX0_init_4 rfl rfl
set_option maxRecDepth 20000 in
theorem kc_26 (d : Nat) : zCv (d + 1) mX0_init [.inr (.inr (some 32))] hh_65 (fun h' => h' = hh_65) := by
  show zEx none (d + 1) mX0_init (0, [(0, .inr (.inr (some 32)))], [], hh_65) _
  refine ex_aload_n (pc' := 1) dX0_init_0 rfl rfl ?_
  refine ex_obj (pc' := 4) dX0_init_1 ml_0_1 (by decide) rfl ?_
  exact ex_vretV dX0_init_4 rfl rfl
set_option maxRecDepth 20000 in
theorem kc_27 (d : Nat) : zCv (d + 1) mX0_init [.inr (.inr (some 33))] hh_67 (fun h' => h' = hh_67) := by
  show zEx none (d + 1) mX0_init (0, [(0, .inr (.inr (some 33)))], [], hh_67) _
  refine ex_aload_n (pc' := 1) dX0_init_0 rfl rfl ?_
  refine ex_obj (pc' := 4) dX0_init_1 ml_0_1 (by decide) rfl ?_
  exact ex_vretV dX0_init_4 rfl rfl
set_option maxRecDepth 20000 in
theorem kc_28 (d : Nat) : zCv (d + 1) mX8_init [.inr (.inr (some 34))] hh_69 (fun h' => h' = hh_69) := by
  show zEx none (d + 1) mX8_init (0, [(0, .inr (.inr (some 34)))], [], hh_69) _
  refine ex_aload_n (pc' := 1) dX8_init_0 rfl rfl ?_
  refine ex_obj (pc' := 4) dX8_init_1 ml_8_1 (by decide) rfl ?_
  exact ex_vretV dX8_init_4 rfl rfl
set_option maxRecDepth 20000 in
theorem kc_29 (d : Nat) : zCv (d + 1) mX8_init [.inr (.inr (some 35))] hh_71 (fun h' => h' = hh_71) := by
  show zEx none (d + 1) mX8_init (0, [(0, .inr (.inr (some 35)))], [], hh_71) _
  refine ex_aload_n (pc' := 1) dX8_init_0 rfl rfl ?_
  refine ex_obj (pc' := 4) dX8_init_1 ml_8_1 (by decide) rfl ?_
  exact ex_vretV dX8_init_4 rfl rfl
set_option maxRecDepth 20000 in
theorem kc_30 (d : Nat) : zCv (d + 1) mX8_init [.inr (.inr (some 36))] hh_73 (fun h' => h' = hh_73) := by
  show zEx none (d + 1) mX8_init (0, [(0, .inr (.inr (some 36)))], [], hh_73) _
  refine ex_aload_n (pc' := 1) dX8_init_0 rfl rfl ?_
  refine ex_obj (pc' := 4) dX8_init_1 ml_8_1 (by decide) rfl ?_
  exact ex_vretV dX8_init_4 rfl rfl
set_option maxRecDepth 20000 in
theorem kc_31 (d : Nat) : zCv (d + 1) mX8_init [.inr (.inr (some 37))] hh_75 (fun h' => h' = hh_75) := by
  show zEx none (d + 1) mX8_init (0, [(0, .inr (.inr (some 37)))], [], hh_75) _
  refine ex_aload_n (pc' := 1) dX8_init_0 rfl rfl ?_
  refine ex_obj (pc' := 4) dX8_init_1 ml_8_1 (by decide) rfl ?_
  exact ex_vretV dX8_init_4 rfl rfl
set_option maxRecDepth 20000 in
theorem kc_32 (d : Nat) : zCv (d + 1) mX8_init [.inr (.inr (some 38))] hh_77 (fun h' => h' = hh_77) := by
  show zEx none (d + 1) mX8_init (0, [(0, .inr (.inr (some 38)))], [], hh_77) _
  refine ex_aload_n (pc' := 1) dX8_init_0 rfl rfl ?_
  refine ex_obj (pc' := 4) dX8_init_1 ml_8_1 (by decide) rfl ?_
  exact ex_vretV dX8_init_4 rfl rfl
set_option maxRecDepth 20000 in
theorem kc_33 (d : Nat) : zCv (d + 1) mX8_init [.inr (.inr (some 39))] hh_79 (fun h' => h' = hh_79) := by
  show zEx none (d + 1) mX8_init (0, [(0, .inr (.inr (some 39)))], [], hh_79) _
  refine ex_aload_n (pc' := 1) dX8_init_0 rfl rfl ?_
  refine ex_obj (pc' := 4) dX8_init_1 ml_8_1 (by decide) rfl ?_
  exact ex_vretV dX8_init_4 rfl rfl
set_option maxRecDepth 20000 in
theorem kc_34 (d : Nat) : zCv (d + 1) mX8_init [.inr (.inr (some 40))] hh_81 (fun h' => h' = hh_81) := by
  show zEx none (d + 1) mX8_init (0, [(0, .inr (.inr (some 40)))], [], hh_81) _
  refine ex_aload_n (pc' := 1) dX8_init_0 rfl rfl ?_
  refine ex_obj (pc' := 4) dX8_init_1 ml_8_1 (by decide) rfl ?_
  exact ex_vretV dX8_init_4 rfl rfl
set_option maxRecDepth 20000 in
theorem kc_35 (d : Nat) : zCv (d + 1) mX8_init [.inr (.inr (some 41))] hh_83 (fun h' => h' = hh_83) := by
  show zEx none (d + 1) mX8_init (0, [(0, .inr (.inr (some 41)))], [], hh_83) _
  refine ex_aload_n (pc' := 1) dX8_init_0 rfl rfl ?_
  refine ex_obj (pc' := 4) dX8_init_1 ml_8_1 (by decide) rfl ?_
  exact ex_vretV dX8_init_4 rfl rfl
set_option maxRecDepth 20000 in
theorem kc_2 (d : Nat) : zCv (d + 2) mX4_init [.inr (.inr (some 2))] hh_6 (fun h' => h' = hh_84) := by
  show zEx none (d + 2) mX4_init (0, [(0, .inr (.inr (some 2)))], [], hh_6) _
  refine ex_aload_n (pc' := 1) dX4_init_0 rfl rfl ?_
  refine ex_obj (pc' := 4) dX4_init_1 ml_4_3 (by decide) rfl ?_
  refine ex_aload_n (pc' := 5) dX4_init_4 rfl rfl ?_
  refine ex_bipush (v := 7) (pc' := 7) dX4_init_5 (by decide) rfl ?_
  refine en_narrI (pc' := 9) (a := 3) (nn := 7) (h2 := hh_7) dX4_init_7 (by decide +kernel) rfl rfl ?_
  refine en_putR (pc' := 12) (n := 15) (h2 := hh_8) dX4_init_9 fl_4_9 (by decide +kernel) (by decide) (by decide) rfl rfl ?_
  refine ex_aload_n (pc' := 13) dX4_init_12 rfl rfl ?_
  refine ex_bipush (v := 7) (pc' := 15) dX4_init_13 (by decide) rfl ?_
  refine en_narrI (pc' := 17) (a := 4) (nn := 7) (h2 := hh_9) dX4_init_15 (by decide +kernel) rfl rfl ?_
  refine en_putR (pc' := 20) (n := 15) (h2 := hh_10) dX4_init_17 fl_4_15 (by decide +kernel) (by decide) (by decide) rfl rfl ?_
  refine ex_aload_n (pc' := 21) dX4_init_20 rfl rfl ?_
  refine ex_bipush (v := 12) (pc' := 23) dX4_init_21 (by decide) rfl ?_
  refine en_anarr (pc' := 26) (a := 5) (nn := 12) (ak := 19) (h2 := hh_11) dX4_init_23 kl_4_18 (by decide +kernel) rfl rfl ?_
  refine en_putR (pc' := 29) (n := 15) (h2 := hh_12) dX4_init_26 fl_4_20 (by decide +kernel) (by decide) (by decide) rfl rfl ?_
  refine ex_aload_n (pc' := 30) dX4_init_29 rfl rfl ?_
  refine ex_iconst (v := 5) (pc' := 31) dX4_init_30 (by decide) rfl ?_
  refine en_anarr (pc' := 34) (a := 6) (nn := 5) (ak := 20) (h2 := hh_13) dX4_init_31 kl_4_24 (by decide +kernel) rfl rfl ?_
  refine en_putR (pc' := 37) (n := 15) (h2 := hh_14) dX4_init_34 fl_4_26 (by decide +kernel) (by decide) (by decide) rfl rfl ?_
  refine ex_aload_n (pc' := 38) dX4_init_37 rfl rfl ?_
  refine ex_bipush (v := 8) (pc' := 40) dX4_init_38 (by decide) rfl ?_
  refine en_anarr (pc' := 43) (a := 7) (nn := 8) (ak := 16) (h2 := hh_15) dX4_init_40 kl_4_30 (by decide +kernel) rfl rfl ?_
  refine en_putR (pc' := 46) (n := 15) (h2 := hh_16) dX4_init_43 fl_4_32 (by decide +kernel) (by decide) (by decide) rfl rfl ?_
  refine ex_aload_n (pc' := 47) dX4_init_46 rfl rfl ?_
  refine ex_bipush (v := 8) (pc' := 49) dX4_init_47 (by decide) rfl ?_
  refine en_anarr (pc' := 52) (a := 8) (nn := 8) (ak := 18) (h2 := hh_17) dX4_init_49 kl_4_36 (by decide +kernel) rfl rfl ?_
  refine en_putR (pc' := 55) (n := 15) (h2 := hh_18) dX4_init_52 fl_4_38 (by decide +kernel) (by decide) (by decide) rfl rfl ?_
  refine ex_iconst (v := 0) (pc' := 56) dX4_init_55 (by decide) rfl ?_
  refine ex_istore_n (pc' := 57) (ls' := [(1, .inl 0), (0, .inr (.inr (some 2)))]) dX4_init_56 (by decide) rfl rfl ?_
  refine ex_iload_n (pc' := 58) dX4_init_57 rfl rfl ?_
  refine ex_bipush (v := 12) (pc' := 60) dX4_init_58 (by decide) rfl ?_
  refine ex_icmp_f (pc' := 63) dX4_init_60 (by decide) (by decide) rfl ?_
  refine ex_aload_n (pc' := 64) dX4_init_63 rfl rfl ?_
  refine ex_getR (pc' := 67) (n := 15) (r := 5) dX4_init_64 fl_4_20 (by decide +kernel) (by decide) (by decide +kernel) rfl ?_
  refine ex_iload_n (pc' := 68) dX4_init_67 rfl rfl ?_
  refine en_new (pc' := 71) (a := 9) (nf := 4) (h2 := hh_19) dX4_init_68 kl_4_18 (by decide +kernel) rfl rfl ?_
  refine ex_dup (pc' := 72) dX4_init_71 rfl rfl ?_
  refine en_calliV (pc' := 75) (a := 9) (n := 4) (h2 := hh_19) (vs := []) (rest := [.inr (.inr (some 9)), .inl 0, .inr (.inr (some 5))]) dX4_init_72 ml_4_42 (by decide) ⟨by decide, by decide⟩ rfl rfl (by decide +kernel) (by decide) (by decide) rfl (kc_3 _) ?_
  refine en_aast (pc' := 76) (kd := 19) (n := 12) (nv := 4) (jj := 0) (h2 := hh_20) dX4_init_75 (by decide +kernel) (by decide +kernel) (by decide) (by decide) rfl rfl ?_
  refine ex_iinc (pc' := 79) (v := 1) (ls' := [(1, .inl 1), (0, .inr (.inr (some 2)))]) dX4_init_76 rfl (by decide) (by decide) rfl rfl ?_
  refine ex_goto (pc' := 57) dX4_init_79 (by decide) ?_
  refine ex_iload_n (pc' := 58) dX4_init_57 rfl rfl ?_
  refine ex_bipush (v := 12) (pc' := 60) dX4_init_58 (by decide) rfl ?_
  refine ex_icmp_f (pc' := 63) dX4_init_60 (by decide) (by decide) rfl ?_
  refine ex_aload_n (pc' := 64) dX4_init_63 rfl rfl ?_
  refine ex_getR (pc' := 67) (n := 15) (r := 5) dX4_init_64 fl_4_20 (by decide +kernel) (by decide) (by decide +kernel) rfl ?_
  refine ex_iload_n (pc' := 68) dX4_init_67 rfl rfl ?_
  refine en_new (pc' := 71) (a := 10) (nf := 4) (h2 := hh_21) dX4_init_68 kl_4_18 (by decide +kernel) rfl rfl ?_
  refine ex_dup (pc' := 72) dX4_init_71 rfl rfl ?_
  refine en_calliV (pc' := 75) (a := 10) (n := 4) (h2 := hh_21) (vs := []) (rest := [.inr (.inr (some 10)), .inl 1, .inr (.inr (some 5))]) dX4_init_72 ml_4_42 (by decide) ⟨by decide, by decide⟩ rfl rfl (by decide +kernel) (by decide) (by decide) rfl (kc_4 _) ?_
  refine en_aast (pc' := 76) (kd := 19) (n := 12) (nv := 4) (jj := 1) (h2 := hh_22) dX4_init_75 (by decide +kernel) (by decide +kernel) (by decide) (by decide) rfl rfl ?_
  refine ex_iinc (pc' := 79) (v := 2) (ls' := [(1, .inl 2), (0, .inr (.inr (some 2)))]) dX4_init_76 rfl (by decide) (by decide) rfl rfl ?_
  refine ex_goto (pc' := 57) dX4_init_79 (by decide) ?_
  refine ex_iload_n (pc' := 58) dX4_init_57 rfl rfl ?_
  refine ex_bipush (v := 12) (pc' := 60) dX4_init_58 (by decide) rfl ?_
  refine ex_icmp_f (pc' := 63) dX4_init_60 (by decide) (by decide) rfl ?_
  refine ex_aload_n (pc' := 64) dX4_init_63 rfl rfl ?_
  refine ex_getR (pc' := 67) (n := 15) (r := 5) dX4_init_64 fl_4_20 (by decide +kernel) (by decide) (by decide +kernel) rfl ?_
  refine ex_iload_n (pc' := 68) dX4_init_67 rfl rfl ?_
  refine en_new (pc' := 71) (a := 11) (nf := 4) (h2 := hh_23) dX4_init_68 kl_4_18 (by decide +kernel) rfl rfl ?_
  refine ex_dup (pc' := 72) dX4_init_71 rfl rfl ?_
  refine en_calliV (pc' := 75) (a := 11) (n := 4) (h2 := hh_23) (vs := []) (rest := [.inr (.inr (some 11)), .inl 2, .inr (.inr (some 5))]) dX4_init_72 ml_4_42 (by decide) ⟨by decide, by decide⟩ rfl rfl (by decide +kernel) (by decide) (by decide) rfl (kc_5 _) ?_
  refine en_aast (pc' := 76) (kd := 19) (n := 12) (nv := 4) (jj := 2) (h2 := hh_24) dX4_init_75 (by decide +kernel) (by decide +kernel) (by decide) (by decide) rfl rfl ?_
  refine ex_iinc (pc' := 79) (v := 3) (ls' := [(1, .inl 3), (0, .inr (.inr (some 2)))]) dX4_init_76 rfl (by decide) (by decide) rfl rfl ?_
  refine ex_goto (pc' := 57) dX4_init_79 (by decide) ?_
  refine ex_iload_n (pc' := 58) dX4_init_57 rfl rfl ?_
  refine ex_bipush (v := 12) (pc' := 60) dX4_init_58 (by decide) rfl ?_
  refine ex_icmp_f (pc' := 63) dX4_init_60 (by decide) (by decide) rfl ?_
  refine ex_aload_n (pc' := 64) dX4_init_63 rfl rfl ?_
  refine ex_getR (pc' := 67) (n := 15) (r := 5) dX4_init_64 fl_4_20 (by decide +kernel) (by decide) (by decide +kernel) rfl ?_
  refine ex_iload_n (pc' := 68) dX4_init_67 rfl rfl ?_
  refine en_new (pc' := 71) (a := 12) (nf := 4) (h2 := hh_25) dX4_init_68 kl_4_18 (by decide +kernel) rfl rfl ?_
  refine ex_dup (pc' := 72) dX4_init_71 rfl rfl ?_
  refine en_calliV (pc' := 75) (a := 12) (n := 4) (h2 := hh_25) (vs := []) (rest := [.inr (.inr (some 12)), .inl 3, .inr (.inr (some 5))]) dX4_init_72 ml_4_42 (by decide) ⟨by decide, by decide⟩ rfl rfl (by decide +kernel) (by decide) (by decide) rfl (kc_6 _) ?_
  refine en_aast (pc' := 76) (kd := 19) (n := 12) (nv := 4) (jj := 3) (h2 := hh_26) dX4_init_75 (by decide +kernel) (by decide +kernel) (by decide) (by decide) rfl rfl ?_
  refine ex_iinc (pc' := 79) (v := 4) (ls' := [(1, .inl 4), (0, .inr (.inr (some 2)))]) dX4_init_76 rfl (by decide) (by decide) rfl rfl ?_
  refine ex_goto (pc' := 57) dX4_init_79 (by decide) ?_
  refine ex_iload_n (pc' := 58) dX4_init_57 rfl rfl ?_
  refine ex_bipush (v := 12) (pc' := 60) dX4_init_58 (by decide) rfl ?_
  refine ex_icmp_f (pc' := 63) dX4_init_60 (by decide) (by decide) rfl ?_
  refine ex_aload_n (pc' := 64) dX4_init_63 rfl rfl ?_
  refine ex_getR (pc' := 67) (n := 15) (r := 5) dX4_init_64 fl_4_20 (by decide +kernel) (by decide) (by decide +kernel) rfl ?_
  refine ex_iload_n (pc' := 68) dX4_init_67 rfl rfl ?_
  refine en_new (pc' := 71) (a := 13) (nf := 4) (h2 := hh_27) dX4_init_68 kl_4_18 (by decide +kernel) rfl rfl ?_
  refine ex_dup (pc' := 72) dX4_init_71 rfl rfl ?_
  refine en_calliV (pc' := 75) (a := 13) (n := 4) (h2 := hh_27) (vs := []) (rest := [.inr (.inr (some 13)), .inl 4, .inr (.inr (some 5))]) dX4_init_72 ml_4_42 (by decide) ⟨by decide, by decide⟩ rfl rfl (by decide +kernel) (by decide) (by decide) rfl (kc_7 _) ?_
  refine en_aast (pc' := 76) (kd := 19) (n := 12) (nv := 4) (jj := 4) (h2 := hh_28) dX4_init_75 (by decide +kernel) (by decide +kernel) (by decide) (by decide) rfl rfl ?_
  refine ex_iinc (pc' := 79) (v := 5) (ls' := [(1, .inl 5), (0, .inr (.inr (some 2)))]) dX4_init_76 rfl (by decide) (by decide) rfl rfl ?_
  refine ex_goto (pc' := 57) dX4_init_79 (by decide) ?_
  refine ex_iload_n (pc' := 58) dX4_init_57 rfl rfl ?_
  refine ex_bipush (v := 12) (pc' := 60) dX4_init_58 (by decide) rfl ?_
  refine ex_icmp_f (pc' := 63) dX4_init_60 (by decide) (by decide) rfl ?_
  refine ex_aload_n (pc' := 64) dX4_init_63 rfl rfl ?_
  refine ex_getR (pc' := 67) (n := 15) (r := 5) dX4_init_64 fl_4_20 (by decide +kernel) (by decide) (by decide +kernel) rfl ?_
  refine ex_iload_n (pc' := 68) dX4_init_67 rfl rfl ?_
  refine en_new (pc' := 71) (a := 14) (nf := 4) (h2 := hh_29) dX4_init_68 kl_4_18 (by decide +kernel) rfl rfl ?_
  refine ex_dup (pc' := 72) dX4_init_71 rfl rfl ?_
  refine en_calliV (pc' := 75) (a := 14) (n := 4) (h2 := hh_29) (vs := []) (rest := [.inr (.inr (some 14)), .inl 5, .inr (.inr (some 5))]) dX4_init_72 ml_4_42 (by decide) ⟨by decide, by decide⟩ rfl rfl (by decide +kernel) (by decide) (by decide) rfl (kc_8 _) ?_
  refine en_aast (pc' := 76) (kd := 19) (n := 12) (nv := 4) (jj := 5) (h2 := hh_30) dX4_init_75 (by decide +kernel) (by decide +kernel) (by decide) (by decide) rfl rfl ?_
  refine ex_iinc (pc' := 79) (v := 6) (ls' := [(1, .inl 6), (0, .inr (.inr (some 2)))]) dX4_init_76 rfl (by decide) (by decide) rfl rfl ?_
  refine ex_goto (pc' := 57) dX4_init_79 (by decide) ?_
  refine ex_iload_n (pc' := 58) dX4_init_57 rfl rfl ?_
  refine ex_bipush (v := 12) (pc' := 60) dX4_init_58 (by decide) rfl ?_
  refine ex_icmp_f (pc' := 63) dX4_init_60 (by decide) (by decide) rfl ?_
  refine ex_aload_n (pc' := 64) dX4_init_63 rfl rfl ?_
  refine ex_getR (pc' := 67) (n := 15) (r := 5) dX4_init_64 fl_4_20 (by decide +kernel) (by decide) (by decide +kernel) rfl ?_
  refine ex_iload_n (pc' := 68) dX4_init_67 rfl rfl ?_
  refine en_new (pc' := 71) (a := 15) (nf := 4) (h2 := hh_31) dX4_init_68 kl_4_18 (by decide +kernel) rfl rfl ?_
  refine ex_dup (pc' := 72) dX4_init_71 rfl rfl ?_
  refine en_calliV (pc' := 75) (a := 15) (n := 4) (h2 := hh_31) (vs := []) (rest := [.inr (.inr (some 15)), .inl 6, .inr (.inr (some 5))]) dX4_init_72 ml_4_42 (by decide) ⟨by decide, by decide⟩ rfl rfl (by decide +kernel) (by decide) (by decide) rfl (kc_9 _) ?_
  refine en_aast (pc' := 76) (kd := 19) (n := 12) (nv := 4) (jj := 6) (h2 := hh_32) dX4_init_75 (by decide +kernel) (by decide +kernel) (by decide) (by decide) rfl rfl ?_
  refine ex_iinc (pc' := 79) (v := 7) (ls' := [(1, .inl 7), (0, .inr (.inr (some 2)))]) dX4_init_76 rfl (by decide) (by decide) rfl rfl ?_
  refine ex_goto (pc' := 57) dX4_init_79 (by decide) ?_
  refine ex_iload_n (pc' := 58) dX4_init_57 rfl rfl ?_
  refine ex_bipush (v := 12) (pc' := 60) dX4_init_58 (by decide) rfl ?_
  refine ex_icmp_f (pc' := 63) dX4_init_60 (by decide) (by decide) rfl ?_
  refine ex_aload_n (pc' := 64) dX4_init_63 rfl rfl ?_
  refine ex_getR (pc' := 67) (n := 15) (r := 5) dX4_init_64 fl_4_20 (by decide +kernel) (by decide) (by decide +kernel) rfl ?_
  refine ex_iload_n (pc' := 68) dX4_init_67 rfl rfl ?_
  refine en_new (pc' := 71) (a := 16) (nf := 4) (h2 := hh_33) dX4_init_68 kl_4_18 (by decide +kernel) rfl rfl ?_
  refine ex_dup (pc' := 72) dX4_init_71 rfl rfl ?_
  refine en_calliV (pc' := 75) (a := 16) (n := 4) (h2 := hh_33) (vs := []) (rest := [.inr (.inr (some 16)), .inl 7, .inr (.inr (some 5))]) dX4_init_72 ml_4_42 (by decide) ⟨by decide, by decide⟩ rfl rfl (by decide +kernel) (by decide) (by decide) rfl (kc_10 _) ?_
  refine en_aast (pc' := 76) (kd := 19) (n := 12) (nv := 4) (jj := 7) (h2 := hh_34) dX4_init_75 (by decide +kernel) (by decide +kernel) (by decide) (by decide) rfl rfl ?_
  refine ex_iinc (pc' := 79) (v := 8) (ls' := [(1, .inl 8), (0, .inr (.inr (some 2)))]) dX4_init_76 rfl (by decide) (by decide) rfl rfl ?_
  refine ex_goto (pc' := 57) dX4_init_79 (by decide) ?_
  refine ex_iload_n (pc' := 58) dX4_init_57 rfl rfl ?_
  refine ex_bipush (v := 12) (pc' := 60) dX4_init_58 (by decide) rfl ?_
  refine ex_icmp_f (pc' := 63) dX4_init_60 (by decide) (by decide) rfl ?_
  refine ex_aload_n (pc' := 64) dX4_init_63 rfl rfl ?_
  refine ex_getR (pc' := 67) (n := 15) (r := 5) dX4_init_64 fl_4_20 (by decide +kernel) (by decide) (by decide +kernel) rfl ?_
  refine ex_iload_n (pc' := 68) dX4_init_67 rfl rfl ?_
  refine en_new (pc' := 71) (a := 17) (nf := 4) (h2 := hh_35) dX4_init_68 kl_4_18 (by decide +kernel) rfl rfl ?_
  refine ex_dup (pc' := 72) dX4_init_71 rfl rfl ?_
  refine en_calliV (pc' := 75) (a := 17) (n := 4) (h2 := hh_35) (vs := []) (rest := [.inr (.inr (some 17)), .inl 8, .inr (.inr (some 5))]) dX4_init_72 ml_4_42 (by decide) ⟨by decide, by decide⟩ rfl rfl (by decide +kernel) (by decide) (by decide) rfl (kc_11 _) ?_
  refine en_aast (pc' := 76) (kd := 19) (n := 12) (nv := 4) (jj := 8) (h2 := hh_36) dX4_init_75 (by decide +kernel) (by decide +kernel) (by decide) (by decide) rfl rfl ?_
  refine ex_iinc (pc' := 79) (v := 9) (ls' := [(1, .inl 9), (0, .inr (.inr (some 2)))]) dX4_init_76 rfl (by decide) (by decide) rfl rfl ?_
  refine ex_goto (pc' := 57) dX4_init_79 (by decide) ?_
  refine ex_iload_n (pc' := 58) dX4_init_57 rfl rfl ?_
  refine ex_bipush (v := 12) (pc' := 60) dX4_init_58 (by decide) rfl ?_
  refine ex_icmp_f (pc' := 63) dX4_init_60 (by decide) (by decide) rfl ?_
  refine ex_aload_n (pc' := 64) dX4_init_63 rfl rfl ?_
  refine ex_getR (pc' := 67) (n := 15) (r := 5) dX4_init_64 fl_4_20 (by decide +kernel) (by decide) (by decide +kernel) rfl ?_
  refine ex_iload_n (pc' := 68) dX4_init_67 rfl rfl ?_
  refine en_new (pc' := 71) (a := 18) (nf := 4) (h2 := hh_37) dX4_init_68 kl_4_18 (by decide +kernel) rfl rfl ?_
  refine ex_dup (pc' := 72) dX4_init_71 rfl rfl ?_
  refine en_calliV (pc' := 75) (a := 18) (n := 4) (h2 := hh_37) (vs := []) (rest := [.inr (.inr (some 18)), .inl 9, .inr (.inr (some 5))]) dX4_init_72 ml_4_42 (by decide) ⟨by decide, by decide⟩ rfl rfl (by decide +kernel) (by decide) (by decide) rfl (kc_12 _) ?_
  refine en_aast (pc' := 76) (kd := 19) (n := 12) (nv := 4) (jj := 9) (h2 := hh_38) dX4_init_75 (by decide +kernel) (by decide +kernel) (by decide) (by decide) rfl rfl ?_
  refine ex_iinc (pc' := 79) (v := 10) (ls' := [(1, .inl 10), (0, .inr (.inr (some 2)))]) dX4_init_76 rfl (by decide) (by decide) rfl rfl ?_
  refine ex_goto (pc' := 57) dX4_init_79 (by decide) ?_
  refine ex_iload_n (pc' := 58) dX4_init_57 rfl rfl ?_
  refine ex_bipush (v := 12) (pc' := 60) dX4_init_58 (by decide) rfl ?_
  refine ex_icmp_f (pc' := 63) dX4_init_60 (by decide) (by decide) rfl ?_
  refine ex_aload_n (pc' := 64) dX4_init_63 rfl rfl ?_
  refine ex_getR (pc' := 67) (n := 15) (r := 5) dX4_init_64 fl_4_20 (by decide +kernel) (by decide) (by decide +kernel) rfl ?_
  refine ex_iload_n (pc' := 68) dX4_init_67 rfl rfl ?_
  refine en_new (pc' := 71) (a := 19) (nf := 4) (h2 := hh_39) dX4_init_68 kl_4_18 (by decide +kernel) rfl rfl ?_
  refine ex_dup (pc' := 72) dX4_init_71 rfl rfl ?_
  refine en_calliV (pc' := 75) (a := 19) (n := 4) (h2 := hh_39) (vs := []) (rest := [.inr (.inr (some 19)), .inl 10, .inr (.inr (some 5))]) dX4_init_72 ml_4_42 (by decide) ⟨by decide, by decide⟩ rfl rfl (by decide +kernel) (by decide) (by decide) rfl (kc_13 _) ?_
  refine en_aast (pc' := 76) (kd := 19) (n := 12) (nv := 4) (jj := 10) (h2 := hh_40) dX4_init_75 (by decide +kernel) (by decide +kernel) (by decide) (by decide) rfl rfl ?_
  refine ex_iinc (pc' := 79) (v := 11) (ls' := [(1, .inl 11), (0, .inr (.inr (some 2)))]) dX4_init_76 rfl (by decide) (by decide) rfl rfl ?_
  refine ex_goto (pc' := 57) dX4_init_79 (by decide) ?_
  refine ex_iload_n (pc' := 58) dX4_init_57 rfl rfl ?_
  refine ex_bipush (v := 12) (pc' := 60) dX4_init_58 (by decide) rfl ?_
  refine ex_icmp_f (pc' := 63) dX4_init_60 (by decide) (by decide) rfl ?_
  refine ex_aload_n (pc' := 64) dX4_init_63 rfl rfl ?_
  refine ex_getR (pc' := 67) (n := 15) (r := 5) dX4_init_64 fl_4_20 (by decide +kernel) (by decide) (by decide +kernel) rfl ?_
  refine ex_iload_n (pc' := 68) dX4_init_67 rfl rfl ?_
  refine en_new (pc' := 71) (a := 20) (nf := 4) (h2 := hh_41) dX4_init_68 kl_4_18 (by decide +kernel) rfl rfl ?_
  refine ex_dup (pc' := 72) dX4_init_71 rfl rfl ?_
  refine en_calliV (pc' := 75) (a := 20) (n := 4) (h2 := hh_41) (vs := []) (rest := [.inr (.inr (some 20)), .inl 11, .inr (.inr (some 5))]) dX4_init_72 ml_4_42 (by decide) ⟨by decide, by decide⟩ rfl rfl (by decide +kernel) (by decide) (by decide) rfl (kc_14 _) ?_
  refine en_aast (pc' := 76) (kd := 19) (n := 12) (nv := 4) (jj := 11) (h2 := hh_42) dX4_init_75 (by decide +kernel) (by decide +kernel) (by decide) (by decide) rfl rfl ?_
  refine ex_iinc (pc' := 79) (v := 12) (ls' := [(1, .inl 12), (0, .inr (.inr (some 2)))]) dX4_init_76 rfl (by decide) (by decide) rfl rfl ?_
  refine ex_goto (pc' := 57) dX4_init_79 (by decide) ?_
  refine ex_iload_n (pc' := 58) dX4_init_57 rfl rfl ?_
  refine ex_bipush (v := 12) (pc' := 60) dX4_init_58 (by decide) rfl ?_
  refine ex_icmp_t (pc' := 82) dX4_init_60 (by decide) (by decide) ?_
  refine ex_iconst (v := 0) (pc' := 83) dX4_init_82 (by decide) rfl ?_
  refine ex_istore_n (pc' := 84) (ls' := [(1, .inl 0), (0, .inr (.inr (some 2)))]) dX4_init_83 (by decide) rfl rfl ?_
  refine ex_iload_n (pc' := 85) dX4_init_84 rfl rfl ?_
  refine ex_iconst (v := 5) (pc' := 86) dX4_init_85 (by decide) rfl ?_
  refine ex_icmp_f (pc' := 89) dX4_init_86 (by decide) (by decide) rfl ?_
  refine ex_aload_n (pc' := 90) dX4_init_89 rfl rfl ?_
  refine ex_getR (pc' := 93) (n := 15) (r := 6) dX4_init_90 fl_4_26 (by decide +kernel) (by decide) (by decide +kernel) rfl ?_
  refine ex_iload_n (pc' := 94) dX4_init_93 rfl rfl ?_
  refine en_new (pc' := 97) (a := 21) (nf := 4) (h2 := hh_43) dX4_init_94 kl_4_24 (by decide +kernel) rfl rfl ?_
  refine ex_dup (pc' := 98) dX4_init_97 rfl rfl ?_
  refine en_calliV (pc' := 101) (a := 21) (n := 4) (h2 := hh_43) (vs := []) (rest := [.inr (.inr (some 21)), .inl 0, .inr (.inr (some 6))]) dX4_init_98 ml_4_43 (by decide) ⟨by decide, by decide⟩ rfl rfl (by decide +kernel) (by decide) (by decide) rfl (kc_15 _) ?_
  refine en_aast (pc' := 102) (kd := 20) (n := 5) (nv := 4) (jj := 0) (h2 := hh_44) dX4_init_101 (by decide +kernel) (by decide +kernel) (by decide) (by decide) rfl rfl ?_
  refine ex_iinc (pc' := 105) (v := 1) (ls' := [(1, .inl 1), (0, .inr (.inr (some 2)))]) dX4_init_102 rfl (by decide) (by decide) rfl rfl ?_
  refine ex_goto (pc' := 84) dX4_init_105 (by decide) ?_
  refine ex_iload_n (pc' := 85) dX4_init_84 rfl rfl ?_
  refine ex_iconst (v := 5) (pc' := 86) dX4_init_85 (by decide) rfl ?_
  refine ex_icmp_f (pc' := 89) dX4_init_86 (by decide) (by decide) rfl ?_
  refine ex_aload_n (pc' := 90) dX4_init_89 rfl rfl ?_
  refine ex_getR (pc' := 93) (n := 15) (r := 6) dX4_init_90 fl_4_26 (by decide +kernel) (by decide) (by decide +kernel) rfl ?_
  refine ex_iload_n (pc' := 94) dX4_init_93 rfl rfl ?_
  refine en_new (pc' := 97) (a := 22) (nf := 4) (h2 := hh_45) dX4_init_94 kl_4_24 (by decide +kernel) rfl rfl ?_
  refine ex_dup (pc' := 98) dX4_init_97 rfl rfl ?_
  refine en_calliV (pc' := 101) (a := 22) (n := 4) (h2 := hh_45) (vs := []) (rest := [.inr (.inr (some 22)), .inl 1, .inr (.inr (some 6))]) dX4_init_98 ml_4_43 (by decide) ⟨by decide, by decide⟩ rfl rfl (by decide +kernel) (by decide) (by decide) rfl (kc_16 _) ?_
  refine en_aast (pc' := 102) (kd := 20) (n := 5) (nv := 4) (jj := 1) (h2 := hh_46) dX4_init_101 (by decide +kernel) (by decide +kernel) (by decide) (by decide) rfl rfl ?_
  refine ex_iinc (pc' := 105) (v := 2) (ls' := [(1, .inl 2), (0, .inr (.inr (some 2)))]) dX4_init_102 rfl (by decide) (by decide) rfl rfl ?_
  refine ex_goto (pc' := 84) dX4_init_105 (by decide) ?_
  refine ex_iload_n (pc' := 85) dX4_init_84 rfl rfl ?_
  refine ex_iconst (v := 5) (pc' := 86) dX4_init_85 (by decide) rfl ?_
  refine ex_icmp_f (pc' := 89) dX4_init_86 (by decide) (by decide) rfl ?_
  refine ex_aload_n (pc' := 90) dX4_init_89 rfl rfl ?_
  refine ex_getR (pc' := 93) (n := 15) (r := 6) dX4_init_90 fl_4_26 (by decide +kernel) (by decide) (by decide +kernel) rfl ?_
  refine ex_iload_n (pc' := 94) dX4_init_93 rfl rfl ?_
  refine en_new (pc' := 97) (a := 23) (nf := 4) (h2 := hh_47) dX4_init_94 kl_4_24 (by decide +kernel) rfl rfl ?_
  refine ex_dup (pc' := 98) dX4_init_97 rfl rfl ?_
  refine en_calliV (pc' := 101) (a := 23) (n := 4) (h2 := hh_47) (vs := []) (rest := [.inr (.inr (some 23)), .inl 2, .inr (.inr (some 6))]) dX4_init_98 ml_4_43 (by decide) ⟨by decide, by decide⟩ rfl rfl (by decide +kernel) (by decide) (by decide) rfl (kc_17 _) ?_
  refine en_aast (pc' := 102) (kd := 20) (n := 5) (nv := 4) (jj := 2) (h2 := hh_48) dX4_init_101 (by decide +kernel) (by decide +kernel) (by decide) (by decide) rfl rfl ?_
  refine ex_iinc (pc' := 105) (v := 3) (ls' := [(1, .inl 3), (0, .inr (.inr (some 2)))]) dX4_init_102 rfl (by decide) (by decide) rfl rfl ?_
  refine ex_goto (pc' := 84) dX4_init_105 (by decide) ?_
  refine ex_iload_n (pc' := 85) dX4_init_84 rfl rfl ?_
  refine ex_iconst (v := 5) (pc' := 86) dX4_init_85 (by decide) rfl ?_
  refine ex_icmp_f (pc' := 89) dX4_init_86 (by decide) (by decide) rfl ?_
  refine ex_aload_n (pc' := 90) dX4_init_89 rfl rfl ?_
  refine ex_getR (pc' := 93) (n := 15) (r := 6) dX4_init_90 fl_4_26 (by decide +kernel) (by decide) (by decide +kernel) rfl ?_
  refine ex_iload_n (pc' := 94) dX4_init_93 rfl rfl ?_
  refine en_new (pc' := 97) (a := 24) (nf := 4) (h2 := hh_49) dX4_init_94 kl_4_24 (by decide +kernel) rfl rfl ?_
  refine ex_dup (pc' := 98) dX4_init_97 rfl rfl ?_
  refine en_calliV (pc' := 101) (a := 24) (n := 4) (h2 := hh_49) (vs := []) (rest := [.inr (.inr (some 24)), .inl 3, .inr (.inr (some 6))]) dX4_init_98 ml_4_43 (by decide) ⟨by decide, by decide⟩ rfl rfl (by decide +kernel) (by decide) (by decide) rfl (kc_18 _) ?_
  refine en_aast (pc' := 102) (kd := 20) (n := 5) (nv := 4) (jj := 3) (h2 := hh_50) dX4_init_101 (by decide +kernel) (by decide +kernel) (by decide) (by decide) rfl rfl ?_
  refine ex_iinc (pc' := 105) (v := 4) (ls' := [(1, .inl 4), (0, .inr (.inr (some 2)))]) dX4_init_102 rfl (by decide) (by decide) rfl rfl ?_
  refine ex_goto (pc' := 84) dX4_init_105 (by decide) ?_
  refine ex_iload_n (pc' := 85) dX4_init_84 rfl rfl ?_
  refine ex_iconst (v := 5) (pc' := 86) dX4_init_85 (by decide) rfl ?_
  refine ex_icmp_f (pc' := 89) dX4_init_86 (by decide) (by decide) rfl ?_
  refine ex_aload_n (pc' := 90) dX4_init_89 rfl rfl ?_
  refine ex_getR (pc' := 93) (n := 15) (r := 6) dX4_init_90 fl_4_26 (by decide +kernel) (by decide) (by decide +kernel) rfl ?_
  refine ex_iload_n (pc' := 94) dX4_init_93 rfl rfl ?_
  refine en_new (pc' := 97) (a := 25) (nf := 4) (h2 := hh_51) dX4_init_94 kl_4_24 (by decide +kernel) rfl rfl ?_
  refine ex_dup (pc' := 98) dX4_init_97 rfl rfl ?_
  refine en_calliV (pc' := 101) (a := 25) (n := 4) (h2 := hh_51) (vs := []) (rest := [.inr (.inr (some 25)), .inl 4, .inr (.inr (some 6))]) dX4_init_98 ml_4_43 (by decide) ⟨by decide, by decide⟩ rfl rfl (by decide +kernel) (by decide) (by decide) rfl (kc_19 _) ?_
  refine en_aast (pc' := 102) (kd := 20) (n := 5) (nv := 4) (jj := 4) (h2 := hh_52) dX4_init_101 (by decide +kernel) (by decide +kernel) (by decide) (by decide) rfl rfl ?_
  refine ex_iinc (pc' := 105) (v := 5) (ls' := [(1, .inl 5), (0, .inr (.inr (some 2)))]) dX4_init_102 rfl (by decide) (by decide) rfl rfl ?_
  refine ex_goto (pc' := 84) dX4_init_105 (by decide) ?_
  refine ex_iload_n (pc' := 85) dX4_init_84 rfl rfl ?_
  refine ex_iconst (v := 5) (pc' := 86) dX4_init_85 (by decide) rfl ?_
  refine ex_icmp_t (pc' := 108) dX4_init_86 (by decide) (by decide) ?_
  refine ex_iconst (v := 0) (pc' := 109) dX4_init_108 (by decide) rfl ?_
  refine ex_istore_n (pc' := 110) (ls' := [(1, .inl 0), (0, .inr (.inr (some 2)))]) dX4_init_109 (by decide) rfl rfl ?_
  refine ex_iload_n (pc' := 111) dX4_init_110 rfl rfl ?_
  refine ex_bipush (v := 8) (pc' := 113) dX4_init_111 (by decide) rfl ?_
  refine ex_icmp_f (pc' := 116) dX4_init_113 (by decide) (by decide) rfl ?_
  refine ex_aload_n (pc' := 117) dX4_init_116 rfl rfl ?_
  refine ex_getR (pc' := 120) (n := 15) (r := 7) dX4_init_117 fl_4_32 (by decide +kernel) (by decide) (by decide +kernel) rfl ?_
  refine ex_iload_n (pc' := 121) dX4_init_120 rfl rfl ?_
  refine en_new (pc' := 124) (a := 26) (nf := 4) (h2 := hh_53) dX4_init_121 kl_4_30 (by decide +kernel) rfl rfl ?_
  refine ex_dup (pc' := 125) dX4_init_124 rfl rfl ?_
  refine en_calliV (pc' := 128) (a := 26) (n := 4) (h2 := hh_53) (vs := []) (rest := [.inr (.inr (some 26)), .inl 0, .inr (.inr (some 7))]) dX4_init_125 ml_4_44 (by decide) ⟨by decide, by decide⟩ rfl rfl (by decide +kernel) (by decide) (by decide) rfl (kc_20 _) ?_
  refine en_aast (pc' := 129) (kd := 16) (n := 8) (nv := 4) (jj := 0) (h2 := hh_54) dX4_init_128 (by decide +kernel) (by decide +kernel) (by decide) (by decide) rfl rfl ?_
  refine ex_iinc (pc' := 132) (v := 1) (ls' := [(1, .inl 1), (0, .inr (.inr (some 2)))]) dX4_init_129 rfl (by decide) (by decide) rfl rfl ?_
  refine ex_goto (pc' := 110) dX4_init_132 (by decide) ?_
  refine ex_iload_n (pc' := 111) dX4_init_110 rfl rfl ?_
  refine ex_bipush (v := 8) (pc' := 113) dX4_init_111 (by decide) rfl ?_
  refine ex_icmp_f (pc' := 116) dX4_init_113 (by decide) (by decide) rfl ?_
  refine ex_aload_n (pc' := 117) dX4_init_116 rfl rfl ?_
  refine ex_getR (pc' := 120) (n := 15) (r := 7) dX4_init_117 fl_4_32 (by decide +kernel) (by decide) (by decide +kernel) rfl ?_
  refine ex_iload_n (pc' := 121) dX4_init_120 rfl rfl ?_
  refine en_new (pc' := 124) (a := 27) (nf := 4) (h2 := hh_55) dX4_init_121 kl_4_30 (by decide +kernel) rfl rfl ?_
  refine ex_dup (pc' := 125) dX4_init_124 rfl rfl ?_
  refine en_calliV (pc' := 128) (a := 27) (n := 4) (h2 := hh_55) (vs := []) (rest := [.inr (.inr (some 27)), .inl 1, .inr (.inr (some 7))]) dX4_init_125 ml_4_44 (by decide) ⟨by decide, by decide⟩ rfl rfl (by decide +kernel) (by decide) (by decide) rfl (kc_21 _) ?_
  refine en_aast (pc' := 129) (kd := 16) (n := 8) (nv := 4) (jj := 1) (h2 := hh_56) dX4_init_128 (by decide +kernel) (by decide +kernel) (by decide) (by decide) rfl rfl ?_
  refine ex_iinc (pc' := 132) (v := 2) (ls' := [(1, .inl 2), (0, .inr (.inr (some 2)))]) dX4_init_129 rfl (by decide) (by decide) rfl rfl ?_
  refine ex_goto (pc' := 110) dX4_init_132 (by decide) ?_
  refine ex_iload_n (pc' := 111) dX4_init_110 rfl rfl ?_
  refine ex_bipush (v := 8) (pc' := 113) dX4_init_111 (by decide) rfl ?_
  refine ex_icmp_f (pc' := 116) dX4_init_113 (by decide) (by decide) rfl ?_
  refine ex_aload_n (pc' := 117) dX4_init_116 rfl rfl ?_
  refine ex_getR (pc' := 120) (n := 15) (r := 7) dX4_init_117 fl_4_32 (by decide +kernel) (by decide) (by decide +kernel) rfl ?_
  refine ex_iload_n (pc' := 121) dX4_init_120 rfl rfl ?_
  refine en_new (pc' := 124) (a := 28) (nf := 4) (h2 := hh_57) dX4_init_121 kl_4_30 (by decide +kernel) rfl rfl ?_
  refine ex_dup (pc' := 125) dX4_init_124 rfl rfl ?_
  refine en_calliV (pc' := 128) (a := 28) (n := 4) (h2 := hh_57) (vs := []) (rest := [.inr (.inr (some 28)), .inl 2, .inr (.inr (some 7))]) dX4_init_125 ml_4_44 (by decide) ⟨by decide, by decide⟩ rfl rfl (by decide +kernel) (by decide) (by decide) rfl (kc_22 _) ?_
  refine en_aast (pc' := 129) (kd := 16) (n := 8) (nv := 4) (jj := 2) (h2 := hh_58) dX4_init_128 (by decide +kernel) (by decide +kernel) (by decide) (by decide) rfl rfl ?_
  refine ex_iinc (pc' := 132) (v := 3) (ls' := [(1, .inl 3), (0, .inr (.inr (some 2)))]) dX4_init_129 rfl (by decide) (by decide) rfl rfl ?_
  refine ex_goto (pc' := 110) dX4_init_132 (by decide) ?_
  refine ex_iload_n (pc' := 111) dX4_init_110 rfl rfl ?_
  refine ex_bipush (v := 8) (pc' := 113) dX4_init_111 (by decide) rfl ?_
  refine ex_icmp_f (pc' := 116) dX4_init_113 (by decide) (by decide) rfl ?_
  refine ex_aload_n (pc' := 117) dX4_init_116 rfl rfl ?_
  refine ex_getR (pc' := 120) (n := 15) (r := 7) dX4_init_117 fl_4_32 (by decide +kernel) (by decide) (by decide +kernel) rfl ?_
  refine ex_iload_n (pc' := 121) dX4_init_120 rfl rfl ?_
  refine en_new (pc' := 124) (a := 29) (nf := 4) (h2 := hh_59) dX4_init_121 kl_4_30 (by decide +kernel) rfl rfl ?_
  refine ex_dup (pc' := 125) dX4_init_124 rfl rfl ?_
  refine en_calliV (pc' := 128) (a := 29) (n := 4) (h2 := hh_59) (vs := []) (rest := [.inr (.inr (some 29)), .inl 3, .inr (.inr (some 7))]) dX4_init_125 ml_4_44 (by decide) ⟨by decide, by decide⟩ rfl rfl (by decide +kernel) (by decide) (by decide) rfl (kc_23 _) ?_
  refine en_aast (pc' := 129) (kd := 16) (n := 8) (nv := 4) (jj := 3) (h2 := hh_60) dX4_init_128 (by decide +kernel) (by decide +kernel) (by decide) (by decide) rfl rfl ?_
  refine ex_iinc (pc' := 132) (v := 4) (ls' := [(1, .inl 4), (0, .inr (.inr (some 2)))]) dX4_init_129 rfl (by decide) (by decide) rfl rfl ?_
  refine ex_goto (pc' := 110) dX4_init_132 (by decide) ?_
  refine ex_iload_n (pc' := 111) dX4_init_110 rfl rfl ?_
  refine ex_bipush (v := 8) (pc' := 113) dX4_init_111 (by decide) rfl ?_
  refine ex_icmp_f (pc' := 116) dX4_init_113 (by decide) (by decide) rfl ?_
  refine ex_aload_n (pc' := 117) dX4_init_116 rfl rfl ?_
  refine ex_getR (pc' := 120) (n := 15) (r := 7) dX4_init_117 fl_4_32 (by decide +kernel) (by decide) (by decide +kernel) rfl ?_
  refine ex_iload_n (pc' := 121) dX4_init_120 rfl rfl ?_
  refine en_new (pc' := 124) (a := 30) (nf := 4) (h2 := hh_61) dX4_init_121 kl_4_30 (by decide +kernel) rfl rfl ?_
  refine ex_dup (pc' := 125) dX4_init_124 rfl rfl ?_
  refine en_calliV (pc' := 128) (a := 30) (n := 4) (h2 := hh_61) (vs := []) (rest := [.inr (.inr (some 30)), .inl 4, .inr (.inr (some 7))]) dX4_init_125 ml_4_44 (by decide) ⟨by decide, by decide⟩ rfl rfl (by decide +kernel) (by decide) (by decide) rfl (kc_24 _) ?_
  refine en_aast (pc' := 129) (kd := 16) (n := 8) (nv := 4) (jj := 4) (h2 := hh_62) dX4_init_128 (by decide +kernel) (by decide +kernel) (by decide) (by decide) rfl rfl ?_
  refine ex_iinc (pc' := 132) (v := 5) (ls' := [(1, .inl 5), (0, .inr (.inr (some 2)))]) dX4_init_129 rfl (by decide) (by decide) rfl rfl ?_
  refine ex_goto (pc' := 110) dX4_init_132 (by decide) ?_
  refine ex_iload_n (pc' := 111) dX4_init_110 rfl rfl ?_
  refine ex_bipush (v := 8) (pc' := 113) dX4_init_111 (by decide) rfl ?_
  refine ex_icmp_f (pc' := 116) dX4_init_113 (by decide) (by decide) rfl ?_
  refine ex_aload_n (pc' := 117) dX4_init_116 rfl rfl ?_
  refine ex_getR (pc' := 120) (n := 15) (r := 7) dX4_init_117 fl_4_32 (by decide +kernel) (by decide) (by decide +kernel) rfl ?_
  refine ex_iload_n (pc' := 121) dX4_init_120 rfl rfl ?_
  refine en_new (pc' := 124) (a := 31) (nf := 4) (h2 := hh_63) dX4_init_121 kl_4_30 (by decide +kernel) rfl rfl ?_
  refine ex_dup (pc' := 125) dX4_init_124 rfl rfl ?_
  refine en_calliV (pc' := 128) (a := 31) (n := 4) (h2 := hh_63) (vs := []) (rest := [.inr (.inr (some 31)), .inl 5, .inr (.inr (some 7))]) dX4_init_125 ml_4_44 (by decide) ⟨by decide, by decide⟩ rfl rfl (by decide +kernel) (by decide) (by decide) rfl (kc_25 _) ?_
  refine en_aast (pc' := 129) (kd := 16) (n := 8) (nv := 4) (jj := 5) (h2 := hh_64) dX4_init_128 (by decide +kernel) (by decide +kernel) (by decide) (by decide) rfl rfl ?_
  refine ex_iinc (pc' := 132) (v := 6) (ls' := [(1, .inl 6), (0, .inr (.inr (some 2)))]) dX4_init_129 rfl (by decide) (by decide) rfl rfl ?_
  refine ex_goto (pc' := 110) dX4_init_132 (by decide) ?_
  refine ex_iload_n (pc' := 111) dX4_init_110 rfl rfl ?_
  refine ex_bipush (v := 8) (pc' := 113) dX4_init_111 (by decide) rfl ?_
  refine ex_icmp_f (pc' := 116) dX4_init_113 (by decide) (by decide) rfl ?_
  refine ex_aload_n (pc' := 117) dX4_init_116 rfl rfl ?_
  refine ex_getR (pc' := 120) (n := 15) (r := 7) dX4_init_117 fl_4_32 (by decide +kernel) (by decide) (by decide +kernel) rfl ?_
  refine ex_iload_n (pc' := 121) dX4_init_120 rfl rfl ?_
  refine en_new (pc' := 124) (a := 32) (nf := 4) (h2 := hh_65) dX4_init_121 kl_4_30 (by decide +kernel) rfl rfl ?_
  refine ex_dup (pc' := 125) dX4_init_124 rfl rfl ?_
  refine en_calliV (pc' := 128) (a := 32) (n := 4) (h2 := hh_65) (vs := []) (rest := [.inr (.inr (some 32)), .inl 6, .inr (.inr (some 7))]) dX4_init_125 ml_4_44 (by decide) ⟨by decide, by decide⟩ rfl rfl (by decide +kernel) (by decide) (by decide) rfl (kc_26 _) ?_
  refine en_aast (pc' := 129) (kd := 16) (n := 8) (nv := 4) (jj := 6) (h2 := hh_66) dX4_init_128 (by decide +kernel) (by decide +kernel) (by decide) (by decide) rfl rfl ?_
  refine ex_iinc (pc' := 132) (v := 7) (ls' := [(1, .inl 7), (0, .inr (.inr (some 2)))]) dX4_init_129 rfl (by decide) (by decide) rfl rfl ?_
  refine ex_goto (pc' := 110) dX4_init_132 (by decide) ?_
  refine ex_iload_n (pc' := 111) dX4_init_110 rfl rfl ?_
  refine ex_bipush (v := 8) (pc' := 113) dX4_init_111 (by decide) rfl ?_
  refine ex_icmp_f (pc' := 116) dX4_init_113 (by decide) (by decide) rfl ?_
  refine ex_aload_n (pc' := 117) dX4_init_116 rfl rfl ?_
  refine ex_getR (pc' := 120) (n := 15) (r := 7) dX4_init_117 fl_4_32 (by decide +kernel) (by decide) (by decide +kernel) rfl ?_
  refine ex_iload_n (pc' := 121) dX4_init_120 rfl rfl ?_
  refine en_new (pc' := 124) (a := 33) (nf := 4) (h2 := hh_67) dX4_init_121 kl_4_30 (by decide +kernel) rfl rfl ?_
  refine ex_dup (pc' := 125) dX4_init_124 rfl rfl ?_
  refine en_calliV (pc' := 128) (a := 33) (n := 4) (h2 := hh_67) (vs := []) (rest := [.inr (.inr (some 33)), .inl 7, .inr (.inr (some 7))]) dX4_init_125 ml_4_44 (by decide) ⟨by decide, by decide⟩ rfl rfl (by decide +kernel) (by decide) (by decide) rfl (kc_27 _) ?_
  refine en_aast (pc' := 129) (kd := 16) (n := 8) (nv := 4) (jj := 7) (h2 := hh_68) dX4_init_128 (by decide +kernel) (by decide +kernel) (by decide) (by decide) rfl rfl ?_
  refine ex_iinc (pc' := 132) (v := 8) (ls' := [(1, .inl 8), (0, .inr (.inr (some 2)))]) dX4_init_129 rfl (by decide) (by decide) rfl rfl ?_
  refine ex_goto (pc' := 110) dX4_init_132 (by decide) ?_
  refine ex_iload_n (pc' := 111) dX4_init_110 rfl rfl ?_
  refine ex_bipush (v := 8) (pc' := 113) dX4_init_111 (by decide) rfl ?_
  refine ex_icmp_t (pc' := 135) dX4_init_113 (by decide) (by decide) ?_
  refine ex_iconst (v := 0) (pc' := 136) dX4_init_135 (by decide) rfl ?_
  refine ex_istore_n (pc' := 137) (ls' := [(1, .inl 0), (0, .inr (.inr (some 2)))]) dX4_init_136 (by decide) rfl rfl ?_
  refine ex_iload_n (pc' := 138) dX4_init_137 rfl rfl ?_
  refine ex_bipush (v := 8) (pc' := 140) dX4_init_138 (by decide) rfl ?_
  refine ex_icmp_f (pc' := 143) dX4_init_140 (by decide) (by decide) rfl ?_
  refine ex_aload_n (pc' := 144) dX4_init_143 rfl rfl ?_
  refine ex_getR (pc' := 147) (n := 15) (r := 8) dX4_init_144 fl_4_38 (by decide +kernel) (by decide) (by decide +kernel) rfl ?_
  refine ex_iload_n (pc' := 148) dX4_init_147 rfl rfl ?_
  refine en_new (pc' := 151) (a := 34) (nf := 3) (h2 := hh_69) dX4_init_148 kl_4_36 (by decide +kernel) rfl rfl ?_
  refine ex_dup (pc' := 152) dX4_init_151 rfl rfl ?_
  refine en_calliV (pc' := 155) (a := 34) (n := 3) (h2 := hh_69) (vs := []) (rest := [.inr (.inr (some 34)), .inl 0, .inr (.inr (some 8))]) dX4_init_152 ml_4_45 (by decide) ⟨by decide, by decide⟩ rfl rfl (by decide +kernel) (by decide) (by decide) rfl (kc_28 _) ?_
  refine en_aast (pc' := 156) (kd := 18) (n := 8) (nv := 3) (jj := 0) (h2 := hh_70) dX4_init_155 (by decide +kernel) (by decide +kernel) (by decide) (by decide) rfl rfl ?_
  refine ex_iinc (pc' := 159) (v := 1) (ls' := [(1, .inl 1), (0, .inr (.inr (some 2)))]) dX4_init_156 rfl (by decide) (by decide) rfl rfl ?_
  refine ex_goto (pc' := 137) dX4_init_159 (by decide) ?_
  refine ex_iload_n (pc' := 138) dX4_init_137 rfl rfl ?_
  refine ex_bipush (v := 8) (pc' := 140) dX4_init_138 (by decide) rfl ?_
  refine ex_icmp_f (pc' := 143) dX4_init_140 (by decide) (by decide) rfl ?_
  refine ex_aload_n (pc' := 144) dX4_init_143 rfl rfl ?_
  refine ex_getR (pc' := 147) (n := 15) (r := 8) dX4_init_144 fl_4_38 (by decide +kernel) (by decide) (by decide +kernel) rfl ?_
  refine ex_iload_n (pc' := 148) dX4_init_147 rfl rfl ?_
  refine en_new (pc' := 151) (a := 35) (nf := 3) (h2 := hh_71) dX4_init_148 kl_4_36 (by decide +kernel) rfl rfl ?_
  refine ex_dup (pc' := 152) dX4_init_151 rfl rfl ?_
  refine en_calliV (pc' := 155) (a := 35) (n := 3) (h2 := hh_71) (vs := []) (rest := [.inr (.inr (some 35)), .inl 1, .inr (.inr (some 8))]) dX4_init_152 ml_4_45 (by decide) ⟨by decide, by decide⟩ rfl rfl (by decide +kernel) (by decide) (by decide) rfl (kc_29 _) ?_
  refine en_aast (pc' := 156) (kd := 18) (n := 8) (nv := 3) (jj := 1) (h2 := hh_72) dX4_init_155 (by decide +kernel) (by decide +kernel) (by decide) (by decide) rfl rfl ?_
  refine ex_iinc (pc' := 159) (v := 2) (ls' := [(1, .inl 2), (0, .inr (.inr (some 2)))]) dX4_init_156 rfl (by decide) (by decide) rfl rfl ?_
  refine ex_goto (pc' := 137) dX4_init_159 (by decide) ?_
  refine ex_iload_n (pc' := 138) dX4_init_137 rfl rfl ?_
  refine ex_bipush (v := 8) (pc' := 140) dX4_init_138 (by decide) rfl ?_
  refine ex_icmp_f (pc' := 143) dX4_init_140 (by decide) (by decide) rfl ?_
  refine ex_aload_n (pc' := 144) dX4_init_143 rfl rfl ?_
  refine ex_getR (pc' := 147) (n := 15) (r := 8) dX4_init_144 fl_4_38 (by decide +kernel) (by decide) (by decide +kernel) rfl ?_
  refine ex_iload_n (pc' := 148) dX4_init_147 rfl rfl ?_
  refine en_new (pc' := 151) (a := 36) (nf := 3) (h2 := hh_73) dX4_init_148 kl_4_36 (by decide +kernel) rfl rfl ?_
  refine ex_dup (pc' := 152) dX4_init_151 rfl rfl ?_
  refine en_calliV (pc' := 155) (a := 36) (n := 3) (h2 := hh_73) (vs := []) (rest := [.inr (.inr (some 36)), .inl 2, .inr (.inr (some 8))]) dX4_init_152 ml_4_45 (by decide) ⟨by decide, by decide⟩ rfl rfl (by decide +kernel) (by decide) (by decide) rfl (kc_30 _) ?_
  refine en_aast (pc' := 156) (kd := 18) (n := 8) (nv := 3) (jj := 2) (h2 := hh_74) dX4_init_155 (by decide +kernel) (by decide +kernel) (by decide) (by decide) rfl rfl ?_
  refine ex_iinc (pc' := 159) (v := 3) (ls' := [(1, .inl 3), (0, .inr (.inr (some 2)))]) dX4_init_156 rfl (by decide) (by decide) rfl rfl ?_
  refine ex_goto (pc' := 137) dX4_init_159 (by decide) ?_
  refine ex_iload_n (pc' := 138) dX4_init_137 rfl rfl ?_
  refine ex_bipush (v := 8) (pc' := 140) dX4_init_138 (by decide) rfl ?_
  refine ex_icmp_f (pc' := 143) dX4_init_140 (by decide) (by decide) rfl ?_
  refine ex_aload_n (pc' := 144) dX4_init_143 rfl rfl ?_
  refine ex_getR (pc' := 147) (n := 15) (r := 8) dX4_init_144 fl_4_38 (by decide +kernel) (by decide) (by decide +kernel) rfl ?_
  refine ex_iload_n (pc' := 148) dX4_init_147 rfl rfl ?_
  refine en_new (pc' := 151) (a := 37) (nf := 3) (h2 := hh_75) dX4_init_148 kl_4_36 (by decide +kernel) rfl rfl ?_
  refine ex_dup (pc' := 152) dX4_init_151 rfl rfl ?_
  refine en_calliV (pc' := 155) (a := 37) (n := 3) (h2 := hh_75) (vs := []) (rest := [.inr (.inr (some 37)), .inl 3, .inr (.inr (some 8))]) dX4_init_152 ml_4_45 (by decide) ⟨by decide, by decide⟩ rfl rfl (by decide +kernel) (by decide) (by decide) rfl (kc_31 _) ?_
  refine en_aast (pc' := 156) (kd := 18) (n := 8) (nv := 3) (jj := 3) (h2 := hh_76) dX4_init_155 (by decide +kernel) (by decide +kernel) (by decide) (by decide) rfl rfl ?_
  refine ex_iinc (pc' := 159) (v := 4) (ls' := [(1, .inl 4), (0, .inr (.inr (some 2)))]) dX4_init_156 rfl (by decide) (by decide) rfl rfl ?_
  refine ex_goto (pc' := 137) dX4_init_159 (by decide) ?_
  refine ex_iload_n (pc' := 138) dX4_init_137 rfl rfl ?_
  refine ex_bipush (v := 8) (pc' := 140) dX4_init_138 (by decide) rfl ?_
  refine ex_icmp_f (pc' := 143) dX4_init_140 (by decide) (by decide) rfl ?_
  refine ex_aload_n (pc' := 144) dX4_init_143 rfl rfl ?_
  refine ex_getR (pc' := 147) (n := 15) (r := 8) dX4_init_144 fl_4_38 (by decide +kernel) (by decide) (by decide +kernel) rfl ?_
  refine ex_iload_n (pc' := 148) dX4_init_147 rfl rfl ?_
  refine en_new (pc' := 151) (a := 38) (nf := 3) (h2 := hh_77) dX4_init_148 kl_4_36 (by decide +kernel) rfl rfl ?_
  refine ex_dup (pc' := 152) dX4_init_151 rfl rfl ?_
  refine en_calliV (pc' := 155) (a := 38) (n := 3) (h2 := hh_77) (vs := []) (rest := [.inr (.inr (some 38)), .inl 4, .inr (.inr (some 8))]) dX4_init_152 ml_4_45 (by decide) ⟨by decide, by decide⟩ rfl rfl (by decide +kernel) (by decide) (by decide) rfl (kc_32 _) ?_
  refine en_aast (pc' := 156) (kd := 18) (n := 8) (nv := 3) (jj := 4) (h2 := hh_78) dX4_init_155 (by decide +kernel) (by decide +kernel) (by decide) (by decide) rfl rfl ?_
  refine ex_iinc (pc' := 159) (v := 5) (ls' := [(1, .inl 5), (0, .inr (.inr (some 2)))]) dX4_init_156 rfl (by decide) (by decide) rfl rfl ?_
  refine ex_goto (pc' := 137) dX4_init_159 (by decide) ?_
  refine ex_iload_n (pc' := 138) dX4_init_137 rfl rfl ?_
  refine ex_bipush (v := 8) (pc' := 140) dX4_init_138 (by decide) rfl ?_
  refine ex_icmp_f (pc' := 143) dX4_init_140 (by decide) (by decide) rfl ?_
  refine ex_aload_n (pc' := 144) dX4_init_143 rfl rfl ?_
  refine ex_getR (pc' := 147) (n := 15) (r := 8) dX4_init_144 fl_4_38 (by decide +kernel) (by decide) (by decide +kernel) rfl ?_
  refine ex_iload_n (pc' := 148) dX4_init_147 rfl rfl ?_
  refine en_new (pc' := 151) (a := 39) (nf := 3) (h2 := hh_79) dX4_init_148 kl_4_36 (by decide +kernel) rfl rfl ?_
  refine ex_dup (pc' := 152) dX4_init_151 rfl rfl ?_
  refine en_calliV (pc' := 155) (a := 39) (n := 3) (h2 := hh_79) (vs := []) (rest := [.inr (.inr (some 39)), .inl 5, .inr (.inr (some 8))]) dX4_init_152 ml_4_45 (by decide) ⟨by decide, by decide⟩ rfl rfl (by decide +kernel) (by decide) (by decide) rfl (kc_33 _) ?_
  refine en_aast (pc' := 156) (kd := 18) (n := 8) (nv := 3) (jj := 5) (h2 := hh_80) dX4_init_155 (by decide +kernel) (by decide +kernel) (by decide) (by decide) rfl rfl ?_
  refine ex_iinc (pc' := 159) (v := 6) (ls' := [(1, .inl 6), (0, .inr (.inr (some 2)))]) dX4_init_156 rfl (by decide) (by decide) rfl rfl ?_
  refine ex_goto (pc' := 137) dX4_init_159 (by decide) ?_
  refine ex_iload_n (pc' := 138) dX4_init_137 rfl rfl ?_
  refine ex_bipush (v := 8) (pc' := 140) dX4_init_138 (by decide) rfl ?_
  refine ex_icmp_f (pc' := 143) dX4_init_140 (by decide) (by decide) rfl ?_
  refine ex_aload_n (pc' := 144) dX4_init_143 rfl rfl ?_
  refine ex_getR (pc' := 147) (n := 15) (r := 8) dX4_init_144 fl_4_38 (by decide +kernel) (by decide) (by decide +kernel) rfl ?_
  refine ex_iload_n (pc' := 148) dX4_init_147 rfl rfl ?_
  refine en_new (pc' := 151) (a := 40) (nf := 3) (h2 := hh_81) dX4_init_148 kl_4_36 (by decide +kernel) rfl rfl ?_
  refine ex_dup (pc' := 152) dX4_init_151 rfl rfl ?_
  refine en_calliV (pc' := 155) (a := 40) (n := 3) (h2 := hh_81) (vs := []) (rest := [.inr (.inr (some 40)), .inl 6, .inr (.inr (some 8))]) dX4_init_152 ml_4_45 (by decide) ⟨by decide, by decide⟩ rfl rfl (by decide +kernel) (by decide) (by decide) rfl (kc_34 _) ?_
  refine en_aast (pc' := 156) (kd := 18) (n := 8) (nv := 3) (jj := 6) (h2 := hh_82) dX4_init_155 (by decide +kernel) (by decide +kernel) (by decide) (by decide) rfl rfl ?_
  refine ex_iinc (pc' := 159) (v := 7) (ls' := [(1, .inl 7), (0, .inr (.inr (some 2)))]) dX4_init_156 rfl (by decide) (by decide) rfl rfl ?_
  refine ex_goto (pc' := 137) dX4_init_159 (by decide) ?_
  refine ex_iload_n (pc' := 138) dX4_init_137 rfl rfl ?_
  refine ex_bipush (v := 8) (pc' := 140) dX4_init_138 (by decide) rfl ?_
  refine ex_icmp_f (pc' := 143) dX4_init_140 (by decide) (by decide) rfl ?_
  refine ex_aload_n (pc' := 144) dX4_init_143 rfl rfl ?_
  refine ex_getR (pc' := 147) (n := 15) (r := 8) dX4_init_144 fl_4_38 (by decide +kernel) (by decide) (by decide +kernel) rfl ?_
  refine ex_iload_n (pc' := 148) dX4_init_147 rfl rfl ?_
  refine en_new (pc' := 151) (a := 41) (nf := 3) (h2 := hh_83) dX4_init_148 kl_4_36 (by decide +kernel) rfl rfl ?_
  refine ex_dup (pc' := 152) dX4_init_151 rfl rfl ?_
  refine en_calliV (pc' := 155) (a := 41) (n := 3) (h2 := hh_83) (vs := []) (rest := [.inr (.inr (some 41)), .inl 7, .inr (.inr (some 8))]) dX4_init_152 ml_4_45 (by decide) ⟨by decide, by decide⟩ rfl rfl (by decide +kernel) (by decide) (by decide) rfl (kc_35 _) ?_
  refine en_aast (pc' := 156) (kd := 18) (n := 8) (nv := 3) (jj := 7) (h2 := hh_84) dX4_init_155 (by decide +kernel) (by decide +kernel) (by decide) (by decide) rfl rfl ?_
  refine ex_iinc (pc' := 159) (v := 8) (ls' := [(1, .inl 8), (0, .inr (.inr (some 2)))]) dX4_init_156 rfl (by decide) (by decide) rfl rfl ?_
  refine ex_goto (pc' := 137) dX4_init_159 (by decide) ?_
  refine ex_iload_n (pc' := 138) dX4_init_137 rfl rfl ?_
  refine ex_bipush (v := 8) (pc' := 140) dX4_init_138 (by decide) rfl ?_
  refine ex_icmp_t (pc' := 162) dX4_init_140 (by decide) (by decide) ?_
  exact ex_vretV dX4_init_162 rfl rfl
set_option maxRecDepth 20000 in
theorem kc_37 (d : Nat) : zCv (d + 1) mX9_init [.inr (.inr (some 49))] hh_99 (fun h' => h' = hh_99) := by
  show zEx none (d + 1) mX9_init (0, [(0, .inr (.inr (some 49)))], [], hh_99) _
  refine ex_aload_n (pc' := 1) dX9_init_0 rfl rfl ?_
  refine ex_obj (pc' := 4) dX9_init_1 ml_9_1 (by decide) rfl ?_
  exact ex_vretV dX9_init_4 rfl rfl
set_option maxRecDepth 20000 in
theorem kc_38 (d : Nat) : zCv (d + 1) mX9_init [.inr (.inr (some 50))] hh_101 (fun h' => h' = hh_101) := by
  show zEx none (d + 1) mX9_init (0, [(0, .inr (.inr (some 50)))], [], hh_101) _
  refine ex_aload_n (pc' := 1) dX9_init_0 rfl rfl ?_
  refine ex_obj (pc' := 4) dX9_init_1 ml_9_1 (by decide) rfl ?_
  exact ex_vretV dX9_init_4 rfl rfl
set_option maxRecDepth 20000 in
theorem kc_39 (d : Nat) : zCv (d + 1) mX9_init [.inr (.inr (some 51))] hh_103 (fun h' => h' = hh_103) := by
  show zEx none (d + 1) mX9_init (0, [(0, .inr (.inr (some 51)))], [], hh_103) _
  refine ex_aload_n (pc' := 1) dX9_init_0 rfl rfl ?_
  refine ex_obj (pc' := 4) dX9_init_1 ml_9_1 (by decide) rfl ?_
  exact ex_vretV dX9_init_4 rfl rfl
set_option maxRecDepth 20000 in
theorem kc_40 (d : Nat) : zCv (d + 1) mX9_init [.inr (.inr (some 52))] hh_105 (fun h' => h' = hh_105) := by
  show zEx none (d + 1) mX9_init (0, [(0, .inr (.inr (some 52)))], [], hh_105) _
  refine ex_aload_n (pc' := 1) dX9_init_0 rfl rfl ?_
  refine ex_obj (pc' := 4) dX9_init_1 ml_9_1 (by decide) rfl ?_
  exact ex_vretV dX9_init_4 rfl rfl
set_option maxRecDepth 20000 in
theorem kc_41 (d : Nat) : zCv (d + 1) mX9_init [.inr (.inr (some 53))] hh_107 (fun h' => h' = hh_107) := by
  show zEx none (d + 1) mX9_init (0, [(0, .inr (.inr (some 53)))], [], hh_107) _
  refine ex_aload_n (pc' := 1) dX9_init_0 rfl rfl ?_
  refine ex_obj (pc' := 4) dX9_init_1 ml_9_1 (by decide) rfl ?_
  exact ex_vretV dX9_init_4 rfl rfl
set_option maxRecDepth 20000 in
theorem kc_42 (d : Nat) : zCv (d + 1) mX9_init [.inr (.inr (some 54))] hh_109 (fun h' => h' = hh_109) := by
  show zEx none (d + 1) mX9_init (0, [(0, .inr (.inr (some 54)))], [], hh_109) _
  refine ex_aload_n (pc' := 1) dX9_init_0 rfl rfl ?_
  refine ex_obj (pc' := 4) dX9_init_1 ml_9_1 (by decide) rfl ?_
  exact ex_vretV dX9_init_4 rfl rfl
set_option maxRecDepth 20000 in
theorem kc_43 (d : Nat) : zCv (d + 1) mX9_init [.inr (.inr (some 55))] hh_111 (fun h' => h' = hh_111) := by
  show zEx none (d + 1) mX9_init (0, [(0, .inr (.inr (some 55)))], [], hh_111) _
  refine ex_aload_n (pc' := 1) dX9_init_0 rfl rfl ?_
  refine ex_obj (pc' := 4) dX9_init_1 ml_9_1 (by decide) rfl ?_
  exact ex_vretV dX9_init_4 rfl rfl
set_option maxRecDepth 20000 in
theorem kc_44 (d : Nat) : zCv (d + 1) mX9_init [.inr (.inr (some 56))] hh_113 (fun h' => h' = hh_113) := by
  show zEx none (d + 1) mX9_init (0, [(0, .inr (.inr (some 56)))], [], hh_113) _
  refine ex_aload_n (pc' := 1) dX9_init_0 rfl rfl ?_
  refine ex_obj (pc' := 4) dX9_init_1 ml_9_1 (by decide) rfl ?_
  exact ex_vretV dX9_init_4 rfl rfl
set_option maxRecDepth 20000 in
theorem kc_45 (d : Nat) : zCv (d + 1) mX9_init [.inr (.inr (some 57))] hh_115 (fun h' => h' = hh_115) := by
  show zEx none (d + 1) mX9_init (0, [(0, .inr (.inr (some 57)))], [], hh_115) _
  refine ex_aload_n (pc' := 1) dX9_init_0 rfl rfl ?_
  refine ex_obj (pc' := 4) dX9_init_1 ml_9_1 (by decide) rfl ?_
  exact ex_vretV dX9_init_4 rfl rfl
set_option maxRecDepth 20000 in
theorem kc_46 (d : Nat) : zCv (d + 1) mX9_init [.inr (.inr (some 58))] hh_117 (fun h' => h' = hh_117) := by
  show zEx none (d + 1) mX9_init (0, [(0, .inr (.inr (some 58)))], [], hh_117) _
  refine ex_aload_n (pc' := 1) dX9_init_0 rfl rfl ?_
  refine ex_obj (pc' := 4) dX9_init_1 ml_9_1 (by decide) rfl ?_
  exact ex_vretV dX9_init_4 rfl rfl
set_option maxRecDepth 20000 in
theorem kc_47 (d : Nat) : zCv (d + 1) mX9_init [.inr (.inr (some 59))] hh_119 (fun h' => h' = hh_119) := by
  show zEx none (d + 1) mX9_init (0, [(0, .inr (.inr (some 59)))], [], hh_119) _
  refine ex_aload_n (pc' := 1) dX9_init_0 rfl rfl ?_
  refine ex_obj (pc' := 4) dX9_init_1 ml_9_1 (by decide) rfl ?_
  exact ex_vretV dX9_init_4 rfl rfl
set_option maxRecDepth 20000 in
theorem kc_48 (d : Nat) : zCv (d + 1) mX9_init [.inr (.inr (some 60))] hh_121 (fun h' => h' = hh_121) := by
  show zEx none (d + 1) mX9_init (0, [(0, .inr (.inr (some 60)))], [], hh_121) _
  refine ex_aload_n (pc' := 1) dX9_init_0 rfl rfl ?_
  refine ex_obj (pc' := 4) dX9_init_1 ml_9_1 (by decide) rfl ?_
  exact ex_vretV dX9_init_4 rfl rfl
set_option maxRecDepth 20000 in
theorem kc_49 (d : Nat) : zCv (d + 1) mX10_init [.inr (.inr (some 61))] hh_123 (fun h' => h' = hh_123) := by
  show zEx none (d + 1) mX10_init (0, [(0, .inr (.inr (some 61)))], [], hh_123) _
  refine ex_aload_n (pc' := 1) dX10_init_0 rfl rfl ?_
  refine ex_obj (pc' := 4) dX10_init_1 ml_10_1 (by decide) rfl ?_
  exact ex_vretV dX10_init_4 rfl rfl
set_option maxRecDepth 20000 in
theorem kc_50 (d : Nat) : zCv (d + 1) mX10_init [.inr (.inr (some 62))] hh_125 (fun h' => h' = hh_125) := by
  show zEx none (d + 1) mX10_init (0, [(0, .inr (.inr (some 62)))], [], hh_125) _
  refine ex_aload_n (pc' := 1) dX10_init_0 rfl rfl ?_
  refine ex_obj (pc' := 4) dX10_init_1 ml_10_1 (by decide) rfl ?_
  exact ex_vretV dX10_init_4 rfl rfl
set_option maxRecDepth 20000 in
theorem kc_51 (d : Nat) : zCv (d + 1) mX10_init [.inr (.inr (some 63))] hh_127 (fun h' => h' = hh_127) := by
  show zEx none (d + 1) mX10_init (0, [(0, .inr (.inr (some 63)))], [], hh_127) _
  refine ex_aload_n (pc' := 1) dX10_init_0 rfl rfl ?_
  refine ex_obj (pc' := 4) dX10_init_1 ml_10_1 (by decide) rfl ?_
  exact ex_vretV dX10_init_4 rfl rfl
set_option maxRecDepth 20000 in
theorem kc_52 (d : Nat) : zCv (d + 1) mX10_init [.inr (.inr (some 64))] hh_129 (fun h' => h' = hh_129) := by
  show zEx none (d + 1) mX10_init (0, [(0, .inr (.inr (some 64)))], [], hh_129) _
  refine ex_aload_n (pc' := 1) dX10_init_0 rfl rfl ?_
  refine ex_obj (pc' := 4) dX10_init_1 ml_10_1 (by decide) rfl ?_
  exact ex_vretV dX10_init_4 rfl rfl
set_option maxRecDepth 20000 in
theorem kc_53 (d : Nat) : zCv (d + 1) mX10_init [.inr (.inr (some 65))] hh_131 (fun h' => h' = hh_131) := by
  show zEx none (d + 1) mX10_init (0, [(0, .inr (.inr (some 65)))], [], hh_131) _
  refine ex_aload_n (pc' := 1) dX10_init_0 rfl rfl ?_
  refine ex_obj (pc' := 4) dX10_init_1 ml_10_1 (by decide) rfl ?_
  exact ex_vretV dX10_init_4 rfl rfl
set_option maxRecDepth 20000 in
theorem kc_54 (d : Nat) : zCv (d + 1) mX0_init [.inr (.inr (some 66))] hh_133 (fun h' => h' = hh_133) := by
  show zEx none (d + 1) mX0_init (0, [(0, .inr (.inr (some 66)))], [], hh_133) _
  refine ex_aload_n (pc' := 1) dX0_init_0 rfl rfl ?_
  refine ex_obj (pc' := 4) dX0_init_1 ml_0_1 (by decide) rfl ?_
  exact ex_vretV dX0_init_4 rfl rfl
set_option maxRecDepth 20000 in
theorem kc_55 (d : Nat) : zCv (d + 1) mX0_init [.inr (.inr (some 67))] hh_135 (fun h' => h' = hh_135) := by
  show zEx none (d + 1) mX0_init (0, [(0, .inr (.inr (some 67)))], [], hh_135) _
  refine ex_aload_n (pc' := 1) dX0_init_0 rfl rfl ?_
  refine ex_obj (pc' := 4) dX0_init_1 ml_0_1 (by decide) rfl ?_
  exact ex_vretV dX0_init_4 rfl rfl
set_option maxRecDepth 20000 in
theorem kc_56 (d : Nat) : zCv (d + 1) mX0_init [.inr (.inr (some 68))] hh_137 (fun h' => h' = hh_137) := by
  show zEx none (d + 1) mX0_init (0, [(0, .inr (.inr (some 68)))], [], hh_137) _
  refine ex_aload_n (pc' := 1) dX0_init_0 rfl rfl ?_
  refine ex_obj (pc' := 4) dX0_init_1 ml_0_1 (by decide) rfl ?_
  exact ex_vretV dX0_init_4 rfl rfl
set_option maxRecDepth 20000 in
theorem kc_57 (d : Nat) : zCv (d + 1) mX0_init [.inr (.inr (some 69))] hh_139 (fun h' => h' = hh_139) := by
  show zEx none (d + 1) mX0_init (0, [(0, .inr (.inr (some 69)))], [], hh_139) _
  refine ex_aload_n (pc' := 1) dX0_init_0 rfl rfl ?_
  refine ex_obj (pc' := 4) dX0_init_1 ml_0_1 (by decide) rfl ?_
  exact ex_vretV dX0_init_4 rfl rfl
set_option maxRecDepth 20000 in
theorem kc_58 (d : Nat) : zCv (d + 1) mX0_init [.inr (.inr (some 70))] hh_141 (fun h' => h' = hh_141) := by
  show zEx none (d + 1) mX0_init (0, [(0, .inr (.inr (some 70)))], [], hh_141) _
  refine ex_aload_n (pc' := 1) dX0_init_0 rfl rfl ?_
  refine ex_obj (pc' := 4) dX0_init_1 ml_0_1 (by decide) rfl ?_
  exact ex_vretV dX0_init_4 rfl rfl
set_option maxRecDepth 20000 in
theorem kc_59 (d : Nat) : zCv (d + 1) mX0_init [.inr (.inr (some 71))] hh_143 (fun h' => h' = hh_143) := by
  show zEx none (d + 1) mX0_init (0, [(0, .inr (.inr (some 71)))], [], hh_143) _
  refine ex_aload_n (pc' := 1) dX0_init_0 rfl rfl ?_
  refine ex_obj (pc' := 4) dX0_init_1 ml_0_1 (by decide) rfl ?_
  exact ex_vretV dX0_init_4 rfl rfl
set_option maxRecDepth 20000 in
theorem kc_60 (d : Nat) : zCv (d + 1) mX0_init [.inr (.inr (some 72))] hh_145 (fun h' => h' = hh_145) := by
  show zEx none (d + 1) mX0_init (0, [(0, .inr (.inr (some 72)))], [], hh_145) _
  refine ex_aload_n (pc' := 1) dX0_init_0 rfl rfl ?_
  refine ex_obj (pc' := 4) dX0_init_1 ml_0_1 (by decide) rfl ?_
  exact ex_vretV dX0_init_4 rfl rfl
set_option maxRecDepth 20000 in
theorem kc_61 (d : Nat) : zCv (d + 1) mX0_init [.inr (.inr (some 73))] hh_147 (fun h' => h' = hh_147) := by
  show zEx none (d + 1) mX0_init (0, [(0, .inr (.inr (some 73)))], [], hh_147) _
  refine ex_aload_n (pc' := 1) dX0_init_0 rfl rfl ?_
  refine ex_obj (pc' := 4) dX0_init_1 ml_0_1 (by decide) rfl ?_
  exact ex_vretV dX0_init_4 rfl rfl
set_option maxRecDepth 20000 in
theorem kc_62 (d : Nat) : zCv (d + 1) mX8_init [.inr (.inr (some 74))] hh_149 (fun h' => h' = hh_149) := by
  show zEx none (d + 1) mX8_init (0, [(0, .inr (.inr (some 74)))], [], hh_149) _
  refine ex_aload_n (pc' := 1) dX8_init_0 rfl rfl ?_
  refine ex_obj (pc' := 4) dX8_init_1 ml_8_1 (by decide) rfl ?_
  exact ex_vretV dX8_init_4 rfl rfl
set_option maxRecDepth 20000 in
theorem kc_63 (d : Nat) : zCv (d + 1) mX8_init [.inr (.inr (some 75))] hh_151 (fun h' => h' = hh_151) := by
  show zEx none (d + 1) mX8_init (0, [(0, .inr (.inr (some 75)))], [], hh_151) _
  refine ex_aload_n (pc' := 1) dX8_init_0 rfl rfl ?_
  refine ex_obj (pc' := 4) dX8_init_1 ml_8_1 (by decide) rfl ?_
  exact ex_vretV dX8_init_4 rfl rfl
set_option maxRecDepth 20000 in
theorem kc_64 (d : Nat) : zCv (d + 1) mX8_init [.inr (.inr (some 76))] hh_153 (fun h' => h' = hh_153) := by
  show zEx none (d + 1) mX8_init (0, [(0, .inr (.inr (some 76)))], [], hh_153) _
  refine ex_aload_n (pc' := 1) dX8_init_0 rfl rfl ?_
  refine ex_obj (pc' := 4) dX8_init_1 ml_8_1 (by decide) rfl ?_
  exact ex_vretV dX8_init_4 rfl rfl
set_option maxRecDepth 20000 in
theorem kc_65 (d : Nat) : zCv (d + 1) mX8_init [.inr (.inr (some 77))] hh_155 (fun h' => h' = hh_155) := by
  show zEx none (d + 1) mX8_init (0, [(0, .inr (.inr (some 77)))], [], hh_155) _
  refine ex_aload_n (pc' := 1) dX8_init_0 rfl rfl ?_
  refine ex_obj (pc' := 4) dX8_init_1 ml_8_1 (by decide) rfl ?_
  exact ex_vretV dX8_init_4 rfl rfl
set_option maxRecDepth 20000 in
theorem kc_66 (d : Nat) : zCv (d + 1) mX8_init [.inr (.inr (some 78))] hh_157 (fun h' => h' = hh_157) := by
  show zEx none (d + 1) mX8_init (0, [(0, .inr (.inr (some 78)))], [], hh_157) _
  refine ex_aload_n (pc' := 1) dX8_init_0 rfl rfl ?_
  refine ex_obj (pc' := 4) dX8_init_1 ml_8_1 (by decide) rfl ?_
  exact ex_vretV dX8_init_4 rfl rfl
set_option maxRecDepth 20000 in
theorem kc_67 (d : Nat) : zCv (d + 1) mX8_init [.inr (.inr (some 79))] hh_159 (fun h' => h' = hh_159) := by
  show zEx none (d + 1) mX8_init (0, [(0, .inr (.inr (some 79)))], [], hh_159) _
  refine ex_aload_n (pc' := 1) dX8_init_0 rfl rfl ?_
  refine ex_obj (pc' := 4) dX8_init_1 ml_8_1 (by decide) rfl ?_
  exact ex_vretV dX8_init_4 rfl rfl
set_option maxRecDepth 20000 in
theorem kc_68 (d : Nat) : zCv (d + 1) mX8_init [.inr (.inr (some 80))] hh_161 (fun h' => h' = hh_161) := by
  show zEx none (d + 1) mX8_init (0, [(0, .inr (.inr (some 80)))], [], hh_161) _
  refine ex_aload_n (pc' := 1) dX8_init_0 rfl rfl ?_
  refine ex_obj (pc' := 4) dX8_init_1 ml_8_1 (by decide) rfl ?_
  exact ex_vretV dX8_init_4 rfl rfl
set_option maxRecDepth 20000 in
theorem kc_69 (d : Nat) : zCv (d + 1) mX8_init [.inr (.inr (some 81))] hh_163 (fun h' => h' = hh_163) := by
  show zEx none (d + 1) mX8_init (0, [(0, .inr (.inr (some 81)))], [], hh_163) _
  refine ex_aload_n (pc' := 1) dX8_init_0 rfl rfl ?_
  refine ex_obj (pc' := 4) dX8_init_1 ml_8_1 (by decide) rfl ?_
  exact ex_vretV dX8_init_4 rfl rfl
set_option maxRecDepth 20000 in
theorem kc_36 (d : Nat) : zCv (d + 2) mX4_init [.inr (.inr (some 42))] hh_86 (fun h' => h' = hh_164) := by
  show zEx none (d + 2) mX4_init (0, [(0, .inr (.inr (some 42)))], [], hh_86) _
  refine ex_aload_n (pc' := 1) dX4_init_0 rfl rfl ?_
  refine ex_obj (pc' := 4) dX4_init_1 ml_4_3 (by decide) rfl ?_
  refine ex_aload_n (pc' := 5) dX4_init_4 rfl rfl ?_
  refine ex_bipush (v := 7) (pc' := 7) dX4_init_5 (by decide) rfl ?_
  refine en_narrI (pc' := 9) (a := 43) (nn := 7) (h2 := hh_87) dX4_init_7 (by decide +kernel) rfl rfl ?_
  refine en_putR (pc' := 12) (n := 15) (h2 := hh_88) dX4_init_9 fl_4_9 (by decide +kernel) (by decide) (by decide) rfl rfl ?_
  refine ex_aload_n (pc' := 13) dX4_init_12 rfl rfl ?_
  refine ex_bipush (v := 7) (pc' := 15) dX4_init_13 (by decide) rfl ?_
  refine en_narrI (pc' := 17) (a := 44) (nn := 7) (h2 := hh_89) dX4_init_15 (by decide +kernel) rfl rfl ?_
  refine en_putR (pc' := 20) (n := 15) (h2 := hh_90) dX4_init_17 fl_4_15 (by decide +kernel) (by decide) (by decide) rfl rfl ?_
  refine ex_aload_n (pc' := 21) dX4_init_20 rfl rfl ?_
  refine ex_bipush (v := 12) (pc' := 23) dX4_init_21 (by decide) rfl ?_
  refine en_anarr (pc' := 26) (a := 45) (nn := 12) (ak := 19) (h2 := hh_91) dX4_init_23 kl_4_18 (by decide +kernel) rfl rfl ?_
  refine en_putR (pc' := 29) (n := 15) (h2 := hh_92) dX4_init_26 fl_4_20 (by decide +kernel) (by decide) (by decide) rfl rfl ?_
  refine ex_aload_n (pc' := 30) dX4_init_29 rfl rfl ?_
  refine ex_iconst (v := 5) (pc' := 31) dX4_init_30 (by decide) rfl ?_
  refine en_anarr (pc' := 34) (a := 46) (nn := 5) (ak := 20) (h2 := hh_93) dX4_init_31 kl_4_24 (by decide +kernel) rfl rfl ?_
  refine en_putR (pc' := 37) (n := 15) (h2 := hh_94) dX4_init_34 fl_4_26 (by decide +kernel) (by decide) (by decide) rfl rfl ?_
  refine ex_aload_n (pc' := 38) dX4_init_37 rfl rfl ?_
  refine ex_bipush (v := 8) (pc' := 40) dX4_init_38 (by decide) rfl ?_
  refine en_anarr (pc' := 43) (a := 47) (nn := 8) (ak := 16) (h2 := hh_95) dX4_init_40 kl_4_30 (by decide +kernel) rfl rfl ?_
  refine en_putR (pc' := 46) (n := 15) (h2 := hh_96) dX4_init_43 fl_4_32 (by decide +kernel) (by decide) (by decide) rfl rfl ?_
  refine ex_aload_n (pc' := 47) dX4_init_46 rfl rfl ?_
  refine ex_bipush (v := 8) (pc' := 49) dX4_init_47 (by decide) rfl ?_
  refine en_anarr (pc' := 52) (a := 48) (nn := 8) (ak := 18) (h2 := hh_97) dX4_init_49 kl_4_36 (by decide +kernel) rfl rfl ?_
  refine en_putR (pc' := 55) (n := 15) (h2 := hh_98) dX4_init_52 fl_4_38 (by decide +kernel) (by decide) (by decide) rfl rfl ?_
  refine ex_iconst (v := 0) (pc' := 56) dX4_init_55 (by decide) rfl ?_
  refine ex_istore_n (pc' := 57) (ls' := [(1, .inl 0), (0, .inr (.inr (some 42)))]) dX4_init_56 (by decide) rfl rfl ?_
  refine ex_iload_n (pc' := 58) dX4_init_57 rfl rfl ?_
  refine ex_bipush (v := 12) (pc' := 60) dX4_init_58 (by decide) rfl ?_
  refine ex_icmp_f (pc' := 63) dX4_init_60 (by decide) (by decide) rfl ?_
  refine ex_aload_n (pc' := 64) dX4_init_63 rfl rfl ?_
  refine ex_getR (pc' := 67) (n := 15) (r := 45) dX4_init_64 fl_4_20 (by decide +kernel) (by decide) (by decide +kernel) rfl ?_
  refine ex_iload_n (pc' := 68) dX4_init_67 rfl rfl ?_
  refine en_new (pc' := 71) (a := 49) (nf := 4) (h2 := hh_99) dX4_init_68 kl_4_18 (by decide +kernel) rfl rfl ?_
  refine ex_dup (pc' := 72) dX4_init_71 rfl rfl ?_
  refine en_calliV (pc' := 75) (a := 49) (n := 4) (h2 := hh_99) (vs := []) (rest := [.inr (.inr (some 49)), .inl 0, .inr (.inr (some 45))]) dX4_init_72 ml_4_42 (by decide) ⟨by decide, by decide⟩ rfl rfl (by decide +kernel) (by decide) (by decide) rfl (kc_37 _) ?_
  refine en_aast (pc' := 76) (kd := 19) (n := 12) (nv := 4) (jj := 0) (h2 := hh_100) dX4_init_75 (by decide +kernel) (by decide +kernel) (by decide) (by decide) rfl rfl ?_
  refine ex_iinc (pc' := 79) (v := 1) (ls' := [(1, .inl 1), (0, .inr (.inr (some 42)))]) dX4_init_76 rfl (by decide) (by decide) rfl rfl ?_
  refine ex_goto (pc' := 57) dX4_init_79 (by decide) ?_
  refine ex_iload_n (pc' := 58) dX4_init_57 rfl rfl ?_
  refine ex_bipush (v := 12) (pc' := 60) dX4_init_58 (by decide) rfl ?_
  refine ex_icmp_f (pc' := 63) dX4_init_60 (by decide) (by decide) rfl ?_
  refine ex_aload_n (pc' := 64) dX4_init_63 rfl rfl ?_
  refine ex_getR (pc' := 67) (n := 15) (r := 45) dX4_init_64 fl_4_20 (by decide +kernel) (by decide) (by decide +kernel) rfl ?_
  refine ex_iload_n (pc' := 68) dX4_init_67 rfl rfl ?_
  refine en_new (pc' := 71) (a := 50) (nf := 4) (h2 := hh_101) dX4_init_68 kl_4_18 (by decide +kernel) rfl rfl ?_
  refine ex_dup (pc' := 72) dX4_init_71 rfl rfl ?_
  refine en_calliV (pc' := 75) (a := 50) (n := 4) (h2 := hh_101) (vs := []) (rest := [.inr (.inr (some 50)), .inl 1, .inr (.inr (some 45))]) dX4_init_72 ml_4_42 (by decide) ⟨by decide, by decide⟩ rfl rfl (by decide +kernel) (by decide) (by decide) rfl (kc_38 _) ?_
  refine en_aast (pc' := 76) (kd := 19) (n := 12) (nv := 4) (jj := 1) (h2 := hh_102) dX4_init_75 (by decide +kernel) (by decide +kernel) (by decide) (by decide) rfl rfl ?_
  refine ex_iinc (pc' := 79) (v := 2) (ls' := [(1, .inl 2), (0, .inr (.inr (some 42)))]) dX4_init_76 rfl (by decide) (by decide) rfl rfl ?_
  refine ex_goto (pc' := 57) dX4_init_79 (by decide) ?_
  refine ex_iload_n (pc' := 58) dX4_init_57 rfl rfl ?_
  refine ex_bipush (v := 12) (pc' := 60) dX4_init_58 (by decide) rfl ?_
  refine ex_icmp_f (pc' := 63) dX4_init_60 (by decide) (by decide) rfl ?_
  refine ex_aload_n (pc' := 64) dX4_init_63 rfl rfl ?_
  refine ex_getR (pc' := 67) (n := 15) (r := 45) dX4_init_64 fl_4_20 (by decide +kernel) (by decide) (by decide +kernel) rfl ?_
  refine ex_iload_n (pc' := 68) dX4_init_67 rfl rfl ?_
  refine en_new (pc' := 71) (a := 51) (nf := 4) (h2 := hh_103) dX4_init_68 kl_4_18 (by decide +kernel) rfl rfl ?_
  refine ex_dup (pc' := 72) dX4_init_71 rfl rfl ?_
  refine en_calliV (pc' := 75) (a := 51) (n := 4) (h2 := hh_103) (vs := []) (rest := [.inr (.inr (some 51)), .inl 2, .inr (.inr (some 45))]) dX4_init_72 ml_4_42 (by decide) ⟨by decide, by decide⟩ rfl rfl (by decide +kernel) (by decide) (by decide) rfl (kc_39 _) ?_
  refine en_aast (pc' := 76) (kd := 19) (n := 12) (nv := 4) (jj := 2) (h2 := hh_104) dX4_init_75 (by decide +kernel) (by decide +kernel) (by decide) (by decide) rfl rfl ?_
  refine ex_iinc (pc' := 79) (v := 3) (ls' := [(1, .inl 3), (0, .inr (.inr (some 42)))]) dX4_init_76 rfl (by decide) (by decide) rfl rfl ?_
  refine ex_goto (pc' := 57) dX4_init_79 (by decide) ?_
  refine ex_iload_n (pc' := 58) dX4_init_57 rfl rfl ?_
  refine ex_bipush (v := 12) (pc' := 60) dX4_init_58 (by decide) rfl ?_
  refine ex_icmp_f (pc' := 63) dX4_init_60 (by decide) (by decide) rfl ?_
  refine ex_aload_n (pc' := 64) dX4_init_63 rfl rfl ?_
  refine ex_getR (pc' := 67) (n := 15) (r := 45) dX4_init_64 fl_4_20 (by decide +kernel) (by decide) (by decide +kernel) rfl ?_
  refine ex_iload_n (pc' := 68) dX4_init_67 rfl rfl ?_
  refine en_new (pc' := 71) (a := 52) (nf := 4) (h2 := hh_105) dX4_init_68 kl_4_18 (by decide +kernel) rfl rfl ?_
  refine ex_dup (pc' := 72) dX4_init_71 rfl rfl ?_
  refine en_calliV (pc' := 75) (a := 52) (n := 4) (h2 := hh_105) (vs := []) (rest := [.inr (.inr (some 52)), .inl 3, .inr (.inr (some 45))]) dX4_init_72 ml_4_42 (by decide) ⟨by decide, by decide⟩ rfl rfl (by decide +kernel) (by decide) (by decide) rfl (kc_40 _) ?_
  refine en_aast (pc' := 76) (kd := 19) (n := 12) (nv := 4) (jj := 3) (h2 := hh_106) dX4_init_75 (by decide +kernel) (by decide +kernel) (by decide) (by decide) rfl rfl ?_
  refine ex_iinc (pc' := 79) (v := 4) (ls' := [(1, .inl 4), (0, .inr (.inr (some 42)))]) dX4_init_76 rfl (by decide) (by decide) rfl rfl ?_
  refine ex_goto (pc' := 57) dX4_init_79 (by decide) ?_
  refine ex_iload_n (pc' := 58) dX4_init_57 rfl rfl ?_
  refine ex_bipush (v := 12) (pc' := 60) dX4_init_58 (by decide) rfl ?_
  refine ex_icmp_f (pc' := 63) dX4_init_60 (by decide) (by decide) rfl ?_
  refine ex_aload_n (pc' := 64) dX4_init_63 rfl rfl ?_
  refine ex_getR (pc' := 67) (n := 15) (r := 45) dX4_init_64 fl_4_20 (by decide +kernel) (by decide) (by decide +kernel) rfl ?_
  refine ex_iload_n (pc' := 68) dX4_init_67 rfl rfl ?_
  refine en_new (pc' := 71) (a := 53) (nf := 4) (h2 := hh_107) dX4_init_68 kl_4_18 (by decide +kernel) rfl rfl ?_
  refine ex_dup (pc' := 72) dX4_init_71 rfl rfl ?_
  refine en_calliV (pc' := 75) (a := 53) (n := 4) (h2 := hh_107) (vs := []) (rest := [.inr (.inr (some 53)), .inl 4, .inr (.inr (some 45))]) dX4_init_72 ml_4_42 (by decide) ⟨by decide, by decide⟩ rfl rfl (by decide +kernel) (by decide) (by decide) rfl (kc_41 _) ?_
  refine en_aast (pc' := 76) (kd := 19) (n := 12) (nv := 4) (jj := 4) (h2 := hh_108) dX4_init_75 (by decide +kernel) (by decide +kernel) (by decide) (by decide) rfl rfl ?_
  refine ex_iinc (pc' := 79) (v := 5) (ls' := [(1, .inl 5), (0, .inr (.inr (some 42)))]) dX4_init_76 rfl (by decide) (by decide) rfl rfl ?_
  refine ex_goto (pc' := 57) dX4_init_79 (by decide) ?_
  refine ex_iload_n (pc' := 58) dX4_init_57 rfl rfl ?_
  refine ex_bipush (v := 12) (pc' := 60) dX4_init_58 (by decide) rfl ?_
  refine ex_icmp_f (pc' := 63) dX4_init_60 (by decide) (by decide) rfl ?_
  refine ex_aload_n (pc' := 64) dX4_init_63 rfl rfl ?_
  refine ex_getR (pc' := 67) (n := 15) (r := 45) dX4_init_64 fl_4_20 (by decide +kernel) (by decide) (by decide +kernel) rfl ?_
  refine ex_iload_n (pc' := 68) dX4_init_67 rfl rfl ?_
  refine en_new (pc' := 71) (a := 54) (nf := 4) (h2 := hh_109) dX4_init_68 kl_4_18 (by decide +kernel) rfl rfl ?_
  refine ex_dup (pc' := 72) dX4_init_71 rfl rfl ?_
  refine en_calliV (pc' := 75) (a := 54) (n := 4) (h2 := hh_109) (vs := []) (rest := [.inr (.inr (some 54)), .inl 5, .inr (.inr (some 45))]) dX4_init_72 ml_4_42 (by decide) ⟨by decide, by decide⟩ rfl rfl (by decide +kernel) (by decide) (by decide) rfl (kc_42 _) ?_
  refine en_aast (pc' := 76) (kd := 19) (n := 12) (nv := 4) (jj := 5) (h2 := hh_110) dX4_init_75 (by decide +kernel) (by decide +kernel) (by decide) (by decide) rfl rfl ?_
  refine ex_iinc (pc' := 79) (v := 6) (ls' := [(1, .inl 6), (0, .inr (.inr (some 42)))]) dX4_init_76 rfl (by decide) (by decide) rfl rfl ?_
  refine ex_goto (pc' := 57) dX4_init_79 (by decide) ?_
  refine ex_iload_n (pc' := 58) dX4_init_57 rfl rfl ?_
  refine ex_bipush (v := 12) (pc' := 60) dX4_init_58 (by decide) rfl ?_
  refine ex_icmp_f (pc' := 63) dX4_init_60 (by decide) (by decide) rfl ?_
  refine ex_aload_n (pc' := 64) dX4_init_63 rfl rfl ?_
  refine ex_getR (pc' := 67) (n := 15) (r := 45) dX4_init_64 fl_4_20 (by decide +kernel) (by decide) (by decide +kernel) rfl ?_
  refine ex_iload_n (pc' := 68) dX4_init_67 rfl rfl ?_
  refine en_new (pc' := 71) (a := 55) (nf := 4) (h2 := hh_111) dX4_init_68 kl_4_18 (by decide +kernel) rfl rfl ?_
  refine ex_dup (pc' := 72) dX4_init_71 rfl rfl ?_
  refine en_calliV (pc' := 75) (a := 55) (n := 4) (h2 := hh_111) (vs := []) (rest := [.inr (.inr (some 55)), .inl 6, .inr (.inr (some 45))]) dX4_init_72 ml_4_42 (by decide) ⟨by decide, by decide⟩ rfl rfl (by decide +kernel) (by decide) (by decide) rfl (kc_43 _) ?_
  refine en_aast (pc' := 76) (kd := 19) (n := 12) (nv := 4) (jj := 6) (h2 := hh_112) dX4_init_75 (by decide +kernel) (by decide +kernel) (by decide) (by decide) rfl rfl ?_
  refine ex_iinc (pc' := 79) (v := 7) (ls' := [(1, .inl 7), (0, .inr (.inr (some 42)))]) dX4_init_76 rfl (by decide) (by decide) rfl rfl ?_
  refine ex_goto (pc' := 57) dX4_init_79 (by decide) ?_
  refine ex_iload_n (pc' := 58) dX4_init_57 rfl rfl ?_
  refine ex_bipush (v := 12) (pc' := 60) dX4_init_58 (by decide) rfl ?_
  refine ex_icmp_f (pc' := 63) dX4_init_60 (by decide) (by decide) rfl ?_
  refine ex_aload_n (pc' := 64) dX4_init_63 rfl rfl ?_
  refine ex_getR (pc' := 67) (n := 15) (r := 45) dX4_init_64 fl_4_20 (by decide +kernel) (by decide) (by decide +kernel) rfl ?_
  refine ex_iload_n (pc' := 68) dX4_init_67 rfl rfl ?_
  refine en_new (pc' := 71) (a := 56) (nf := 4) (h2 := hh_113) dX4_init_68 kl_4_18 (by decide +kernel) rfl rfl ?_
  refine ex_dup (pc' := 72) dX4_init_71 rfl rfl ?_
  refine en_calliV (pc' := 75) (a := 56) (n := 4) (h2 := hh_113) (vs := []) (rest := [.inr (.inr (some 56)), .inl 7, .inr (.inr (some 45))]) dX4_init_72 ml_4_42 (by decide) ⟨by decide, by decide⟩ rfl rfl (by decide +kernel) (by decide) (by decide) rfl (kc_44 _) ?_
  refine en_aast (pc' := 76) (kd := 19) (n := 12) (nv := 4) (jj := 7) (h2 := hh_114) dX4_init_75 (by decide +kernel) (by decide +kernel) (by decide) (by decide) rfl rfl ?_
  refine ex_iinc (pc' := 79) (v := 8) (ls' := [(1, .inl 8), (0, .inr (.inr (some 42)))]) dX4_init_76 rfl (by decide) (by decide) rfl rfl ?_
  refine ex_goto (pc' := 57) dX4_init_79 (by decide) ?_
  refine ex_iload_n (pc' := 58) dX4_init_57 rfl rfl ?_
  refine ex_bipush (v := 12) (pc' := 60) dX4_init_58 (by decide) rfl ?_
  refine ex_icmp_f (pc' := 63) dX4_init_60 (by decide) (by decide) rfl ?_
  refine ex_aload_n (pc' := 64) dX4_init_63 rfl rfl ?_
  refine ex_getR (pc' := 67) (n := 15) (r := 45) dX4_init_64 fl_4_20 (by decide +kernel) (by decide) (by decide +kernel) rfl ?_
  refine ex_iload_n (pc' := 68) dX4_init_67 rfl rfl ?_
  refine en_new (pc' := 71) (a := 57) (nf := 4) (h2 := hh_115) dX4_init_68 kl_4_18 (by decide +kernel) rfl rfl ?_
  refine ex_dup (pc' := 72) dX4_init_71 rfl rfl ?_
  refine en_calliV (pc' := 75) (a := 57) (n := 4) (h2 := hh_115) (vs := []) (rest := [.inr (.inr (some 57)), .inl 8, .inr (.inr (some 45))]) dX4_init_72 ml_4_42 (by decide) ⟨by decide, by decide⟩ rfl rfl (by decide +kernel) (by decide) (by decide) rfl (kc_45 _) ?_
  refine en_aast (pc' := 76) (kd := 19) (n := 12) (nv := 4) (jj := 8) (h2 := hh_116) dX4_init_75 (by decide +kernel) (by decide +kernel) (by decide) (by decide) rfl rfl ?_
  refine ex_iinc (pc' := 79) (v := 9) (ls' := [(1, .inl 9), (0, .inr (.inr (some 42)))]) dX4_init_76 rfl (by decide) (by decide) rfl rfl ?_
  refine ex_goto (pc' := 57) dX4_init_79 (by decide) ?_
  refine ex_iload_n (pc' := 58) dX4_init_57 rfl rfl ?_
  refine ex_bipush (v := 12) (pc' := 60) dX4_init_58 (by decide) rfl ?_
  refine ex_icmp_f (pc' := 63) dX4_init_60 (by decide) (by decide) rfl ?_
  refine ex_aload_n (pc' := 64) dX4_init_63 rfl rfl ?_
  refine ex_getR (pc' := 67) (n := 15) (r := 45) dX4_init_64 fl_4_20 (by decide +kernel) (by decide) (by decide +kernel) rfl ?_
  refine ex_iload_n (pc' := 68) dX4_init_67 rfl rfl ?_
  refine en_new (pc' := 71) (a := 58) (nf := 4) (h2 := hh_117) dX4_init_68 kl_4_18 (by decide +kernel) rfl rfl ?_
  refine ex_dup (pc' := 72) dX4_init_71 rfl rfl ?_
  refine en_calliV (pc' := 75) (a := 58) (n := 4) (h2 := hh_117) (vs := []) (rest := [.inr (.inr (some 58)), .inl 9, .inr (.inr (some 45))]) dX4_init_72 ml_4_42 (by decide) ⟨by decide, by decide⟩ rfl rfl (by decide +kernel) (by decide) (by decide) rfl (kc_46 _) ?_
  refine en_aast (pc' := 76) (kd := 19) (n := 12) (nv := 4) (jj := 9) (h2 := hh_118) dX4_init_75 (by decide +kernel) (by decide +kernel) (by decide) (by decide) rfl rfl ?_
  refine ex_iinc (pc' := 79) (v := 10) (ls' := [(1, .inl 10), (0, .inr (.inr (some 42)))]) dX4_init_76 rfl (by decide) (by decide) rfl rfl ?_
  refine ex_goto (pc' := 57) dX4_init_79 (by decide) ?_
  refine ex_iload_n (pc' := 58) dX4_init_57 rfl rfl ?_
  refine ex_bipush (v := 12) (pc' := 60) dX4_init_58 (by decide) rfl ?_
  refine ex_icmp_f (pc' := 63) dX4_init_60 (by decide) (by decide) rfl ?_
  refine ex_aload_n (pc' := 64) dX4_init_63 rfl rfl ?_
  refine ex_getR (pc' := 67) (n := 15) (r := 45) dX4_init_64 fl_4_20 (by decide +kernel) (by decide) (by decide +kernel) rfl ?_
  refine ex_iload_n (pc' := 68) dX4_init_67 rfl rfl ?_
  refine en_new (pc' := 71) (a := 59) (nf := 4) (h2 := hh_119) dX4_init_68 kl_4_18 (by decide +kernel) rfl rfl ?_
  refine ex_dup (pc' := 72) dX4_init_71 rfl rfl ?_
  refine en_calliV (pc' := 75) (a := 59) (n := 4) (h2 := hh_119) (vs := []) (rest := [.inr (.inr (some 59)), .inl 10, .inr (.inr (some 45))]) dX4_init_72 ml_4_42 (by decide) ⟨by decide, by decide⟩ rfl rfl (by decide +kernel) (by decide) (by decide) rfl (kc_47 _) ?_
  refine en_aast (pc' := 76) (kd := 19) (n := 12) (nv := 4) (jj := 10) (h2 := hh_120) dX4_init_75 (by decide +kernel) (by decide +kernel) (by decide) (by decide) rfl rfl ?_
  refine ex_iinc (pc' := 79) (v := 11) (ls' := [(1, .inl 11), (0, .inr (.inr (some 42)))]) dX4_init_76 rfl (by decide) (by decide) rfl rfl ?_
  refine ex_goto (pc' := 57) dX4_init_79 (by decide) ?_
  refine ex_iload_n (pc' := 58) dX4_init_57 rfl rfl ?_
  refine ex_bipush (v := 12) (pc' := 60) dX4_init_58 (by decide) rfl ?_
  refine ex_icmp_f (pc' := 63) dX4_init_60 (by decide) (by decide) rfl ?_
  refine ex_aload_n (pc' := 64) dX4_init_63 rfl rfl ?_
  refine ex_getR (pc' := 67) (n := 15) (r := 45) dX4_init_64 fl_4_20 (by decide +kernel) (by decide) (by decide +kernel) rfl ?_
  refine ex_iload_n (pc' := 68) dX4_init_67 rfl rfl ?_
  refine en_new (pc' := 71) (a := 60) (nf := 4) (h2 := hh_121) dX4_init_68 kl_4_18 (by decide +kernel) rfl rfl ?_
  refine ex_dup (pc' := 72) dX4_init_71 rfl rfl ?_
  refine en_calliV (pc' := 75) (a := 60) (n := 4) (h2 := hh_121) (vs := []) (rest := [.inr (.inr (some 60)), .inl 11, .inr (.inr (some 45))]) dX4_init_72 ml_4_42 (by decide) ⟨by decide, by decide⟩ rfl rfl (by decide +kernel) (by decide) (by decide) rfl (kc_48 _) ?_
  refine en_aast (pc' := 76) (kd := 19) (n := 12) (nv := 4) (jj := 11) (h2 := hh_122) dX4_init_75 (by decide +kernel) (by decide +kernel) (by decide) (by decide) rfl rfl ?_
  refine ex_iinc (pc' := 79) (v := 12) (ls' := [(1, .inl 12), (0, .inr (.inr (some 42)))]) dX4_init_76 rfl (by decide) (by decide) rfl rfl ?_
  refine ex_goto (pc' := 57) dX4_init_79 (by decide) ?_
  refine ex_iload_n (pc' := 58) dX4_init_57 rfl rfl ?_
  refine ex_bipush (v := 12) (pc' := 60) dX4_init_58 (by decide) rfl ?_
  refine ex_icmp_t (pc' := 82) dX4_init_60 (by decide) (by decide) ?_
  refine ex_iconst (v := 0) (pc' := 83) dX4_init_82 (by decide) rfl ?_
  refine ex_istore_n (pc' := 84) (ls' := [(1, .inl 0), (0, .inr (.inr (some 42)))]) dX4_init_83 (by decide) rfl rfl ?_
  refine ex_iload_n (pc' := 85) dX4_init_84 rfl rfl ?_
  refine ex_iconst (v := 5) (pc' := 86) dX4_init_85 (by decide) rfl ?_
  refine ex_icmp_f (pc' := 89) dX4_init_86 (by decide) (by decide) rfl ?_
  refine ex_aload_n (pc' := 90) dX4_init_89 rfl rfl ?_
  refine ex_getR (pc' := 93) (n := 15) (r := 46) dX4_init_90 fl_4_26 (by decide +kernel) (by decide) (by decide +kernel) rfl ?_
  refine ex_iload_n (pc' := 94) dX4_init_93 rfl rfl ?_
  refine en_new (pc' := 97) (a := 61) (nf := 4) (h2 := hh_123) dX4_init_94 kl_4_24 (by decide +kernel) rfl rfl ?_
  refine ex_dup (pc' := 98) dX4_init_97 rfl rfl ?_
  refine en_calliV (pc' := 101) (a := 61) (n := 4) (h2 := hh_123) (vs := []) (rest := [.inr (.inr (some 61)), .inl 0, .inr (.inr (some 46))]) dX4_init_98 ml_4_43 (by decide) ⟨by decide, by decide⟩ rfl rfl (by decide +kernel) (by decide) (by decide) rfl (kc_49 _) ?_
  refine en_aast (pc' := 102) (kd := 20) (n := 5) (nv := 4) (jj := 0) (h2 := hh_124) dX4_init_101 (by decide +kernel) (by decide +kernel) (by decide) (by decide) rfl rfl ?_
  refine ex_iinc (pc' := 105) (v := 1) (ls' := [(1, .inl 1), (0, .inr (.inr (some 42)))]) dX4_init_102 rfl (by decide) (by decide) rfl rfl ?_
  refine ex_goto (pc' := 84) dX4_init_105 (by decide) ?_
  refine ex_iload_n (pc' := 85) dX4_init_84 rfl rfl ?_
  refine ex_iconst (v := 5) (pc' := 86) dX4_init_85 (by decide) rfl ?_
  refine ex_icmp_f (pc' := 89) dX4_init_86 (by decide) (by decide) rfl ?_
  refine ex_aload_n (pc' := 90) dX4_init_89 rfl rfl ?_
  refine ex_getR (pc' := 93) (n := 15) (r := 46) dX4_init_90 fl_4_26 (by decide +kernel) (by decide) (by decide +kernel) rfl ?_
  refine ex_iload_n (pc' := 94) dX4_init_93 rfl rfl ?_
  refine en_new (pc' := 97) (a := 62) (nf := 4) (h2 := hh_125) dX4_init_94 kl_4_24 (by decide +kernel) rfl rfl ?_
  refine ex_dup (pc' := 98) dX4_init_97 rfl rfl ?_
  refine en_calliV (pc' := 101) (a := 62) (n := 4) (h2 := hh_125) (vs := []) (rest := [.inr (.inr (some 62)), .inl 1, .inr (.inr (some 46))]) dX4_init_98 ml_4_43 (by decide) ⟨by decide, by decide⟩ rfl rfl (by decide +kernel) (by decide) (by decide) rfl (kc_50 _) ?_
  refine en_aast (pc' := 102) (kd := 20) (n := 5) (nv := 4) (jj := 1) (h2 := hh_126) dX4_init_101 (by decide +kernel) (by decide +kernel) (by decide) (by decide) rfl rfl ?_
  refine ex_iinc (pc' := 105) (v := 2) (ls' := [(1, .inl 2), (0, .inr (.inr (some 42)))]) dX4_init_102 rfl (by decide) (by decide) rfl rfl ?_
  refine ex_goto (pc' := 84) dX4_init_105 (by decide) ?_
  refine ex_iload_n (pc' := 85) dX4_init_84 rfl rfl ?_
  refine ex_iconst (v := 5) (pc' := 86) dX4_init_85 (by decide) rfl ?_
  refine ex_icmp_f (pc' := 89) dX4_init_86 (by decide) (by decide) rfl ?_
  refine ex_aload_n (pc' := 90) dX4_init_89 rfl rfl ?_
  refine ex_getR (pc' := 93) (n := 15) (r := 46) dX4_init_90 fl_4_26 (by decide +kernel) (by decide) (by decide +kernel) rfl ?_
  refine ex_iload_n (pc' := 94) dX4_init_93 rfl rfl ?_
  refine en_new (pc' := 97) (a := 63) (nf := 4) (h2 := hh_127) dX4_init_94 kl_4_24 (by decide +kernel) rfl rfl ?_
  refine ex_dup (pc' := 98) dX4_init_97 rfl rfl ?_
  refine en_calliV (pc' := 101) (a := 63) (n := 4) (h2 := hh_127) (vs := []) (rest := [.inr (.inr (some 63)), .inl 2, .inr (.inr (some 46))]) dX4_init_98 ml_4_43 (by decide) ⟨by decide, by decide⟩ rfl rfl (by decide +kernel) (by decide) (by decide) rfl (kc_51 _) ?_
  refine en_aast (pc' := 102) (kd := 20) (n := 5) (nv := 4) (jj := 2) (h2 := hh_128) dX4_init_101 (by decide +kernel) (by decide +kernel) (by decide) (by decide) rfl rfl ?_
  refine ex_iinc (pc' := 105) (v := 3) (ls' := [(1, .inl 3), (0, .inr (.inr (some 42)))]) dX4_init_102 rfl (by decide) (by decide) rfl rfl ?_
  refine ex_goto (pc' := 84) dX4_init_105 (by decide) ?_
  refine ex_iload_n (pc' := 85) dX4_init_84 rfl rfl ?_
  refine ex_iconst (v := 5) (pc' := 86) dX4_init_85 (by decide) rfl ?_
  refine ex_icmp_f (pc' := 89) dX4_init_86 (by decide) (by decide) rfl ?_
  refine ex_aload_n (pc' := 90) dX4_init_89 rfl rfl ?_
  refine ex_getR (pc' := 93) (n := 15) (r := 46) dX4_init_90 fl_4_26 (by decide +kernel) (by decide) (by decide +kernel) rfl ?_
  refine ex_iload_n (pc' := 94) dX4_init_93 rfl rfl ?_
  refine en_new (pc' := 97) (a := 64) (nf := 4) (h2 := hh_129) dX4_init_94 kl_4_24 (by decide +kernel) rfl rfl ?_
  refine ex_dup (pc' := 98) dX4_init_97 rfl rfl ?_
  refine en_calliV (pc' := 101) (a := 64) (n := 4) (h2 := hh_129) (vs := []) (rest := [.inr (.inr (some 64)), .inl 3, .inr (.inr (some 46))]) dX4_init_98 ml_4_43 (by decide) ⟨by decide, by decide⟩ rfl rfl (by decide +kernel) (by decide) (by decide) rfl (kc_52 _) ?_
  refine en_aast (pc' := 102) (kd := 20) (n := 5) (nv := 4) (jj := 3) (h2 := hh_130) dX4_init_101 (by decide +kernel) (by decide +kernel) (by decide) (by decide) rfl rfl ?_
  refine ex_iinc (pc' := 105) (v := 4) (ls' := [(1, .inl 4), (0, .inr (.inr (some 42)))]) dX4_init_102 rfl (by decide) (by decide) rfl rfl ?_
  refine ex_goto (pc' := 84) dX4_init_105 (by decide) ?_
  refine ex_iload_n (pc' := 85) dX4_init_84 rfl rfl ?_
  refine ex_iconst (v := 5) (pc' := 86) dX4_init_85 (by decide) rfl ?_
  refine ex_icmp_f (pc' := 89) dX4_init_86 (by decide) (by decide) rfl ?_
  refine ex_aload_n (pc' := 90) dX4_init_89 rfl rfl ?_
  refine ex_getR (pc' := 93) (n := 15) (r := 46) dX4_init_90 fl_4_26 (by decide +kernel) (by decide) (by decide +kernel) rfl ?_
  refine ex_iload_n (pc' := 94) dX4_init_93 rfl rfl ?_
  refine en_new (pc' := 97) (a := 65) (nf := 4) (h2 := hh_131) dX4_init_94 kl_4_24 (by decide +kernel) rfl rfl ?_
  refine ex_dup (pc' := 98) dX4_init_97 rfl rfl ?_
  refine en_calliV (pc' := 101) (a := 65) (n := 4) (h2 := hh_131) (vs := []) (rest := [.inr (.inr (some 65)), .inl 4, .inr (.inr (some 46))]) dX4_init_98 ml_4_43 (by decide) ⟨by decide, by decide⟩ rfl rfl (by decide +kernel) (by decide) (by decide) rfl (kc_53 _) ?_
  refine en_aast (pc' := 102) (kd := 20) (n := 5) (nv := 4) (jj := 4) (h2 := hh_132) dX4_init_101 (by decide +kernel) (by decide +kernel) (by decide) (by decide) rfl rfl ?_
  refine ex_iinc (pc' := 105) (v := 5) (ls' := [(1, .inl 5), (0, .inr (.inr (some 42)))]) dX4_init_102 rfl (by decide) (by decide) rfl rfl ?_
  refine ex_goto (pc' := 84) dX4_init_105 (by decide) ?_
  refine ex_iload_n (pc' := 85) dX4_init_84 rfl rfl ?_
  refine ex_iconst (v := 5) (pc' := 86) dX4_init_85 (by decide) rfl ?_
  refine ex_icmp_t (pc' := 108) dX4_init_86 (by decide) (by decide) ?_
  refine ex_iconst (v := 0) (pc' := 109) dX4_init_108 (by decide) rfl ?_
  refine ex_istore_n (pc' := 110) (ls' := [(1, .inl 0), (0, .inr (.inr (some 42)))]) dX4_init_109 (by decide) rfl rfl ?_
  refine ex_iload_n (pc' := 111) dX4_init_110 rfl rfl ?_
  refine ex_bipush (v := 8) (pc' := 113) dX4_init_111 (by decide) rfl ?_
  refine ex_icmp_f (pc' := 116) dX4_init_113 (by decide) (by decide) rfl ?_
  refine ex_aload_n (pc' := 117) dX4_init_116 rfl rfl ?_
  refine ex_getR (pc' := 120) (n := 15) (r := 47) dX4_init_117 fl_4_32 (by decide +kernel) (by decide) (by decide +kernel) rfl ?_
  refine ex_iload_n (pc' := 121) dX4_init_120 rfl rfl ?_
  refine en_new (pc' := 124) (a := 66) (nf := 4) (h2 := hh_133) dX4_init_121 kl_4_30 (by decide +kernel) rfl rfl ?_
  refine ex_dup (pc' := 125) dX4_init_124 rfl rfl ?_
  refine en_calliV (pc' := 128) (a := 66) (n := 4) (h2 := hh_133) (vs := []) (rest := [.inr (.inr (some 66)), .inl 0, .inr (.inr (some 47))]) dX4_init_125 ml_4_44 (by decide) ⟨by decide, by decide⟩ rfl rfl (by decide +kernel) (by decide) (by decide) rfl (kc_54 _) ?_
  refine en_aast (pc' := 129) (kd := 16) (n := 8) (nv := 4) (jj := 0) (h2 := hh_134) dX4_init_128 (by decide +kernel) (by decide +kernel) (by decide) (by decide) rfl rfl ?_
  refine ex_iinc (pc' := 132) (v := 1) (ls' := [(1, .inl 1), (0, .inr (.inr (some 42)))]) dX4_init_129 rfl (by decide) (by decide) rfl rfl ?_
  refine ex_goto (pc' := 110) dX4_init_132 (by decide) ?_
  refine ex_iload_n (pc' := 111) dX4_init_110 rfl rfl ?_
  refine ex_bipush (v := 8) (pc' := 113) dX4_init_111 (by decide) rfl ?_
  refine ex_icmp_f (pc' := 116) dX4_init_113 (by decide) (by decide) rfl ?_
  refine ex_aload_n (pc' := 117) dX4_init_116 rfl rfl ?_
  refine ex_getR (pc' := 120) (n := 15) (r := 47) dX4_init_117 fl_4_32 (by decide +kernel) (by decide) (by decide +kernel) rfl ?_
  refine ex_iload_n (pc' := 121) dX4_init_120 rfl rfl ?_
  refine en_new (pc' := 124) (a := 67) (nf := 4) (h2 := hh_135) dX4_init_121 kl_4_30 (by decide +kernel) rfl rfl ?_
  refine ex_dup (pc' := 125) dX4_init_124 rfl rfl ?_
  refine en_calliV (pc' := 128) (a := 67) (n := 4) (h2 := hh_135) (vs := []) (rest := [.inr (.inr (some 67)), .inl 1, .inr (.inr (some 47))]) dX4_init_125 ml_4_44 (by decide) ⟨by decide, by decide⟩ rfl rfl (by decide +kernel) (by decide) (by decide) rfl (kc_55 _) ?_
  refine en_aast (pc' := 129) (kd := 16) (n := 8) (nv := 4) (jj := 1) (h2 := hh_136) dX4_init_128 (by decide +kernel) (by decide +kernel) (by decide) (by decide) rfl rfl ?_
  refine ex_iinc (pc' := 132) (v := 2) (ls' := [(1, .inl 2), (0, .inr (.inr (some 42)))]) dX4_init_129 rfl (by decide) (by decide) rfl rfl ?_
  refine ex_goto (pc' := 110) dX4_init_132 (by decide) ?_
  refine ex_iload_n (pc' := 111) dX4_init_110 rfl rfl ?_
  refine ex_bipush (v := 8) (pc' := 113) dX4_init_111 (by decide) rfl ?_
  refine ex_icmp_f (pc' := 116) dX4_init_113 (by decide) (by decide) rfl ?_
  refine ex_aload_n (pc' := 117) dX4_init_116 rfl rfl ?_
  refine ex_getR (pc' := 120) (n := 15) (r := 47) dX4_init_117 fl_4_32 (by decide +kernel) (by decide) (by decide +kernel) rfl ?_
  refine ex_iload_n (pc' := 121) dX4_init_120 rfl rfl ?_
  refine en_new (pc' := 124) (a := 68) (nf := 4) (h2 := hh_137) dX4_init_121 kl_4_30 (by decide +kernel) rfl rfl ?_
  refine ex_dup (pc' := 125) dX4_init_124 rfl rfl ?_
  refine en_calliV (pc' := 128) (a := 68) (n := 4) (h2 := hh_137) (vs := []) (rest := [.inr (.inr (some 68)), .inl 2, .inr (.inr (some 47))]) dX4_init_125 ml_4_44 (by decide) ⟨by decide, by decide⟩ rfl rfl (by decide +kernel) (by decide) (by decide) rfl (kc_56 _) ?_
  refine en_aast (pc' := 129) (kd := 16) (n := 8) (nv := 4) (jj := 2) (h2 := hh_138) dX4_init_128 (by decide +kernel) (by decide +kernel) (by decide) (by decide) rfl rfl ?_
  refine ex_iinc (pc' := 132) (v := 3) (ls' := [(1, .inl 3), (0, .inr (.inr (some 42)))]) dX4_init_129 rfl (by decide) (by decide) rfl rfl ?_
  refine ex_goto (pc' := 110) dX4_init_132 (by decide) ?_
  refine ex_iload_n (pc' := 111) dX4_init_110 rfl rfl ?_
  refine ex_bipush (v := 8) (pc' := 113) dX4_init_111 (by decide) rfl ?_
  refine ex_icmp_f (pc' := 116) dX4_init_113 (by decide) (by decide) rfl ?_
  refine ex_aload_n (pc' := 117) dX4_init_116 rfl rfl ?_
  refine ex_getR (pc' := 120) (n := 15) (r := 47) dX4_init_117 fl_4_32 (by decide +kernel) (by decide) (by decide +kernel) rfl ?_
  refine ex_iload_n (pc' := 121) dX4_init_120 rfl rfl ?_
  refine en_new (pc' := 124) (a := 69) (nf := 4) (h2 := hh_139) dX4_init_121 kl_4_30 (by decide +kernel) rfl rfl ?_
  refine ex_dup (pc' := 125) dX4_init_124 rfl rfl ?_
  refine en_calliV (pc' := 128) (a := 69) (n := 4) (h2 := hh_139) (vs := []) (rest := [.inr (.inr (some 69)), .inl 3, .inr (.inr (some 47))]) dX4_init_125 ml_4_44 (by decide) ⟨by decide, by decide⟩ rfl rfl (by decide +kernel) (by decide) (by decide) rfl (kc_57 _) ?_
  refine en_aast (pc' := 129) (kd := 16) (n := 8) (nv := 4) (jj := 3) (h2 := hh_140) dX4_init_128 (by decide +kernel) (by decide +kernel) (by decide) (by decide) rfl rfl ?_
  refine ex_iinc (pc' := 132) (v := 4) (ls' := [(1, .inl 4), (0, .inr (.inr (some 42)))]) dX4_init_129 rfl (by decide) (by decide) rfl rfl ?_
  refine ex_goto (pc' := 110) dX4_init_132 (by decide) ?_
  refine ex_iload_n (pc' := 111) dX4_init_110 rfl rfl ?_
  refine ex_bipush (v := 8) (pc' := 113) dX4_init_111 (by decide) rfl ?_
  refine ex_icmp_f (pc' := 116) dX4_init_113 (by decide) (by decide) rfl ?_
  refine ex_aload_n (pc' := 117) dX4_init_116 rfl rfl ?_
  refine ex_getR (pc' := 120) (n := 15) (r := 47) dX4_init_117 fl_4_32 (by decide +kernel) (by decide) (by decide +kernel) rfl ?_
  refine ex_iload_n (pc' := 121) dX4_init_120 rfl rfl ?_
  refine en_new (pc' := 124) (a := 70) (nf := 4) (h2 := hh_141) dX4_init_121 kl_4_30 (by decide +kernel) rfl rfl ?_
  refine ex_dup (pc' := 125) dX4_init_124 rfl rfl ?_
  refine en_calliV (pc' := 128) (a := 70) (n := 4) (h2 := hh_141) (vs := []) (rest := [.inr (.inr (some 70)), .inl 4, .inr (.inr (some 47))]) dX4_init_125 ml_4_44 (by decide) ⟨by decide, by decide⟩ rfl rfl (by decide +kernel) (by decide) (by decide) rfl (kc_58 _) ?_
  refine en_aast (pc' := 129) (kd := 16) (n := 8) (nv := 4) (jj := 4) (h2 := hh_142) dX4_init_128 (by decide +kernel) (by decide +kernel) (by decide) (by decide) rfl rfl ?_
  refine ex_iinc (pc' := 132) (v := 5) (ls' := [(1, .inl 5), (0, .inr (.inr (some 42)))]) dX4_init_129 rfl (by decide) (by decide) rfl rfl ?_
  refine ex_goto (pc' := 110) dX4_init_132 (by decide) ?_
  refine ex_iload_n (pc' := 111) dX4_init_110 rfl rfl ?_
  refine ex_bipush (v := 8) (pc' := 113) dX4_init_111 (by decide) rfl ?_
  refine ex_icmp_f (pc' := 116) dX4_init_113 (by decide) (by decide) rfl ?_
  refine ex_aload_n (pc' := 117) dX4_init_116 rfl rfl ?_
  refine ex_getR (pc' := 120) (n := 15) (r := 47) dX4_init_117 fl_4_32 (by decide +kernel) (by decide) (by decide +kernel) rfl ?_
  refine ex_iload_n (pc' := 121) dX4_init_120 rfl rfl ?_
  refine en_new (pc' := 124) (a := 71) (nf := 4) (h2 := hh_143) dX4_init_121 kl_4_30 (by decide +kernel) rfl rfl ?_
  refine ex_dup (pc' := 125) dX4_init_124 rfl rfl ?_
  refine en_calliV (pc' := 128) (a := 71) (n := 4) (h2 := hh_143) (vs := []) (rest := [.inr (.inr (some 71)), .inl 5, .inr (.inr (some 47))]) dX4_init_125 ml_4_44 (by decide) ⟨by decide, by decide⟩ rfl rfl (by decide +kernel) (by decide) (by decide) rfl (kc_59 _) ?_
  refine en_aast (pc' := 129) (kd := 16) (n := 8) (nv := 4) (jj := 5) (h2 := hh_144) dX4_init_128 (by decide +kernel) (by decide +kernel) (by decide) (by decide) rfl rfl ?_
  refine ex_iinc (pc' := 132) (v := 6) (ls' := [(1, .inl 6), (0, .inr (.inr (some 42)))]) dX4_init_129 rfl (by decide) (by decide) rfl rfl ?_
  refine ex_goto (pc' := 110) dX4_init_132 (by decide) ?_
  refine ex_iload_n (pc' := 111) dX4_init_110 rfl rfl ?_
  refine ex_bipush (v := 8) (pc' := 113) dX4_init_111 (by decide) rfl ?_
  refine ex_icmp_f (pc' := 116) dX4_init_113 (by decide) (by decide) rfl ?_
  refine ex_aload_n (pc' := 117) dX4_init_116 rfl rfl ?_
  refine ex_getR (pc' := 120) (n := 15) (r := 47) dX4_init_117 fl_4_32 (by decide +kernel) (by decide) (by decide +kernel) rfl ?_
  refine ex_iload_n (pc' := 121) dX4_init_120 rfl rfl ?_
  refine en_new (pc' := 124) (a := 72) (nf := 4) (h2 := hh_145) dX4_init_121 kl_4_30 (by decide +kernel) rfl rfl ?_
  refine ex_dup (pc' := 125) dX4_init_124 rfl rfl ?_
  refine en_calliV (pc' := 128) (a := 72) (n := 4) (h2 := hh_145) (vs := []) (rest := [.inr (.inr (some 72)), .inl 6, .inr (.inr (some 47))]) dX4_init_125 ml_4_44 (by decide) ⟨by decide, by decide⟩ rfl rfl (by decide +kernel) (by decide) (by decide) rfl (kc_60 _) ?_
  refine en_aast (pc' := 129) (kd := 16) (n := 8) (nv := 4) (jj := 6) (h2 := hh_146) dX4_init_128 (by decide +kernel) (by decide +kernel) (by decide) (by decide) rfl rfl ?_
  refine ex_iinc (pc' := 132) (v := 7) (ls' := [(1, .inl 7), (0, .inr (.inr (some 42)))]) dX4_init_129 rfl (by decide) (by decide) rfl rfl ?_
  refine ex_goto (pc' := 110) dX4_init_132 (by decide) ?_
  refine ex_iload_n (pc' := 111) dX4_init_110 rfl rfl ?_
  refine ex_bipush (v := 8) (pc' := 113) dX4_init_111 (by decide) rfl ?_
  refine ex_icmp_f (pc' := 116) dX4_init_113 (by decide) (by decide) rfl ?_
  refine ex_aload_n (pc' := 117) dX4_init_116 rfl rfl ?_
  refine ex_getR (pc' := 120) (n := 15) (r := 47) dX4_init_117 fl_4_32 (by decide +kernel) (by decide) (by decide +kernel) rfl ?_
  refine ex_iload_n (pc' := 121) dX4_init_120 rfl rfl ?_
  refine en_new (pc' := 124) (a := 73) (nf := 4) (h2 := hh_147) dX4_init_121 kl_4_30 (by decide +kernel) rfl rfl ?_
  refine ex_dup (pc' := 125) dX4_init_124 rfl rfl ?_
  refine en_calliV (pc' := 128) (a := 73) (n := 4) (h2 := hh_147) (vs := []) (rest := [.inr (.inr (some 73)), .inl 7, .inr (.inr (some 47))]) dX4_init_125 ml_4_44 (by decide) ⟨by decide, by decide⟩ rfl rfl (by decide +kernel) (by decide) (by decide) rfl (kc_61 _) ?_
  refine en_aast (pc' := 129) (kd := 16) (n := 8) (nv := 4) (jj := 7) (h2 := hh_148) dX4_init_128 (by decide +kernel) (by decide +kernel) (by decide) (by decide) rfl rfl ?_
  refine ex_iinc (pc' := 132) (v := 8) (ls' := [(1, .inl 8), (0, .inr (.inr (some 42)))]) dX4_init_129 rfl (by decide) (by decide) rfl rfl ?_
  refine ex_goto (pc' := 110) dX4_init_132 (by decide) ?_
  refine ex_iload_n (pc' := 111) dX4_init_110 rfl rfl ?_
  refine ex_bipush (v := 8) (pc' := 113) dX4_init_111 (by decide) rfl ?_
  refine ex_icmp_t (pc' := 135) dX4_init_113 (by decide) (by decide) ?_
  refine ex_iconst (v := 0) (pc' := 136) dX4_init_135 (by decide) rfl ?_
  refine ex_istore_n (pc' := 137) (ls' := [(1, .inl 0), (0, .inr (.inr (some 42)))]) dX4_init_136 (by decide) rfl rfl ?_
  refine ex_iload_n (pc' := 138) dX4_init_137 rfl rfl ?_
  refine ex_bipush (v := 8) (pc' := 140) dX4_init_138 (by decide) rfl ?_
  refine ex_icmp_f (pc' := 143) dX4_init_140 (by decide) (by decide) rfl ?_
  refine ex_aload_n (pc' := 144) dX4_init_143 rfl rfl ?_
  refine ex_getR (pc' := 147) (n := 15) (r := 48) dX4_init_144 fl_4_38 (by decide +kernel) (by decide) (by decide +kernel) rfl ?_
  refine ex_iload_n (pc' := 148) dX4_init_147 rfl rfl ?_
  refine en_new (pc' := 151) (a := 74) (nf := 3) (h2 := hh_149) dX4_init_148 kl_4_36 (by decide +kernel) rfl rfl ?_
  refine ex_dup (pc' := 152) dX4_init_151 rfl rfl ?_
  refine en_calliV (pc' := 155) (a := 74) (n := 3) (h2 := hh_149) (vs := []) (rest := [.inr (.inr (some 74)), .inl 0, .inr (.inr (some 48))]) dX4_init_152 ml_4_45 (by decide) ⟨by decide, by decide⟩ rfl rfl (by decide +kernel) (by decide) (by decide) rfl (kc_62 _) ?_
  refine en_aast (pc' := 156) (kd := 18) (n := 8) (nv := 3) (jj := 0) (h2 := hh_150) dX4_init_155 (by decide +kernel) (by decide +kernel) (by decide) (by decide) rfl rfl ?_
  refine ex_iinc (pc' := 159) (v := 1) (ls' := [(1, .inl 1), (0, .inr (.inr (some 42)))]) dX4_init_156 rfl (by decide) (by decide) rfl rfl ?_
  refine ex_goto (pc' := 137) dX4_init_159 (by decide) ?_
  refine ex_iload_n (pc' := 138) dX4_init_137 rfl rfl ?_
  refine ex_bipush (v := 8) (pc' := 140) dX4_init_138 (by decide) rfl ?_
  refine ex_icmp_f (pc' := 143) dX4_init_140 (by decide) (by decide) rfl ?_
  refine ex_aload_n (pc' := 144) dX4_init_143 rfl rfl ?_
  refine ex_getR (pc' := 147) (n := 15) (r := 48) dX4_init_144 fl_4_38 (by decide +kernel) (by decide) (by decide +kernel) rfl ?_
  refine ex_iload_n (pc' := 148) dX4_init_147 rfl rfl ?_
  refine en_new (pc' := 151) (a := 75) (nf := 3) (h2 := hh_151) dX4_init_148 kl_4_36 (by decide +kernel) rfl rfl ?_
  refine ex_dup (pc' := 152) dX4_init_151 rfl rfl ?_
  refine en_calliV (pc' := 155) (a := 75) (n := 3) (h2 := hh_151) (vs := []) (rest := [.inr (.inr (some 75)), .inl 1, .inr (.inr (some 48))]) dX4_init_152 ml_4_45 (by decide) ⟨by decide, by decide⟩ rfl rfl (by decide +kernel) (by decide) (by decide) rfl (kc_63 _) ?_
  refine en_aast (pc' := 156) (kd := 18) (n := 8) (nv := 3) (jj := 1) (h2 := hh_152) dX4_init_155 (by decide +kernel) (by decide +kernel) (by decide) (by decide) rfl rfl ?_
  refine ex_iinc (pc' := 159) (v := 2) (ls' := [(1, .inl 2), (0, .inr (.inr (some 42)))]) dX4_init_156 rfl (by decide) (by decide) rfl rfl ?_
  refine ex_goto (pc' := 137) dX4_init_159 (by decide) ?_
  refine ex_iload_n (pc' := 138) dX4_init_137 rfl rfl ?_
  refine ex_bipush (v := 8) (pc' := 140) dX4_init_138 (by decide) rfl ?_
  refine ex_icmp_f (pc' := 143) dX4_init_140 (by decide) (by decide) rfl ?_
  refine ex_aload_n (pc' := 144) dX4_init_143 rfl rfl ?_
  refine ex_getR (pc' := 147) (n := 15) (r := 48) dX4_init_144 fl_4_38 (by decide +kernel) (by decide) (by decide +kernel) rfl ?_
  refine ex_iload_n (pc' := 148) dX4_init_147 rfl rfl ?_
  refine en_new (pc' := 151) (a := 76) (nf := 3) (h2 := hh_153) dX4_init_148 kl_4_36 (by decide +kernel) rfl rfl ?_
  refine ex_dup (pc' := 152) dX4_init_151 rfl rfl ?_
  refine en_calliV (pc' := 155) (a := 76) (n := 3) (h2 := hh_153) (vs := []) (rest := [.inr (.inr (some 76)), .inl 2, .inr (.inr (some 48))]) dX4_init_152 ml_4_45 (by decide) ⟨by decide, by decide⟩ rfl rfl (by decide +kernel) (by decide) (by decide) rfl (kc_64 _) ?_
  refine en_aast (pc' := 156) (kd := 18) (n := 8) (nv := 3) (jj := 2) (h2 := hh_154) dX4_init_155 (by decide +kernel) (by decide +kernel) (by decide) (by decide) rfl rfl ?_
  refine ex_iinc (pc' := 159) (v := 3) (ls' := [(1, .inl 3), (0, .inr (.inr (some 42)))]) dX4_init_156 rfl (by decide) (by decide) rfl rfl ?_
  refine ex_goto (pc' := 137) dX4_init_159 (by decide) ?_
  refine ex_iload_n (pc' := 138) dX4_init_137 rfl rfl ?_
  refine ex_bipush (v := 8) (pc' := 140) dX4_init_138 (by decide) rfl ?_
  refine ex_icmp_f (pc' := 143) dX4_init_140 (by decide) (by decide) rfl ?_
  refine ex_aload_n (pc' := 144) dX4_init_143 rfl rfl ?_
  refine ex_getR (pc' := 147) (n := 15) (r := 48) dX4_init_144 fl_4_38 (by decide +kernel) (by decide) (by decide +kernel) rfl ?_
  refine ex_iload_n (pc' := 148) dX4_init_147 rfl rfl ?_
  refine en_new (pc' := 151) (a := 77) (nf := 3) (h2 := hh_155) dX4_init_148 kl_4_36 (by decide +kernel) rfl rfl ?_
  refine ex_dup (pc' := 152) dX4_init_151 rfl rfl ?_
  refine en_calliV (pc' := 155) (a := 77) (n := 3) (h2 := hh_155) (vs := []) (rest := [.inr (.inr (some 77)), .inl 3, .inr (.inr (some 48))]) dX4_init_152 ml_4_45 (by decide) ⟨by decide, by decide⟩ rfl rfl (by decide +kernel) (by decide) (by decide) rfl (kc_65 _) ?_
  refine en_aast (pc' := 156) (kd := 18) (n := 8) (nv := 3) (jj := 3) (h2 := hh_156) dX4_init_155 (by decide +kernel) (by decide +kernel) (by decide) (by decide) rfl rfl ?_
  refine ex_iinc (pc' := 159) (v := 4) (ls' := [(1, .inl 4), (0, .inr (.inr (some 42)))]) dX4_init_156 rfl (by decide) (by decide) rfl rfl ?_
  refine ex_goto (pc' := 137) dX4_init_159 (by decide) ?_
  refine ex_iload_n (pc' := 138) dX4_init_137 rfl rfl ?_
  refine ex_bipush (v := 8) (pc' := 140) dX4_init_138 (by decide) rfl ?_
  refine ex_icmp_f (pc' := 143) dX4_init_140 (by decide) (by decide) rfl ?_
  refine ex_aload_n (pc' := 144) dX4_init_143 rfl rfl ?_
  refine ex_getR (pc' := 147) (n := 15) (r := 48) dX4_init_144 fl_4_38 (by decide +kernel) (by decide) (by decide +kernel) rfl ?_
  refine ex_iload_n (pc' := 148) dX4_init_147 rfl rfl ?_
  refine en_new (pc' := 151) (a := 78) (nf := 3) (h2 := hh_157) dX4_init_148 kl_4_36 (by decide +kernel) rfl rfl ?_
  refine ex_dup (pc' := 152) dX4_init_151 rfl rfl ?_
  refine en_calliV (pc' := 155) (a := 78) (n := 3) (h2 := hh_157) (vs := []) (rest := [.inr (.inr (some 78)), .inl 4, .inr (.inr (some 48))]) dX4_init_152 ml_4_45 (by decide) ⟨by decide, by decide⟩ rfl rfl (by decide +kernel) (by decide) (by decide) rfl (kc_66 _) ?_
  refine en_aast (pc' := 156) (kd := 18) (n := 8) (nv := 3) (jj := 4) (h2 := hh_158) dX4_init_155 (by decide +kernel) (by decide +kernel) (by decide) (by decide) rfl rfl ?_
  refine ex_iinc (pc' := 159) (v := 5) (ls' := [(1, .inl 5), (0, .inr (.inr (some 42)))]) dX4_init_156 rfl (by decide) (by decide) rfl rfl ?_
  refine ex_goto (pc' := 137) dX4_init_159 (by decide) ?_
  refine ex_iload_n (pc' := 138) dX4_init_137 rfl rfl ?_
  refine ex_bipush (v := 8) (pc' := 140) dX4_init_138 (by decide) rfl ?_
  refine ex_icmp_f (pc' := 143) dX4_init_140 (by decide) (by decide) rfl ?_
  refine ex_aload_n (pc' := 144) dX4_init_143 rfl rfl ?_
  refine ex_getR (pc' := 147) (n := 15) (r := 48) dX4_init_144 fl_4_38 (by decide +kernel) (by decide) (by decide +kernel) rfl ?_
  refine ex_iload_n (pc' := 148) dX4_init_147 rfl rfl ?_
  refine en_new (pc' := 151) (a := 79) (nf := 3) (h2 := hh_159) dX4_init_148 kl_4_36 (by decide +kernel) rfl rfl ?_
  refine ex_dup (pc' := 152) dX4_init_151 rfl rfl ?_
  refine en_calliV (pc' := 155) (a := 79) (n := 3) (h2 := hh_159) (vs := []) (rest := [.inr (.inr (some 79)), .inl 5, .inr (.inr (some 48))]) dX4_init_152 ml_4_45 (by decide) ⟨by decide, by decide⟩ rfl rfl (by decide +kernel) (by decide) (by decide) rfl (kc_67 _) ?_
  refine en_aast (pc' := 156) (kd := 18) (n := 8) (nv := 3) (jj := 5) (h2 := hh_160) dX4_init_155 (by decide +kernel) (by decide +kernel) (by decide) (by decide) rfl rfl ?_
  refine ex_iinc (pc' := 159) (v := 6) (ls' := [(1, .inl 6), (0, .inr (.inr (some 42)))]) dX4_init_156 rfl (by decide) (by decide) rfl rfl ?_
  refine ex_goto (pc' := 137) dX4_init_159 (by decide) ?_
  refine ex_iload_n (pc' := 138) dX4_init_137 rfl rfl ?_
  refine ex_bipush (v := 8) (pc' := 140) dX4_init_138 (by decide) rfl ?_
  refine ex_icmp_f (pc' := 143) dX4_init_140 (by decide) (by decide) rfl ?_
  refine ex_aload_n (pc' := 144) dX4_init_143 rfl rfl ?_
  refine ex_getR (pc' := 147) (n := 15) (r := 48) dX4_init_144 fl_4_38 (by decide +kernel) (by decide) (by decide +kernel) rfl ?_
  refine ex_iload_n (pc' := 148) dX4_init_147 rfl rfl ?_
  refine en_new (pc' := 151) (a := 80) (nf := 3) (h2 := hh_161) dX4_init_148 kl_4_36 (by decide +kernel) rfl rfl ?_
  refine ex_dup (pc' := 152) dX4_init_151 rfl rfl ?_
  refine en_calliV (pc' := 155) (a := 80) (n := 3) (h2 := hh_161) (vs := []) (rest := [.inr (.inr (some 80)), .inl 6, .inr (.inr (some 48))]) dX4_init_152 ml_4_45 (by decide) ⟨by decide, by decide⟩ rfl rfl (by decide +kernel) (by decide) (by decide) rfl (kc_68 _) ?_
  refine en_aast (pc' := 156) (kd := 18) (n := 8) (nv := 3) (jj := 6) (h2 := hh_162) dX4_init_155 (by decide +kernel) (by decide +kernel) (by decide) (by decide) rfl rfl ?_
  refine ex_iinc (pc' := 159) (v := 7) (ls' := [(1, .inl 7), (0, .inr (.inr (some 42)))]) dX4_init_156 rfl (by decide) (by decide) rfl rfl ?_
  refine ex_goto (pc' := 137) dX4_init_159 (by decide) ?_
  refine ex_iload_n (pc' := 138) dX4_init_137 rfl rfl ?_
  refine ex_bipush (v := 8) (pc' := 140) dX4_init_138 (by decide) rfl ?_
  refine ex_icmp_f (pc' := 143) dX4_init_140 (by decide) (by decide) rfl ?_
  refine ex_aload_n (pc' := 144) dX4_init_143 rfl rfl ?_
  refine ex_getR (pc' := 147) (n := 15) (r := 48) dX4_init_144 fl_4_38 (by decide +kernel) (by decide) (by decide +kernel) rfl ?_
  refine ex_iload_n (pc' := 148) dX4_init_147 rfl rfl ?_
  refine en_new (pc' := 151) (a := 81) (nf := 3) (h2 := hh_163) dX4_init_148 kl_4_36 (by decide +kernel) rfl rfl ?_
  refine ex_dup (pc' := 152) dX4_init_151 rfl rfl ?_
  refine en_calliV (pc' := 155) (a := 81) (n := 3) (h2 := hh_163) (vs := []) (rest := [.inr (.inr (some 81)), .inl 7, .inr (.inr (some 48))]) dX4_init_152 ml_4_45 (by decide) ⟨by decide, by decide⟩ rfl rfl (by decide +kernel) (by decide) (by decide) rfl (kc_69 _) ?_
  refine en_aast (pc' := 156) (kd := 18) (n := 8) (nv := 3) (jj := 7) (h2 := hh_164) dX4_init_155 (by decide +kernel) (by decide +kernel) (by decide) (by decide) rfl rfl ?_
  refine ex_iinc (pc' := 159) (v := 8) (ls' := [(1, .inl 8), (0, .inr (.inr (some 42)))]) dX4_init_156 rfl (by decide) (by decide) rfl rfl ?_
  refine ex_goto (pc' := 137) dX4_init_159 (by decide) ?_
  refine ex_iload_n (pc' := 138) dX4_init_137 rfl rfl ?_
  refine ex_bipush (v := 8) (pc' := 140) dX4_init_138 (by decide) rfl ?_
  refine ex_icmp_t (pc' := 162) dX4_init_140 (by decide) (by decide) ?_
  exact ex_vretV dX4_init_162 rfl rfl
set_option maxRecDepth 20000 in
theorem kc_70 (d : Nat) : zCv (d + 1) mX5_init [.inr (.inr (some 82)), .inr (.inr (some 1)), .inr (.inr (some 42))] hh_166 (fun h' => h' = hh_182) := by
  show zEx none (d + 1) mX5_init (0, [(0, .inr (.inr (some 82))), (1, .inr (.inr (some 1))), (2, .inr (.inr (some 42)))], [], hh_166) _
  refine ex_aload_n (pc' := 1) dX5_init_0 rfl rfl ?_
  refine ex_obj (pc' := 4) dX5_init_1 ml_5_3 (by decide) rfl ?_
  refine ex_aload_n (pc' := 5) dX5_init_4 rfl rfl ?_
  refine ex_iconst (v := 0) (pc' := 6) dX5_init_5 (by decide) rfl ?_
  refine en_putI (pc' := 9) (n := 13) (h2 := hh_167) dX5_init_6 fl_5_9 (by decide +kernel) (by decide) (by decide) rfl rfl ?_
  refine ex_aload_n (pc' := 10) dX5_init_9 rfl rfl ?_
  refine ex_iconst (v := 0) (pc' := 11) dX5_init_10 (by decide) rfl ?_
  refine en_putI (pc' := 14) (n := 13) (h2 := hh_168) dX5_init_11 fl_5_15 (by decide +kernel) (by decide) (by decide) rfl rfl ?_
  refine ex_aload_n (pc' := 15) dX5_init_14 rfl rfl ?_
  refine ex_iconst (v := 0) (pc' := 16) dX5_init_15 (by decide) rfl ?_
  refine en_putI (pc' := 19) (n := 13) (h2 := hh_169) dX5_init_16 fl_5_18 (by decide +kernel) (by decide) (by decide) rfl rfl ?_
  refine ex_aload_n (pc' := 20) dX5_init_19 rfl rfl ?_
  refine ex_iconst (v := 0) (pc' := 21) dX5_init_20 (by decide) rfl ?_
  refine en_putI (pc' := 24) (n := 13) (h2 := hh_170) dX5_init_21 fl_5_21 (by decide +kernel) (by decide) (by decide) rfl rfl ?_
  refine ex_aload_n (pc' := 25) dX5_init_24 rfl rfl ?_
  refine ex_iconst (v := 0) (pc' := 26) dX5_init_25 (by decide) rfl ?_
  refine en_putI (pc' := 29) (n := 13) (h2 := hh_171) dX5_init_26 fl_5_24 (by decide +kernel) (by decide) (by decide) rfl rfl ?_
  refine ex_aload_n (pc' := 30) dX5_init_29 rfl rfl ?_
  refine ex_bipush (v := 20) (pc' := 32) dX5_init_30 (by decide) rfl ?_
  refine en_narrL (pc' := 34) (a := 83) (nn := 20) (h2 := hh_172) dX5_init_32 (by decide +kernel) rfl rfl ?_
  refine en_putR (pc' := 37) (n := 13) (h2 := hh_173) dX5_init_34 fl_5_27 (by decide +kernel) (by decide) (by decide) rfl rfl ?_
  refine ex_aload_n (pc' := 38) dX5_init_37 rfl rfl ?_
  refine ex_bipush (v := 20) (pc' := 40) dX5_init_38 (by decide) rfl ?_
  refine en_narrI (pc' := 42) (a := 84) (nn := 20) (h2 := hh_174) dX5_init_40 (by decide +kernel) rfl rfl ?_
  refine en_putR (pc' := 45) (n := 13) (h2 := hh_175) dX5_init_42 fl_5_31 (by decide +kernel) (by decide) (by decide) rfl rfl ?_
  refine ex_aload_n (pc' := 46) dX5_init_45 rfl rfl ?_
  refine ex_bipush (v := 20) (pc' := 48) dX5_init_46 (by decide) rfl ?_
  refine en_narrI (pc' := 50) (a := 85) (nn := 20) (h2 := hh_176) dX5_init_48 (by decide +kernel) rfl rfl ?_
  refine en_putR (pc' := 53) (n := 13) (h2 := hh_177) dX5_init_50 fl_5_35 (by decide +kernel) (by decide) (by decide) rfl rfl ?_
  refine ex_aload_n (pc' := 54) dX5_init_53 rfl rfl ?_
  refine ex_iconst (v := 0) (pc' := 55) dX5_init_54 (by decide) rfl ?_
  refine en_putI (pc' := 58) (n := 13) (h2 := hh_178) dX5_init_55 fl_5_38 (by decide +kernel) (by decide) (by decide) rfl rfl ?_
  refine ex_aload_n (pc' := 59) dX5_init_58 rfl rfl ?_
  refine ex_iconst (v := 0) (pc' := 60) dX5_init_59 (by decide) rfl ?_
  refine en_putI (pc' := 63) (n := 13) (h2 := hh_179) dX5_init_60 fl_5_41 (by decide +kernel) (by decide) (by decide) rfl rfl ?_
  refine ex_aload_n (pc' := 64) dX5_init_63 rfl rfl ?_
  refine ex_iconst (v := (-1)) (pc' := 65) dX5_init_64 (by decide) rfl ?_
  refine en_putI (pc' := 68) (n := 13) (h2 := hh_180) dX5_init_65 fl_5_44 (by decide +kernel) (by decide) (by decide) rfl rfl ?_
  refine ex_aload_n (pc' := 69) dX5_init_68 rfl rfl ?_
  refine ex_aload_n (pc' := 70) dX5_init_69 rfl rfl ?_
  refine en_putR (pc' := 73) (n := 13) (h2 := hh_181) dX5_init_70 fl_5_47 (by decide +kernel) (by decide) (by decide) rfl rfl ?_
  refine ex_aload_n (pc' := 74) dX5_init_73 rfl rfl ?_
  refine ex_aload_n (pc' := 75) dX5_init_74 rfl rfl ?_
  refine en_putR (pc' := 78) (n := 13) (h2 := hh_182) dX5_init_75 fl_5_51 (by decide +kernel) (by decide) (by decide) rfl rfl ?_
  exact ex_vretV dX5_init_78 rfl rfl
set_option maxRecDepth 20000 in
theorem kc_71 (d : Nat) : zCv (d + 1) mX2_init [.inr (.inr (some 86))] hh_184 (fun h' => h' = hh_196) := by
  show zEx none (d + 1) mX2_init (0, [(0, .inr (.inr (some 86)))], [], hh_184) _
  refine ex_aload_n (pc' := 1) dX2_init_0 rfl rfl ?_
  refine ex_obj (pc' := 4) dX2_init_1 ml_2_3 (by decide) rfl ?_
  refine ex_aload_n (pc' := 5) dX2_init_4 rfl rfl ?_
  refine ex_iconst (v := 0) (pc' := 6) dX2_init_5 (by decide) rfl ?_
  refine en_putI (pc' := 9) (n := 7) (h2 := hh_185) dX2_init_6 fl_2_9 (by decide +kernel) (by decide) (by decide) rfl rfl ?_
  refine ex_aload_n (pc' := 10) dX2_init_9 rfl rfl ?_
  refine ex_iconst (v := 0) (pc' := 11) dX2_init_10 (by decide) rfl ?_
  refine en_putI (pc' := 14) (n := 7) (h2 := hh_186) dX2_init_11 fl_2_15 (by decide +kernel) (by decide) (by decide) rfl rfl ?_
  refine ex_aload_n (pc' := 15) dX2_init_14 rfl rfl ?_
  refine ex_iconst (v := 5) (pc' := 16) dX2_init_15 (by decide) rfl ?_
  refine en_narrI (pc' := 18) (a := 87) (nn := 5) (h2 := hh_187) dX2_init_16 (by decide +kernel) rfl rfl ?_
  refine en_putR (pc' := 21) (n := 7) (h2 := hh_188) dX2_init_18 fl_2_18 (by decide +kernel) (by decide) (by decide) rfl rfl ?_
  refine ex_aload_n (pc' := 22) dX2_init_21 rfl rfl ?_
  refine ex_iconst (v := 5) (pc' := 23) dX2_init_22 (by decide) rfl ?_
  refine en_narrI (pc' := 25) (a := 88) (nn := 5) (h2 := hh_189) dX2_init_23 (by decide +kernel) rfl rfl ?_
  refine en_putR (pc' := 28) (n := 7) (h2 := hh_190) dX2_init_25 fl_2_22 (by decide +kernel) (by decide) (by decide) rfl rfl ?_
  refine ex_aload_n (pc' := 29) dX2_init_28 rfl rfl ?_
  refine ex_bipush (v := 8) (pc' := 31) dX2_init_29 (by decide) rfl ?_
  refine en_narrI (pc' := 33) (a := 89) (nn := 8) (h2 := hh_191) dX2_init_31 (by decide +kernel) rfl rfl ?_
  refine en_putR (pc' := 36) (n := 7) (h2 := hh_192) dX2_init_33 fl_2_25 (by decide +kernel) (by decide) (by decide) rfl rfl ?_
  refine ex_aload_n (pc' := 37) dX2_init_36 rfl rfl ?_
  refine ex_bipush (v := 8) (pc' := 39) dX2_init_37 (by decide) rfl ?_
  refine en_narrI (pc' := 41) (a := 90) (nn := 8) (h2 := hh_193) dX2_init_39 (by decide +kernel) rfl rfl ?_
  refine en_putR (pc' := 44) (n := 7) (h2 := hh_194) dX2_init_41 fl_2_28 (by decide +kernel) (by decide) (by decide) rfl rfl ?_
  refine ex_aload_n (pc' := 45) dX2_init_44 rfl rfl ?_
  refine ex_bipush (v := 8) (pc' := 47) dX2_init_45 (by decide) rfl ?_
  refine en_narrI (pc' := 49) (a := 91) (nn := 8) (h2 := hh_195) dX2_init_47 (by decide +kernel) rfl rfl ?_
  refine en_putR (pc' := 52) (n := 7) (h2 := hh_196) dX2_init_49 fl_2_31 (by decide +kernel) (by decide) (by decide) rfl rfl ?_
  exact ex_vretV dX2_init_52 rfl rfl
set_option maxRecDepth 20000 in
theorem kc_72 (d : Nat) : zCv (d + 1) mX7_init [.inr (.inr (some 92)), .inr (.inr (some 2))] hh_198 (fun h' => h' = hh_205) := by
  show zEx none (d + 1) mX7_init (0, [(0, .inr (.inr (some 92))), (1, .inr (.inr (some 2)))], [], hh_198) _
  refine ex_aload_n (pc' := 1) dX7_init_0 rfl rfl ?_
  refine ex_obj (pc' := 4) dX7_init_1 ml_7_3 (by decide) rfl ?_
  refine ex_aload_n (pc' := 5) dX7_init_4 rfl rfl ?_
  refine ex_iconst (v := 0) (pc' := 6) dX7_init_5 (by decide) rfl ?_
  refine en_putI (pc' := 9) (n := 6) (h2 := hh_199) dX7_init_6 fl_7_9 (by decide +kernel) (by decide) (by decide) rfl rfl ?_
  refine ex_aload_n (pc' := 10) dX7_init_9 rfl rfl ?_
  refine ex_iconst (v := 0) (pc' := 11) dX7_init_10 (by decide) rfl ?_
  refine en_putI (pc' := 14) (n := 6) (h2 := hh_200) dX7_init_11 fl_7_15 (by decide +kernel) (by decide) (by decide) rfl rfl ?_
  refine ex_aload_n (pc' := 15) dX7_init_14 rfl rfl ?_
  refine ex_iconst (v := 0) (pc' := 16) dX7_init_15 (by decide) rfl ?_
  refine en_putI (pc' := 19) (n := 6) (h2 := hh_201) dX7_init_16 fl_7_18 (by decide +kernel) (by decide) (by decide) rfl rfl ?_
  refine ex_aload_n (pc' := 20) dX7_init_19 rfl rfl ?_
  refine ex_bipush (v := (-2)) (pc' := 22) dX7_init_20 (by decide) rfl ?_
  refine en_putI (pc' := 25) (n := 6) (h2 := hh_202) dX7_init_22 fl_7_21 (by decide +kernel) (by decide) (by decide) rfl rfl ?_
  refine ex_aload_n (pc' := 26) dX7_init_25 rfl rfl ?_
  refine ex_sipush (v := 1031) (pc' := 29) dX7_init_26 (by decide) rfl ?_
  refine en_narrI (pc' := 31) (a := 93) (nn := 1031) (h2 := hh_203) dX7_init_29 (by decide +kernel) rfl rfl ?_
  refine en_putR (pc' := 34) (n := 6) (h2 := hh_204) dX7_init_31 fl_7_24 (by decide +kernel) (by decide) (by decide) rfl rfl ?_
  refine ex_aload_n (pc' := 35) dX7_init_34 rfl rfl ?_
  refine ex_aload_n (pc' := 36) dX7_init_35 rfl rfl ?_
  refine en_putR (pc' := 39) (n := 6) (h2 := hh_205) dX7_init_36 fl_7_28 (by decide +kernel) (by decide) (by decide) rfl rfl ?_
  exact ex_vretV dX7_init_39 rfl rfl
set_option maxRecDepth 20000 in
theorem kc_73 (d : Nat) : zCv (d + 1) mX6_init [.inr (.inr (some 94)), .inr (.inr (some 2)), .inr (.inr (some 86)), .inr (.inr (some 92))] hh_207 (fun h' => h' = hh_215) := by
  show zEx none (d + 1) mX6_init (0, [(0, .inr (.inr (some 94))), (1, .inr (.inr (some 2))), (2, .inr (.inr (some 86))), (3, .inr (.inr (some 92)))], [], hh_207) _
  refine ex_aload_n (pc' := 1) dX6_init_0 rfl rfl ?_
  refine ex_obj (pc' := 4) dX6_init_1 ml_6_3 (by decide) rfl ?_
  refine ex_aload_n (pc' := 5) dX6_init_4 rfl rfl ?_
  refine ex_bipush (v := 7) (pc' := 7) dX6_init_5 (by decide) rfl ?_
  refine en_narrI (pc' := 9) (a := 95) (nn := 7) (h2 := hh_208) dX6_init_7 (by decide +kernel) rfl rfl ?_
  refine en_putR (pc' := 12) (n := 7) (h2 := hh_209) dX6_init_9 fl_6_9 (by decide +kernel) (by decide) (by decide) rfl rfl ?_
  refine ex_aload_n (pc' := 13) dX6_init_12 rfl rfl ?_
  refine ex_bipush (v := (-2)) (pc' := 15) dX6_init_13 (by decide) rfl ?_
  refine en_putI (pc' := 18) (n := 7) (h2 := hh_210) dX6_init_15 fl_6_15 (by decide +kernel) (by decide) (by decide) rfl rfl ?_
  refine ex_aload_n (pc' := 19) dX6_init_18 rfl rfl ?_
  refine ex_iconst (v := 0) (pc' := 20) dX6_init_19 (by decide) rfl ?_
  refine en_putI (pc' := 23) (n := 7) (h2 := hh_211) dX6_init_20 fl_6_19 (by decide +kernel) (by decide) (by decide) rfl rfl ?_
  refine ex_aload_n (pc' := 24) dX6_init_23 rfl rfl ?_
  refine ex_iconst (v := 0) (pc' := 25) dX6_init_24 (by decide) rfl ?_
  refine en_putI (pc' := 28) (n := 7) (h2 := hh_212) dX6_init_25 fl_6_22 (by decide +kernel) (by decide) (by decide) rfl rfl ?_
  refine ex_aload_n (pc' := 29) dX6_init_28 rfl rfl ?_
  refine ex_aload_n (pc' := 30) dX6_init_29 rfl rfl ?_
  refine en_putR (pc' := 33) (n := 7) (h2 := hh_213) dX6_init_30 fl_6_25 (by decide +kernel) (by decide) (by decide) rfl rfl ?_
  refine ex_aload_n (pc' := 34) dX6_init_33 rfl rfl ?_
  refine ex_aload_n (pc' := 35) dX6_init_34 rfl rfl ?_
  refine en_putR (pc' := 38) (n := 7) (h2 := hh_214) dX6_init_35 fl_6_29 (by decide +kernel) (by decide) (by decide) rfl rfl ?_
  refine ex_aload_n (pc' := 39) dX6_init_38 rfl rfl ?_
  refine ex_aload_n (pc' := 40) dX6_init_39 rfl rfl ?_
  refine en_putR (pc' := 43) (n := 7) (h2 := hh_215) dX6_init_40 fl_6_33 (by decide +kernel) (by decide) (by decide) rfl rfl ?_
  exact ex_vretV dX6_init_43 rfl rfl
set_option maxRecDepth 20000 in
theorem kc_74 (d : Nat) : zCv (d + 1) mX3_init [.inr (.inr (some 96)), .inr (.inr (some 2))] hh_217 (fun h' => h' = hh_224) := by
  show zEx none (d + 1) mX3_init (0, [(0, .inr (.inr (some 96))), (1, .inr (.inr (some 2)))], [], hh_217) _
  refine ex_aload_n (pc' := 1) dX3_init_0 rfl rfl ?_
  refine ex_obj (pc' := 4) dX3_init_1 ml_3_3 (by decide) rfl ?_
  refine ex_aload_n (pc' := 5) dX3_init_4 rfl rfl ?_
  refine ex_bipush (v := 7) (pc' := 7) dX3_init_5 (by decide) rfl ?_
  refine en_narrI (pc' := 9) (a := 97) (nn := 7) (h2 := hh_218) dX3_init_7 (by decide +kernel) rfl rfl ?_
  refine en_putR (pc' := 12) (n := 4) (h2 := hh_219) dX3_init_9 fl_3_9 (by decide +kernel) (by decide) (by decide) rfl rfl ?_
  refine ex_aload_n (pc' := 13) dX3_init_12 rfl rfl ?_
  refine ex_bipush (v := 49) (pc' := 15) dX3_init_13 (by decide) rfl ?_
  refine en_narrI (pc' := 17) (a := 98) (nn := 49) (h2 := hh_220) dX3_init_15 (by decide +kernel) rfl rfl ?_
  refine en_putR (pc' := 20) (n := 4) (h2 := hh_221) dX3_init_17 fl_3_15 (by decide +kernel) (by decide) (by decide) rfl rfl ?_
  refine ex_aload_n (pc' := 21) dX3_init_20 rfl rfl ?_
  refine ex_sipush (v := 896) (pc' := 24) dX3_init_21 (by decide) rfl ?_
  refine en_narrI (pc' := 26) (a := 99) (nn := 896) (h2 := hh_222) dX3_init_24 (by decide +kernel) rfl rfl ?_
  refine en_putR (pc' := 29) (n := 4) (h2 := hh_223) dX3_init_26 fl_3_18 (by decide +kernel) (by decide) (by decide) rfl rfl ?_
  refine ex_aload_n (pc' := 30) dX3_init_29 rfl rfl ?_
  refine ex_aload_n (pc' := 31) dX3_init_30 rfl rfl ?_
  refine en_putR (pc' := 34) (n := 4) (h2 := hh_224) dX3_init_31 fl_3_21 (by decide +kernel) (by decide) (by decide) rfl rfl ?_
  exact ex_vretV dX3_init_34 rfl rfl
set_option maxRecDepth 20000 in
theorem kc_75 (d : Nat) : zCv (d + 1) mX1_init [.inr (.inr (some 100))] hh_226 (fun h' => h' = hh_234) := by
  show zEx none (d + 1) mX1_init (0, [(0, .inr (.inr (some 100)))], [], hh_226) _
  refine ex_aload_n (pc' := 1) dX1_init_0 rfl rfl ?_
  refine ex_obj (pc' := 4) dX1_init_1 ml_1_3 (by decide) rfl ?_
  refine ex_aload_n (pc' := 5) dX1_init_4 rfl rfl ?_
  refine ex_bipush (v := 40) (pc' := 7) dX1_init_5 (by decide) rfl ?_
  refine en_narrI (pc' := 9) (a := 101) (nn := 40) (h2 := hh_227) dX1_init_7 (by decide +kernel) rfl rfl ?_
  refine en_putR (pc' := 12) (n := 5) (h2 := hh_228) dX1_init_9 fl_1_9 (by decide +kernel) (by decide) (by decide) rfl rfl ?_
  refine ex_aload_n (pc' := 13) dX1_init_12 rfl rfl ?_
  refine ex_bipush (v := 8) (pc' := 15) dX1_init_13 (by decide) rfl ?_
  refine en_narrI (pc' := 17) (a := 102) (nn := 8) (h2 := hh_229) dX1_init_15 (by decide +kernel) rfl rfl ?_
  refine en_putR (pc' := 20) (n := 5) (h2 := hh_230) dX1_init_17 fl_1_15 (by decide +kernel) (by decide) (by decide) rfl rfl ?_
  refine ex_aload_n (pc' := 21) dX1_init_20 rfl rfl ?_
  refine ex_iconst (v := 0) (pc' := 22) dX1_init_21 (by decide) rfl ?_
  refine en_putI (pc' := 25) (n := 5) (h2 := hh_231) dX1_init_22 fl_1_18 (by decide +kernel) (by decide) (by decide) rfl rfl ?_
  refine ex_aload_n (pc' := 26) dX1_init_25 rfl rfl ?_
  refine ex_iconst (v := 0) (pc' := 27) dX1_init_26 (by decide) rfl ?_
  refine en_putI (pc' := 30) (n := 5) (h2 := hh_232) dX1_init_27 fl_1_22 (by decide +kernel) (by decide) (by decide) rfl rfl ?_
  refine ex_aload_n (pc' := 31) dX1_init_30 rfl rfl ?_
  refine ex_sipush (v := 288) (pc' := 34) dX1_init_31 (by decide) rfl ?_
  refine en_narrI (pc' := 36) (a := 103) (nn := 288) (h2 := hh_233) dX1_init_34 (by decide +kernel) rfl rfl ?_
  refine en_putR (pc' := 39) (n := 5) (h2 := hh_234) dX1_init_36 fl_1_25 (by decide +kernel) (by decide) (by decide) rfl rfl ?_
  exact ex_vretV dX1_init_39 rfl rfl
set_option maxRecDepth 20000 in
theorem kc_76 (d : Nat) : zCv (d + 1) mX2_init [.inr (.inr (some 106))] hh_243 (fun h' => h' = hh_255) := by
  show zEx none (d + 1) mX2_init (0, [(0, .inr (.inr (some 106)))], [], hh_243) _
  refine ex_aload_n (pc' := 1) dX2_init_0 rfl rfl ?_
  refine ex_obj (pc' := 4) dX2_init_1 ml_2_3 (by decide) rfl ?_
  refine ex_aload_n (pc' := 5) dX2_init_4 rfl rfl ?_
  refine ex_iconst (v := 0) (pc' := 6) dX2_init_5 (by decide) rfl ?_
  refine en_putI (pc' := 9) (n := 7) (h2 := hh_244) dX2_init_6 fl_2_9 (by decide +kernel) (by decide) (by decide) rfl rfl ?_
  refine ex_aload_n (pc' := 10) dX2_init_9 rfl rfl ?_
  refine ex_iconst (v := 0) (pc' := 11) dX2_init_10 (by decide) rfl ?_
  refine en_putI (pc' := 14) (n := 7) (h2 := hh_245) dX2_init_11 fl_2_15 (by decide +kernel) (by decide) (by decide) rfl rfl ?_
  refine ex_aload_n (pc' := 15) dX2_init_14 rfl rfl ?_
  refine ex_iconst (v := 5) (pc' := 16) dX2_init_15 (by decide) rfl ?_
  refine en_narrI (pc' := 18) (a := 107) (nn := 5) (h2 := hh_246) dX2_init_16 (by decide +kernel) rfl rfl ?_
  refine en_putR (pc' := 21) (n := 7) (h2 := hh_247) dX2_init_18 fl_2_18 (by decide +kernel) (by decide) (by decide) rfl rfl ?_
  refine ex_aload_n (pc' := 22) dX2_init_21 rfl rfl ?_
  refine ex_iconst (v := 5) (pc' := 23) dX2_init_22 (by decide) rfl ?_
  refine en_narrI (pc' := 25) (a := 108) (nn := 5) (h2 := hh_248) dX2_init_23 (by decide +kernel) rfl rfl ?_
  refine en_putR (pc' := 28) (n := 7) (h2 := hh_249) dX2_init_25 fl_2_22 (by decide +kernel) (by decide) (by decide) rfl rfl ?_
  refine ex_aload_n (pc' := 29) dX2_init_28 rfl rfl ?_
  refine ex_bipush (v := 8) (pc' := 31) dX2_init_29 (by decide) rfl ?_
  refine en_narrI (pc' := 33) (a := 109) (nn := 8) (h2 := hh_250) dX2_init_31 (by decide +kernel) rfl rfl ?_
  refine en_putR (pc' := 36) (n := 7) (h2 := hh_251) dX2_init_33 fl_2_25 (by decide +kernel) (by decide) (by decide) rfl rfl ?_
  refine ex_aload_n (pc' := 37) dX2_init_36 rfl rfl ?_
  refine ex_bipush (v := 8) (pc' := 39) dX2_init_37 (by decide) rfl ?_
  refine en_narrI (pc' := 41) (a := 110) (nn := 8) (h2 := hh_252) dX2_init_39 (by decide +kernel) rfl rfl ?_
  refine en_putR (pc' := 44) (n := 7) (h2 := hh_253) dX2_init_41 fl_2_28 (by decide +kernel) (by decide) (by decide) rfl rfl ?_
  refine ex_aload_n (pc' := 45) dX2_init_44 rfl rfl ?_
  refine ex_bipush (v := 8) (pc' := 47) dX2_init_45 (by decide) rfl ?_
  refine en_narrI (pc' := 49) (a := 111) (nn := 8) (h2 := hh_254) dX2_init_47 (by decide +kernel) rfl rfl ?_
  refine en_putR (pc' := 52) (n := 7) (h2 := hh_255) dX2_init_49 fl_2_31 (by decide +kernel) (by decide) (by decide) rfl rfl ?_
  exact ex_vretV dX2_init_52 rfl rfl
set_option maxRecDepth 20000 in
theorem kc_77 (d : Nat) : zCv (d + 1) mX2_init [.inr (.inr (some 112))] hh_257 (fun h' => h' = hh_269) := by
  show zEx none (d + 1) mX2_init (0, [(0, .inr (.inr (some 112)))], [], hh_257) _
  refine ex_aload_n (pc' := 1) dX2_init_0 rfl rfl ?_
  refine ex_obj (pc' := 4) dX2_init_1 ml_2_3 (by decide) rfl ?_
  refine ex_aload_n (pc' := 5) dX2_init_4 rfl rfl ?_
  refine ex_iconst (v := 0) (pc' := 6) dX2_init_5 (by decide) rfl ?_
  refine en_putI (pc' := 9) (n := 7) (h2 := hh_258) dX2_init_6 fl_2_9 (by decide +kernel) (by decide) (by decide) rfl rfl ?_
  refine ex_aload_n (pc' := 10) dX2_init_9 rfl rfl ?_
  refine ex_iconst (v := 0) (pc' := 11) dX2_init_10 (by decide) rfl ?_
  refine en_putI (pc' := 14) (n := 7) (h2 := hh_259) dX2_init_11 fl_2_15 (by decide +kernel) (by decide) (by decide) rfl rfl ?_
  refine ex_aload_n (pc' := 15) dX2_init_14 rfl rfl ?_
  refine ex_iconst (v := 5) (pc' := 16) dX2_init_15 (by decide) rfl ?_
  refine en_narrI (pc' := 18) (a := 113) (nn := 5) (h2 := hh_260) dX2_init_16 (by decide +kernel) rfl rfl ?_
  refine en_putR (pc' := 21) (n := 7) (h2 := hh_261) dX2_init_18 fl_2_18 (by decide +kernel) (by decide) (by decide) rfl rfl ?_
  refine ex_aload_n (pc' := 22) dX2_init_21 rfl rfl ?_
  refine ex_iconst (v := 5) (pc' := 23) dX2_init_22 (by decide) rfl ?_
  refine en_narrI (pc' := 25) (a := 114) (nn := 5) (h2 := hh_262) dX2_init_23 (by decide +kernel) rfl rfl ?_
  refine en_putR (pc' := 28) (n := 7) (h2 := hh_263) dX2_init_25 fl_2_22 (by decide +kernel) (by decide) (by decide) rfl rfl ?_
  refine ex_aload_n (pc' := 29) dX2_init_28 rfl rfl ?_
  refine ex_bipush (v := 8) (pc' := 31) dX2_init_29 (by decide) rfl ?_
  refine en_narrI (pc' := 33) (a := 115) (nn := 8) (h2 := hh_264) dX2_init_31 (by decide +kernel) rfl rfl ?_
  refine en_putR (pc' := 36) (n := 7) (h2 := hh_265) dX2_init_33 fl_2_25 (by decide +kernel) (by decide) (by decide) rfl rfl ?_
  refine ex_aload_n (pc' := 37) dX2_init_36 rfl rfl ?_
  refine ex_bipush (v := 8) (pc' := 39) dX2_init_37 (by decide) rfl ?_
  refine en_narrI (pc' := 41) (a := 116) (nn := 8) (h2 := hh_266) dX2_init_39 (by decide +kernel) rfl rfl ?_
  refine en_putR (pc' := 44) (n := 7) (h2 := hh_267) dX2_init_41 fl_2_28 (by decide +kernel) (by decide) (by decide) rfl rfl ?_
  refine ex_aload_n (pc' := 45) dX2_init_44 rfl rfl ?_
  refine ex_bipush (v := 8) (pc' := 47) dX2_init_45 (by decide) rfl ?_
  refine en_narrI (pc' := 49) (a := 117) (nn := 8) (h2 := hh_268) dX2_init_47 (by decide +kernel) rfl rfl ?_
  refine en_putR (pc' := 52) (n := 7) (h2 := hh_269) dX2_init_49 fl_2_31 (by decide +kernel) (by decide) (by decide) rfl rfl ?_
  exact ex_vretV dX2_init_52 rfl rfl
set_option maxRecDepth 20000 in
theorem kc_78 (d : Nat) : zCv (d + 1) mX2_init [.inr (.inr (some 118))] hh_271 (fun h' => h' = hh_283) := by
  show zEx none (d + 1) mX2_init (0, [(0, .inr (.inr (some 118)))], [], hh_271) _
  refine ex_aload_n (pc' := 1) dX2_init_0 rfl rfl ?_
  refine ex_obj (pc' := 4) dX2_init_1 ml_2_3 (by decide) rfl ?_
  refine ex_aload_n (pc' := 5) dX2_init_4 rfl rfl ?_
  refine ex_iconst (v := 0) (pc' := 6) dX2_init_5 (by decide) rfl ?_
  refine en_putI (pc' := 9) (n := 7) (h2 := hh_272) dX2_init_6 fl_2_9 (by decide +kernel) (by decide) (by decide) rfl rfl ?_
  refine ex_aload_n (pc' := 10) dX2_init_9 rfl rfl ?_
  refine ex_iconst (v := 0) (pc' := 11) dX2_init_10 (by decide) rfl ?_
  refine en_putI (pc' := 14) (n := 7) (h2 := hh_273) dX2_init_11 fl_2_15 (by decide +kernel) (by decide) (by decide) rfl rfl ?_
  refine ex_aload_n (pc' := 15) dX2_init_14 rfl rfl ?_
  refine ex_iconst (v := 5) (pc' := 16) dX2_init_15 (by decide) rfl ?_
  refine en_narrI (pc' := 18) (a := 119) (nn := 5) (h2 := hh_274) dX2_init_16 (by decide +kernel) rfl rfl ?_
  refine en_putR (pc' := 21) (n := 7) (h2 := hh_275) dX2_init_18 fl_2_18 (by decide +kernel) (by decide) (by decide) rfl rfl ?_
  refine ex_aload_n (pc' := 22) dX2_init_21 rfl rfl ?_
  refine ex_iconst (v := 5) (pc' := 23) dX2_init_22 (by decide) rfl ?_
  refine en_narrI (pc' := 25) (a := 120) (nn := 5) (h2 := hh_276) dX2_init_23 (by decide +kernel) rfl rfl ?_
  refine en_putR (pc' := 28) (n := 7) (h2 := hh_277) dX2_init_25 fl_2_22 (by decide +kernel) (by decide) (by decide) rfl rfl ?_
  refine ex_aload_n (pc' := 29) dX2_init_28 rfl rfl ?_
  refine ex_bipush (v := 8) (pc' := 31) dX2_init_29 (by decide) rfl ?_
  refine en_narrI (pc' := 33) (a := 121) (nn := 8) (h2 := hh_278) dX2_init_31 (by decide +kernel) rfl rfl ?_
  refine en_putR (pc' := 36) (n := 7) (h2 := hh_279) dX2_init_33 fl_2_25 (by decide +kernel) (by decide) (by decide) rfl rfl ?_
  refine ex_aload_n (pc' := 37) dX2_init_36 rfl rfl ?_
  refine ex_bipush (v := 8) (pc' := 39) dX2_init_37 (by decide) rfl ?_
  refine en_narrI (pc' := 41) (a := 122) (nn := 8) (h2 := hh_280) dX2_init_39 (by decide +kernel) rfl rfl ?_
  refine en_putR (pc' := 44) (n := 7) (h2 := hh_281) dX2_init_41 fl_2_28 (by decide +kernel) (by decide) (by decide) rfl rfl ?_
  refine ex_aload_n (pc' := 45) dX2_init_44 rfl rfl ?_
  refine ex_bipush (v := 8) (pc' := 47) dX2_init_45 (by decide) rfl ?_
  refine en_narrI (pc' := 49) (a := 123) (nn := 8) (h2 := hh_282) dX2_init_47 (by decide +kernel) rfl rfl ?_
  refine en_putR (pc' := 52) (n := 7) (h2 := hh_283) dX2_init_49 fl_2_31 (by decide +kernel) (by decide) (by decide) rfl rfl ?_
  exact ex_vretV dX2_init_52 rfl rfl
set_option maxRecDepth 20000 in
theorem kc_79 (d : Nat) : zCv (d + 1) mX2_init [.inr (.inr (some 124))] hh_285 (fun h' => h' = hh_297) := by
  show zEx none (d + 1) mX2_init (0, [(0, .inr (.inr (some 124)))], [], hh_285) _
  refine ex_aload_n (pc' := 1) dX2_init_0 rfl rfl ?_
  refine ex_obj (pc' := 4) dX2_init_1 ml_2_3 (by decide) rfl ?_
  refine ex_aload_n (pc' := 5) dX2_init_4 rfl rfl ?_
  refine ex_iconst (v := 0) (pc' := 6) dX2_init_5 (by decide) rfl ?_
  refine en_putI (pc' := 9) (n := 7) (h2 := hh_286) dX2_init_6 fl_2_9 (by decide +kernel) (by decide) (by decide) rfl rfl ?_
  refine ex_aload_n (pc' := 10) dX2_init_9 rfl rfl ?_
  refine ex_iconst (v := 0) (pc' := 11) dX2_init_10 (by decide) rfl ?_
  refine en_putI (pc' := 14) (n := 7) (h2 := hh_287) dX2_init_11 fl_2_15 (by decide +kernel) (by decide) (by decide) rfl rfl ?_
  refine ex_aload_n (pc' := 15) dX2_init_14 rfl rfl ?_
  refine ex_iconst (v := 5) (pc' := 16) dX2_init_15 (by decide) rfl ?_
  refine en_narrI (pc' := 18) (a := 125) (nn := 5) (h2 := hh_288) dX2_init_16 (by decide +kernel) rfl rfl ?_
  refine en_putR (pc' := 21) (n := 7) (h2 := hh_289) dX2_init_18 fl_2_18 (by decide +kernel) (by decide) (by decide) rfl rfl ?_
  refine ex_aload_n (pc' := 22) dX2_init_21 rfl rfl ?_
  refine ex_iconst (v := 5) (pc' := 23) dX2_init_22 (by decide) rfl ?_
  refine en_narrI (pc' := 25) (a := 126) (nn := 5) (h2 := hh_290) dX2_init_23 (by decide +kernel) rfl rfl ?_
  refine en_putR (pc' := 28) (n := 7) (h2 := hh_291) dX2_init_25 fl_2_22 (by decide +kernel) (by decide) (by decide) rfl rfl ?_
  refine ex_aload_n (pc' := 29) dX2_init_28 rfl rfl ?_
  refine ex_bipush (v := 8) (pc' := 31) dX2_init_29 (by decide) rfl ?_
  refine en_narrI (pc' := 33) (a := 127) (nn := 8) (h2 := hh_292) dX2_init_31 (by decide +kernel) rfl rfl ?_
  refine en_putR (pc' := 36) (n := 7) (h2 := hh_293) dX2_init_33 fl_2_25 (by decide +kernel) (by decide) (by decide) rfl rfl ?_
  refine ex_aload_n (pc' := 37) dX2_init_36 rfl rfl ?_
  refine ex_bipush (v := 8) (pc' := 39) dX2_init_37 (by decide) rfl ?_
  refine en_narrI (pc' := 41) (a := 128) (nn := 8) (h2 := hh_294) dX2_init_39 (by decide +kernel) rfl rfl ?_
  refine en_putR (pc' := 44) (n := 7) (h2 := hh_295) dX2_init_41 fl_2_28 (by decide +kernel) (by decide) (by decide) rfl rfl ?_
  refine ex_aload_n (pc' := 45) dX2_init_44 rfl rfl ?_
  refine ex_bipush (v := 8) (pc' := 47) dX2_init_45 (by decide) rfl ?_
  refine en_narrI (pc' := 49) (a := 129) (nn := 8) (h2 := hh_296) dX2_init_47 (by decide +kernel) rfl rfl ?_
  refine en_putR (pc' := 52) (n := 7) (h2 := hh_297) dX2_init_49 fl_2_31 (by decide +kernel) (by decide) (by decide) rfl rfl ?_
  exact ex_vretV dX2_init_52 rfl rfl
set_option maxRecDepth 20000 in
theorem kc_80 (d : Nat) : zCv (d + 1) mX2_init [.inr (.inr (some 130))] hh_299 (fun h' => h' = hh_311) := by
  show zEx none (d + 1) mX2_init (0, [(0, .inr (.inr (some 130)))], [], hh_299) _
  refine ex_aload_n (pc' := 1) dX2_init_0 rfl rfl ?_
  refine ex_obj (pc' := 4) dX2_init_1 ml_2_3 (by decide) rfl ?_
  refine ex_aload_n (pc' := 5) dX2_init_4 rfl rfl ?_
  refine ex_iconst (v := 0) (pc' := 6) dX2_init_5 (by decide) rfl ?_
  refine en_putI (pc' := 9) (n := 7) (h2 := hh_300) dX2_init_6 fl_2_9 (by decide +kernel) (by decide) (by decide) rfl rfl ?_
  refine ex_aload_n (pc' := 10) dX2_init_9 rfl rfl ?_
  refine ex_iconst (v := 0) (pc' := 11) dX2_init_10 (by decide) rfl ?_
  refine en_putI (pc' := 14) (n := 7) (h2 := hh_301) dX2_init_11 fl_2_15 (by decide +kernel) (by decide) (by decide) rfl rfl ?_
  refine ex_aload_n (pc' := 15) dX2_init_14 rfl rfl ?_
  refine ex_iconst (v := 5) (pc' := 16) dX2_init_15 (by decide) rfl ?_
  refine en_narrI (pc' := 18) (a := 131) (nn := 5) (h2 := hh_302) dX2_init_16 (by decide +kernel) rfl rfl ?_
  refine en_putR (pc' := 21) (n := 7) (h2 := hh_303) dX2_init_18 fl_2_18 (by decide +kernel) (by decide) (by decide) rfl rfl ?_
  refine ex_aload_n (pc' := 22) dX2_init_21 rfl rfl ?_
  refine ex_iconst (v := 5) (pc' := 23) dX2_init_22 (by decide) rfl ?_
  refine en_narrI (pc' := 25) (a := 132) (nn := 5) (h2 := hh_304) dX2_init_23 (by decide +kernel) rfl rfl ?_
  refine en_putR (pc' := 28) (n := 7) (h2 := hh_305) dX2_init_25 fl_2_22 (by decide +kernel) (by decide) (by decide) rfl rfl ?_
  refine ex_aload_n (pc' := 29) dX2_init_28 rfl rfl ?_
  refine ex_bipush (v := 8) (pc' := 31) dX2_init_29 (by decide) rfl ?_
  refine en_narrI (pc' := 33) (a := 133) (nn := 8) (h2 := hh_306) dX2_init_31 (by decide +kernel) rfl rfl ?_
  refine en_putR (pc' := 36) (n := 7) (h2 := hh_307) dX2_init_33 fl_2_25 (by decide +kernel) (by decide) (by decide) rfl rfl ?_
  refine ex_aload_n (pc' := 37) dX2_init_36 rfl rfl ?_
  refine ex_bipush (v := 8) (pc' := 39) dX2_init_37 (by decide) rfl ?_
  refine en_narrI (pc' := 41) (a := 134) (nn := 8) (h2 := hh_308) dX2_init_39 (by decide +kernel) rfl rfl ?_
  refine en_putR (pc' := 44) (n := 7) (h2 := hh_309) dX2_init_41 fl_2_28 (by decide +kernel) (by decide) (by decide) rfl rfl ?_
  refine ex_aload_n (pc' := 45) dX2_init_44 rfl rfl ?_
  refine ex_bipush (v := 8) (pc' := 47) dX2_init_45 (by decide) rfl ?_
  refine en_narrI (pc' := 49) (a := 135) (nn := 8) (h2 := hh_310) dX2_init_47 (by decide +kernel) rfl rfl ?_
  refine en_putR (pc' := 52) (n := 7) (h2 := hh_311) dX2_init_49 fl_2_31 (by decide +kernel) (by decide) (by decide) rfl rfl ?_
  exact ex_vretV dX2_init_52 rfl rfl
set_option maxRecDepth 20000 in
theorem kc_81 (d : Nat) : zCv (d + 1) mX2_init [.inr (.inr (some 136))] hh_313 (fun h' => h' = hh_325) := by
  show zEx none (d + 1) mX2_init (0, [(0, .inr (.inr (some 136)))], [], hh_313) _
  refine ex_aload_n (pc' := 1) dX2_init_0 rfl rfl ?_
  refine ex_obj (pc' := 4) dX2_init_1 ml_2_3 (by decide) rfl ?_
  refine ex_aload_n (pc' := 5) dX2_init_4 rfl rfl ?_
  refine ex_iconst (v := 0) (pc' := 6) dX2_init_5 (by decide) rfl ?_
  refine en_putI (pc' := 9) (n := 7) (h2 := hh_314) dX2_init_6 fl_2_9 (by decide +kernel) (by decide) (by decide) rfl rfl ?_
  refine ex_aload_n (pc' := 10) dX2_init_9 rfl rfl ?_
  refine ex_iconst (v := 0) (pc' := 11) dX2_init_10 (by decide) rfl ?_
  refine en_putI (pc' := 14) (n := 7) (h2 := hh_315) dX2_init_11 fl_2_15 (by decide +kernel) (by decide) (by decide) rfl rfl ?_
  refine ex_aload_n (pc' := 15) dX2_init_14 rfl rfl ?_
  refine ex_iconst (v := 5) (pc' := 16) dX2_init_15 (by decide) rfl ?_
  refine en_narrI (pc' := 18) (a := 137) (nn := 5) (h2 := hh_316) dX2_init_16 (by decide +kernel) rfl rfl ?_
  refine en_putR (pc' := 21) (n := 7) (h2 := hh_317) dX2_init_18 fl_2_18 (by decide +kernel) (by decide) (by decide) rfl rfl ?_
  refine ex_aload_n (pc' := 22) dX2_init_21 rfl rfl ?_
  refine ex_iconst (v := 5) (pc' := 23) dX2_init_22 (by decide) rfl ?_
  refine en_narrI (pc' := 25) (a := 138) (nn := 5) (h2 := hh_318) dX2_init_23 (by decide +kernel) rfl rfl ?_
  refine en_putR (pc' := 28) (n := 7) (h2 := hh_319) dX2_init_25 fl_2_22 (by decide +kernel) (by decide) (by decide) rfl rfl ?_
  refine ex_aload_n (pc' := 29) dX2_init_28 rfl rfl ?_
  refine ex_bipush (v := 8) (pc' := 31) dX2_init_29 (by decide) rfl ?_
  refine en_narrI (pc' := 33) (a := 139) (nn := 8) (h2 := hh_320) dX2_init_31 (by decide +kernel) rfl rfl ?_
  refine en_putR (pc' := 36) (n := 7) (h2 := hh_321) dX2_init_33 fl_2_25 (by decide +kernel) (by decide) (by decide) rfl rfl ?_
  refine ex_aload_n (pc' := 37) dX2_init_36 rfl rfl ?_
  refine ex_bipush (v := 8) (pc' := 39) dX2_init_37 (by decide) rfl ?_
  refine en_narrI (pc' := 41) (a := 140) (nn := 8) (h2 := hh_322) dX2_init_39 (by decide +kernel) rfl rfl ?_
  refine en_putR (pc' := 44) (n := 7) (h2 := hh_323) dX2_init_41 fl_2_28 (by decide +kernel) (by decide) (by decide) rfl rfl ?_
  refine ex_aload_n (pc' := 45) dX2_init_44 rfl rfl ?_
  refine ex_bipush (v := 8) (pc' := 47) dX2_init_45 (by decide) rfl ?_
  refine en_narrI (pc' := 49) (a := 141) (nn := 8) (h2 := hh_324) dX2_init_47 (by decide +kernel) rfl rfl ?_
  refine en_putR (pc' := 52) (n := 7) (h2 := hh_325) dX2_init_49 fl_2_31 (by decide +kernel) (by decide) (by decide) rfl rfl ?_
  exact ex_vretV dX2_init_52 rfl rfl
set_option maxRecDepth 20000 in
theorem kc_82 (d : Nat) : zCv (d + 1) mX2_init [.inr (.inr (some 142))] hh_327 (fun h' => h' = hh_339) := by
  show zEx none (d + 1) mX2_init (0, [(0, .inr (.inr (some 142)))], [], hh_327) _
  refine ex_aload_n (pc' := 1) dX2_init_0 rfl rfl ?_
  refine ex_obj (pc' := 4) dX2_init_1 ml_2_3 (by decide) rfl ?_
  refine ex_aload_n (pc' := 5) dX2_init_4 rfl rfl ?_
  refine ex_iconst (v := 0) (pc' := 6) dX2_init_5 (by decide) rfl ?_
  refine en_putI (pc' := 9) (n := 7) (h2 := hh_328) dX2_init_6 fl_2_9 (by decide +kernel) (by decide) (by decide) rfl rfl ?_
  refine ex_aload_n (pc' := 10) dX2_init_9 rfl rfl ?_
  refine ex_iconst (v := 0) (pc' := 11) dX2_init_10 (by decide) rfl ?_
  refine en_putI (pc' := 14) (n := 7) (h2 := hh_329) dX2_init_11 fl_2_15 (by decide +kernel) (by decide) (by decide) rfl rfl ?_
  refine ex_aload_n (pc' := 15) dX2_init_14 rfl rfl ?_
  refine ex_iconst (v := 5) (pc' := 16) dX2_init_15 (by decide) rfl ?_
  refine en_narrI (pc' := 18) (a := 143) (nn := 5) (h2 := hh_330) dX2_init_16 (by decide +kernel) rfl rfl ?_
  refine en_putR (pc' := 21) (n := 7) (h2 := hh_331) dX2_init_18 fl_2_18 (by decide +kernel) (by decide) (by decide) rfl rfl ?_
  refine ex_aload_n (pc' := 22) dX2_init_21 rfl rfl ?_
  refine ex_iconst (v := 5) (pc' := 23) dX2_init_22 (by decide) rfl ?_
  refine en_narrI (pc' := 25) (a := 144) (nn := 5) (h2 := hh_332) dX2_init_23 (by decide +kernel) rfl rfl ?_
  refine en_putR (pc' := 28) (n := 7) (h2 := hh_333) dX2_init_25 fl_2_22 (by decide +kernel) (by decide) (by decide) rfl rfl ?_
  refine ex_aload_n (pc' := 29) dX2_init_28 rfl rfl ?_
  refine ex_bipush (v := 8) (pc' := 31) dX2_init_29 (by decide) rfl ?_
  refine en_narrI (pc' := 33) (a := 145) (nn := 8) (h2 := hh_334) dX2_init_31 (by decide +kernel) rfl rfl ?_
  refine en_putR (pc' := 36) (n := 7) (h2 := hh_335) dX2_init_33 fl_2_25 (by decide +kernel) (by decide) (by decide) rfl rfl ?_
  refine ex_aload_n (pc' := 37) dX2_init_36 rfl rfl ?_
  refine ex_bipush (v := 8) (pc' := 39) dX2_init_37 (by decide) rfl ?_
  refine en_narrI (pc' := 41) (a := 146) (nn := 8) (h2 := hh_336) dX2_init_39 (by decide +kernel) rfl rfl ?_
  refine en_putR (pc' := 44) (n := 7) (h2 := hh_337) dX2_init_41 fl_2_28 (by decide +kernel) (by decide) (by decide) rfl rfl ?_
  refine ex_aload_n (pc' := 45) dX2_init_44 rfl rfl ?_
  refine ex_bipush (v := 8) (pc' := 47) dX2_init_45 (by decide) rfl ?_
  refine en_narrI (pc' := 49) (a := 147) (nn := 8) (h2 := hh_338) dX2_init_47 (by decide +kernel) rfl rfl ?_
  refine en_putR (pc' := 52) (n := 7) (h2 := hh_339) dX2_init_49 fl_2_31 (by decide +kernel) (by decide) (by decide) rfl rfl ?_
  exact ex_vretV dX2_init_52 rfl rfl
set_option maxRecDepth 20000 in
theorem kc_83 (d : Nat) : zCv (d + 1) mX2_init [.inr (.inr (some 148))] hh_341 (fun h' => h' = hh_353) := by
  show zEx none (d + 1) mX2_init (0, [(0, .inr (.inr (some 148)))], [], hh_341) _
  refine ex_aload_n (pc' := 1) dX2_init_0 rfl rfl ?_
  refine ex_obj (pc' := 4) dX2_init_1 ml_2_3 (by decide) rfl ?_
  refine ex_aload_n (pc' := 5) dX2_init_4 rfl rfl ?_
  refine ex_iconst (v := 0) (pc' := 6) dX2_init_5 (by decide) rfl ?_
  refine en_putI (pc' := 9) (n := 7) (h2 := hh_342) dX2_init_6 fl_2_9 (by decide +kernel) (by decide) (by decide) rfl rfl ?_
  refine ex_aload_n (pc' := 10) dX2_init_9 rfl rfl ?_
  refine ex_iconst (v := 0) (pc' := 11) dX2_init_10 (by decide) rfl ?_
  refine en_putI (pc' := 14) (n := 7) (h2 := hh_343) dX2_init_11 fl_2_15 (by decide +kernel) (by decide) (by decide) rfl rfl ?_
  refine ex_aload_n (pc' := 15) dX2_init_14 rfl rfl ?_
  refine ex_iconst (v := 5) (pc' := 16) dX2_init_15 (by decide) rfl ?_
  refine en_narrI (pc' := 18) (a := 149) (nn := 5) (h2 := hh_344) dX2_init_16 (by decide +kernel) rfl rfl ?_
  refine en_putR (pc' := 21) (n := 7) (h2 := hh_345) dX2_init_18 fl_2_18 (by decide +kernel) (by decide) (by decide) rfl rfl ?_
  refine ex_aload_n (pc' := 22) dX2_init_21 rfl rfl ?_
  refine ex_iconst (v := 5) (pc' := 23) dX2_init_22 (by decide) rfl ?_
  refine en_narrI (pc' := 25) (a := 150) (nn := 5) (h2 := hh_346) dX2_init_23 (by decide +kernel) rfl rfl ?_
  refine en_putR (pc' := 28) (n := 7) (h2 := hh_347) dX2_init_25 fl_2_22 (by decide +kernel) (by decide) (by decide) rfl rfl ?_
  refine ex_aload_n (pc' := 29) dX2_init_28 rfl rfl ?_
  refine ex_bipush (v := 8) (pc' := 31) dX2_init_29 (by decide) rfl ?_
  refine en_narrI (pc' := 33) (a := 151) (nn := 8) (h2 := hh_348) dX2_init_31 (by decide +kernel) rfl rfl ?_
  refine en_putR (pc' := 36) (n := 7) (h2 := hh_349) dX2_init_33 fl_2_25 (by decide +kernel) (by decide) (by decide) rfl rfl ?_
  refine ex_aload_n (pc' := 37) dX2_init_36 rfl rfl ?_
  refine ex_bipush (v := 8) (pc' := 39) dX2_init_37 (by decide) rfl ?_
  refine en_narrI (pc' := 41) (a := 152) (nn := 8) (h2 := hh_350) dX2_init_39 (by decide +kernel) rfl rfl ?_
  refine en_putR (pc' := 44) (n := 7) (h2 := hh_351) dX2_init_41 fl_2_28 (by decide +kernel) (by decide) (by decide) rfl rfl ?_
  refine ex_aload_n (pc' := 45) dX2_init_44 rfl rfl ?_
  refine ex_bipush (v := 8) (pc' := 47) dX2_init_45 (by decide) rfl ?_
  refine en_narrI (pc' := 49) (a := 153) (nn := 8) (h2 := hh_352) dX2_init_47 (by decide +kernel) rfl rfl ?_
  refine en_putR (pc' := 52) (n := 7) (h2 := hh_353) dX2_init_49 fl_2_31 (by decide +kernel) (by decide) (by decide) rfl rfl ?_
  exact ex_vretV dX2_init_52 rfl rfl
set_option maxRecDepth 20000 in
theorem kc_84 (d : Nat) : zCv (d + 1) mX2_init [.inr (.inr (some 154))] hh_355 (fun h' => h' = hh_367) := by
  show zEx none (d + 1) mX2_init (0, [(0, .inr (.inr (some 154)))], [], hh_355) _
  refine ex_aload_n (pc' := 1) dX2_init_0 rfl rfl ?_
  refine ex_obj (pc' := 4) dX2_init_1 ml_2_3 (by decide) rfl ?_
  refine ex_aload_n (pc' := 5) dX2_init_4 rfl rfl ?_
  refine ex_iconst (v := 0) (pc' := 6) dX2_init_5 (by decide) rfl ?_
  refine en_putI (pc' := 9) (n := 7) (h2 := hh_356) dX2_init_6 fl_2_9 (by decide +kernel) (by decide) (by decide) rfl rfl ?_
  refine ex_aload_n (pc' := 10) dX2_init_9 rfl rfl ?_
  refine ex_iconst (v := 0) (pc' := 11) dX2_init_10 (by decide) rfl ?_
  refine en_putI (pc' := 14) (n := 7) (h2 := hh_357) dX2_init_11 fl_2_15 (by decide +kernel) (by decide) (by decide) rfl rfl ?_
  refine ex_aload_n (pc' := 15) dX2_init_14 rfl rfl ?_
  refine ex_iconst (v := 5) (pc' := 16) dX2_init_15 (by decide) rfl ?_
  refine en_narrI (pc' := 18) (a := 155) (nn := 5) (h2 := hh_358) dX2_init_16 (by decide +kernel) rfl rfl ?_
  refine en_putR (pc' := 21) (n := 7) (h2 := hh_359) dX2_init_18 fl_2_18 (by decide +kernel) (by decide) (by decide) rfl rfl ?_
  refine ex_aload_n (pc' := 22) dX2_init_21 rfl rfl ?_
  refine ex_iconst (v := 5) (pc' := 23) dX2_init_22 (by decide) rfl ?_
  refine en_narrI (pc' := 25) (a := 156) (nn := 5) (h2 := hh_360) dX2_init_23 (by decide +kernel) rfl rfl ?_
  refine en_putR (pc' := 28) (n := 7) (h2 := hh_361) dX2_init_25 fl_2_22 (by decide +kernel) (by decide) (by decide) rfl rfl ?_
  refine ex_aload_n (pc' := 29) dX2_init_28 rfl rfl ?_
  refine ex_bipush (v := 8) (pc' := 31) dX2_init_29 (by decide) rfl ?_
  refine en_narrI (pc' := 33) (a := 157) (nn := 8) (h2 := hh_362) dX2_init_31 (by decide +kernel) rfl rfl ?_
  refine en_putR (pc' := 36) (n := 7) (h2 := hh_363) dX2_init_33 fl_2_25 (by decide +kernel) (by decide) (by decide) rfl rfl ?_
  refine ex_aload_n (pc' := 37) dX2_init_36 rfl rfl ?_
  refine ex_bipush (v := 8) (pc' := 39) dX2_init_37 (by decide) rfl ?_
  refine en_narrI (pc' := 41) (a := 158) (nn := 8) (h2 := hh_364) dX2_init_39 (by decide +kernel) rfl rfl ?_
  refine en_putR (pc' := 44) (n := 7) (h2 := hh_365) dX2_init_41 fl_2_28 (by decide +kernel) (by decide) (by decide) rfl rfl ?_
  refine ex_aload_n (pc' := 45) dX2_init_44 rfl rfl ?_
  refine ex_bipush (v := 8) (pc' := 47) dX2_init_45 (by decide) rfl ?_
  refine en_narrI (pc' := 49) (a := 159) (nn := 8) (h2 := hh_366) dX2_init_47 (by decide +kernel) rfl rfl ?_
  refine en_putR (pc' := 52) (n := 7) (h2 := hh_367) dX2_init_49 fl_2_31 (by decide +kernel) (by decide) (by decide) rfl rfl ?_
  exact ex_vretV dX2_init_52 rfl rfl
set_option maxRecDepth 20000 in
theorem kc_85 (d : Nat) : zCv (d + 1) mX2_init [.inr (.inr (some 160))] hh_369 (fun h' => h' = hh_381) := by
  show zEx none (d + 1) mX2_init (0, [(0, .inr (.inr (some 160)))], [], hh_369) _
  refine ex_aload_n (pc' := 1) dX2_init_0 rfl rfl ?_
  refine ex_obj (pc' := 4) dX2_init_1 ml_2_3 (by decide) rfl ?_
  refine ex_aload_n (pc' := 5) dX2_init_4 rfl rfl ?_
  refine ex_iconst (v := 0) (pc' := 6) dX2_init_5 (by decide) rfl ?_
  refine en_putI (pc' := 9) (n := 7) (h2 := hh_370) dX2_init_6 fl_2_9 (by decide +kernel) (by decide) (by decide) rfl rfl ?_
  refine ex_aload_n (pc' := 10) dX2_init_9 rfl rfl ?_
  refine ex_iconst (v := 0) (pc' := 11) dX2_init_10 (by decide) rfl ?_
  refine en_putI (pc' := 14) (n := 7) (h2 := hh_371) dX2_init_11 fl_2_15 (by decide +kernel) (by decide) (by decide) rfl rfl ?_
  refine ex_aload_n (pc' := 15) dX2_init_14 rfl rfl ?_
  refine ex_iconst (v := 5) (pc' := 16) dX2_init_15 (by decide) rfl ?_
  refine en_narrI (pc' := 18) (a := 161) (nn := 5) (h2 := hh_372) dX2_init_16 (by decide +kernel) rfl rfl ?_
  refine en_putR (pc' := 21) (n := 7) (h2 := hh_373) dX2_init_18 fl_2_18 (by decide +kernel) (by decide) (by decide) rfl rfl ?_
  refine ex_aload_n (pc' := 22) dX2_init_21 rfl rfl ?_
  refine ex_iconst (v := 5) (pc' := 23) dX2_init_22 (by decide) rfl ?_
  refine en_narrI (pc' := 25) (a := 162) (nn := 5) (h2 := hh_374) dX2_init_23 (by decide +kernel) rfl rfl ?_
  refine en_putR (pc' := 28) (n := 7) (h2 := hh_375) dX2_init_25 fl_2_22 (by decide +kernel) (by decide) (by decide) rfl rfl ?_
  refine ex_aload_n (pc' := 29) dX2_init_28 rfl rfl ?_
  refine ex_bipush (v := 8) (pc' := 31) dX2_init_29 (by decide) rfl ?_
  refine en_narrI (pc' := 33) (a := 163) (nn := 8) (h2 := hh_376) dX2_init_31 (by decide +kernel) rfl rfl ?_
  refine en_putR (pc' := 36) (n := 7) (h2 := hh_377) dX2_init_33 fl_2_25 (by decide +kernel) (by decide) (by decide) rfl rfl ?_
  refine ex_aload_n (pc' := 37) dX2_init_36 rfl rfl ?_
  refine ex_bipush (v := 8) (pc' := 39) dX2_init_37 (by decide) rfl ?_
  refine en_narrI (pc' := 41) (a := 164) (nn := 8) (h2 := hh_378) dX2_init_39 (by decide +kernel) rfl rfl ?_
  refine en_putR (pc' := 44) (n := 7) (h2 := hh_379) dX2_init_41 fl_2_28 (by decide +kernel) (by decide) (by decide) rfl rfl ?_
  refine ex_aload_n (pc' := 45) dX2_init_44 rfl rfl ?_
  refine ex_bipush (v := 8) (pc' := 47) dX2_init_45 (by decide) rfl ?_
  refine en_narrI (pc' := 49) (a := 165) (nn := 8) (h2 := hh_380) dX2_init_47 (by decide +kernel) rfl rfl ?_
  refine en_putR (pc' := 52) (n := 7) (h2 := hh_381) dX2_init_49 fl_2_31 (by decide +kernel) (by decide) (by decide) rfl rfl ?_
  exact ex_vretV dX2_init_52 rfl rfl
set_option maxRecDepth 20000 in
theorem kc_86 (d : Nat) : zCv (d + 1) mX2_init [.inr (.inr (some 166))] hh_383 (fun h' => h' = hh_395) := by
  show zEx none (d + 1) mX2_init (0, [(0, .inr (.inr (some 166)))], [], hh_383) _
  refine ex_aload_n (pc' := 1) dX2_init_0 rfl rfl ?_
  refine ex_obj (pc' := 4) dX2_init_1 ml_2_3 (by decide) rfl ?_
  refine ex_aload_n (pc' := 5) dX2_init_4 rfl rfl ?_
  refine ex_iconst (v := 0) (pc' := 6) dX2_init_5 (by decide) rfl ?_
  refine en_putI (pc' := 9) (n := 7) (h2 := hh_384) dX2_init_6 fl_2_9 (by decide +kernel) (by decide) (by decide) rfl rfl ?_
  refine ex_aload_n (pc' := 10) dX2_init_9 rfl rfl ?_
  refine ex_iconst (v := 0) (pc' := 11) dX2_init_10 (by decide) rfl ?_
  refine en_putI (pc' := 14) (n := 7) (h2 := hh_385) dX2_init_11 fl_2_15 (by decide +kernel) (by decide) (by decide) rfl rfl ?_
  refine ex_aload_n (pc' := 15) dX2_init_14 rfl rfl ?_
  refine ex_iconst (v := 5) (pc' := 16) dX2_init_15 (by decide) rfl ?_
  refine en_narrI (pc' := 18) (a := 167) (nn := 5) (h2 := hh_386) dX2_init_16 (by decide +kernel) rfl rfl ?_
  refine en_putR (pc' := 21) (n := 7) (h2 := hh_387) dX2_init_18 fl_2_18 (by decide +kernel) (by decide) (by decide) rfl rfl ?_
  refine ex_aload_n (pc' := 22) dX2_init_21 rfl rfl ?_
  refine ex_iconst (v := 5) (pc' := 23) dX2_init_22 (by decide) rfl ?_
  refine en_narrI (pc' := 25) (a := 168) (nn := 5) (h2 := hh_388) dX2_init_23 (by decide +kernel) rfl rfl ?_
  refine en_putR (pc' := 28) (n := 7) (h2 := hh_389) dX2_init_25 fl_2_22 (by decide +kernel) (by decide) (by decide) rfl rfl ?_
  refine ex_aload_n (pc' := 29) dX2_init_28 rfl rfl ?_
  refine ex_bipush (v := 8) (pc' := 31) dX2_init_29 (by decide) rfl ?_
  refine en_narrI (pc' := 33) (a := 169) (nn := 8) (h2 := hh_390) dX2_init_31 (by decide +kernel) rfl rfl ?_
  refine en_putR (pc' := 36) (n := 7) (h2 := hh_391) dX2_init_33 fl_2_25 (by decide +kernel) (by decide) (by decide) rfl rfl ?_
  refine ex_aload_n (pc' := 37) dX2_init_36 rfl rfl ?_
  refine ex_bipush (v := 8) (pc' := 39) dX2_init_37 (by decide) rfl ?_
  refine en_narrI (pc' := 41) (a := 170) (nn := 8) (h2 := hh_392) dX2_init_39 (by decide +kernel) rfl rfl ?_
  refine en_putR (pc' := 44) (n := 7) (h2 := hh_393) dX2_init_41 fl_2_28 (by decide +kernel) (by decide) (by decide) rfl rfl ?_
  refine ex_aload_n (pc' := 45) dX2_init_44 rfl rfl ?_
  refine ex_bipush (v := 8) (pc' := 47) dX2_init_45 (by decide) rfl ?_
  refine en_narrI (pc' := 49) (a := 171) (nn := 8) (h2 := hh_394) dX2_init_47 (by decide +kernel) rfl rfl ?_
  refine en_putR (pc' := 52) (n := 7) (h2 := hh_395) dX2_init_49 fl_2_31 (by decide +kernel) (by decide) (by decide) rfl rfl ?_
  exact ex_vretV dX2_init_52 rfl rfl
set_option maxRecDepth 20000 in
theorem kc_87 (d : Nat) : zCv (d + 1) mX2_init [.inr (.inr (some 172))] hh_397 (fun h' => h' = hh_409) := by
  show zEx none (d + 1) mX2_init (0, [(0, .inr (.inr (some 172)))], [], hh_397) _
  refine ex_aload_n (pc' := 1) dX2_init_0 rfl rfl ?_
  refine ex_obj (pc' := 4) dX2_init_1 ml_2_3 (by decide) rfl ?_
  refine ex_aload_n (pc' := 5) dX2_init_4 rfl rfl ?_
  refine ex_iconst (v := 0) (pc' := 6) dX2_init_5 (by decide) rfl ?_
  refine en_putI (pc' := 9) (n := 7) (h2 := hh_398) dX2_init_6 fl_2_9 (by decide +kernel) (by decide) (by decide) rfl rfl ?_
  refine ex_aload_n (pc' := 10) dX2_init_9 rfl rfl ?_
  refine ex_iconst (v := 0) (pc' := 11) dX2_init_10 (by decide) rfl ?_
  refine en_putI (pc' := 14) (n := 7) (h2 := hh_399) dX2_init_11 fl_2_15 (by decide +kernel) (by decide) (by decide) rfl rfl ?_
  refine ex_aload_n (pc' := 15) dX2_init_14 rfl rfl ?_
  refine ex_iconst (v := 5) (pc' := 16) dX2_init_15 (by decide) rfl ?_
  refine en_narrI (pc' := 18) (a := 173) (nn := 5) (h2 := hh_400) dX2_init_16 (by decide +kernel) rfl rfl ?_
  refine en_putR (pc' := 21) (n := 7) (h2 := hh_401) dX2_init_18 fl_2_18 (by decide +kernel) (by decide) (by decide) rfl rfl ?_
  refine ex_aload_n (pc' := 22) dX2_init_21 rfl rfl ?_
  refine ex_iconst (v := 5) (pc' := 23) dX2_init_22 (by decide) rfl ?_
  refine en_narrI (pc' := 25) (a := 174) (nn := 5) (h2 := hh_402) dX2_init_23 (by decide +kernel) rfl rfl ?_
  refine en_putR (pc' := 28) (n := 7) (h2 := hh_403) dX2_init_25 fl_2_22 (by decide +kernel) (by decide) (by decide) rfl rfl ?_
  refine ex_aload_n (pc' := 29) dX2_init_28 rfl rfl ?_
  refine ex_bipush (v := 8) (pc' := 31) dX2_init_29 (by decide) rfl ?_
  refine en_narrI (pc' := 33) (a := 175) (nn := 8) (h2 := hh_404) dX2_init_31 (by decide +kernel) rfl rfl ?_
  refine en_putR (pc' := 36) (n := 7) (h2 := hh_405) dX2_init_33 fl_2_25 (by decide +kernel) (by decide) (by decide) rfl rfl ?_
  refine ex_aload_n (pc' := 37) dX2_init_36 rfl rfl ?_
  refine ex_bipush (v := 8) (pc' := 39) dX2_init_37 (by decide) rfl ?_
  refine en_narrI (pc' := 41) (a := 176) (nn := 8) (h2 := hh_406) dX2_init_39 (by decide +kernel) rfl rfl ?_
  refine en_putR (pc' := 44) (n := 7) (h2 := hh_407) dX2_init_41 fl_2_28 (by decide +kernel) (by decide) (by decide) rfl rfl ?_
  refine ex_aload_n (pc' := 45) dX2_init_44 rfl rfl ?_
  refine ex_bipush (v := 8) (pc' := 47) dX2_init_45 (by decide) rfl ?_
  refine en_narrI (pc' := 49) (a := 177) (nn := 8) (h2 := hh_408) dX2_init_47 (by decide +kernel) rfl rfl ?_
  refine en_putR (pc' := 52) (n := 7) (h2 := hh_409) dX2_init_49 fl_2_31 (by decide +kernel) (by decide) (by decide) rfl rfl ?_
  exact ex_vretV dX2_init_52 rfl rfl
set_option maxRecDepth 20000 in
theorem kc_88 (d : Nat) : zCv (d + 1) mX2_init [.inr (.inr (some 178))] hh_411 (fun h' => h' = hh_423) := by
  show zEx none (d + 1) mX2_init (0, [(0, .inr (.inr (some 178)))], [], hh_411) _
  refine ex_aload_n (pc' := 1) dX2_init_0 rfl rfl ?_
  refine ex_obj (pc' := 4) dX2_init_1 ml_2_3 (by decide) rfl ?_
  refine ex_aload_n (pc' := 5) dX2_init_4 rfl rfl ?_
  refine ex_iconst (v := 0) (pc' := 6) dX2_init_5 (by decide) rfl ?_
  refine en_putI (pc' := 9) (n := 7) (h2 := hh_412) dX2_init_6 fl_2_9 (by decide +kernel) (by decide) (by decide) rfl rfl ?_
  refine ex_aload_n (pc' := 10) dX2_init_9 rfl rfl ?_
  refine ex_iconst (v := 0) (pc' := 11) dX2_init_10 (by decide) rfl ?_
  refine en_putI (pc' := 14) (n := 7) (h2 := hh_413) dX2_init_11 fl_2_15 (by decide +kernel) (by decide) (by decide) rfl rfl ?_
  refine ex_aload_n (pc' := 15) dX2_init_14 rfl rfl ?_
  refine ex_iconst (v := 5) (pc' := 16) dX2_init_15 (by decide) rfl ?_
  refine en_narrI (pc' := 18) (a := 179) (nn := 5) (h2 := hh_414) dX2_init_16 (by decide +kernel) rfl rfl ?_
  refine en_putR (pc' := 21) (n := 7) (h2 := hh_415) dX2_init_18 fl_2_18 (by decide +kernel) (by decide) (by decide) rfl rfl ?_
  refine ex_aload_n (pc' := 22) dX2_init_21 rfl rfl ?_
  refine ex_iconst (v := 5) (pc' := 23) dX2_init_22 (by decide) rfl ?_
  refine en_narrI (pc' := 25) (a := 180) (nn := 5) (h2 := hh_416) dX2_init_23 (by decide +kernel) rfl rfl ?_
  refine en_putR (pc' := 28) (n := 7) (h2 := hh_417) dX2_init_25 fl_2_22 (by decide +kernel) (by decide) (by decide) rfl rfl ?_
  refine ex_aload_n (pc' := 29) dX2_init_28 rfl rfl ?_
  refine ex_bipush (v := 8) (pc' := 31) dX2_init_29 (by decide) rfl ?_
  refine en_narrI (pc' := 33) (a := 181) (nn := 8) (h2 := hh_418) dX2_init_31 (by decide +kernel) rfl rfl ?_
  refine en_putR (pc' := 36) (n := 7) (h2 := hh_419) dX2_init_33 fl_2_25 (by decide +kernel) (by decide) (by decide) rfl rfl ?_
  refine ex_aload_n (pc' := 37) dX2_init_36 rfl rfl ?_
  refine ex_bipush (v := 8) (pc' := 39) dX2_init_37 (by decide) rfl ?_
  refine en_narrI (pc' := 41) (a := 182) (nn := 8) (h2 := hh_420) dX2_init_39 (by decide +kernel) rfl rfl ?_
  refine en_putR (pc' := 44) (n := 7) (h2 := hh_421) dX2_init_41 fl_2_28 (by decide +kernel) (by decide) (by decide) rfl rfl ?_
  refine ex_aload_n (pc' := 45) dX2_init_44 rfl rfl ?_
  refine ex_bipush (v := 8) (pc' := 47) dX2_init_45 (by decide) rfl ?_
  refine en_narrI (pc' := 49) (a := 183) (nn := 8) (h2 := hh_422) dX2_init_47 (by decide +kernel) rfl rfl ?_
  refine en_putR (pc' := 52) (n := 7) (h2 := hh_423) dX2_init_49 fl_2_31 (by decide +kernel) (by decide) (by decide) rfl rfl ?_
  exact ex_vretV dX2_init_52 rfl rfl
set_option maxRecDepth 20000 in
theorem kc_89 (d : Nat) : zCv (d + 1) mX2_init [.inr (.inr (some 184))] hh_425 (fun h' => h' = hh_437) := by
  show zEx none (d + 1) mX2_init (0, [(0, .inr (.inr (some 184)))], [], hh_425) _
  refine ex_aload_n (pc' := 1) dX2_init_0 rfl rfl ?_
  refine ex_obj (pc' := 4) dX2_init_1 ml_2_3 (by decide) rfl ?_
  refine ex_aload_n (pc' := 5) dX2_init_4 rfl rfl ?_
  refine ex_iconst (v := 0) (pc' := 6) dX2_init_5 (by decide) rfl ?_
  refine en_putI (pc' := 9) (n := 7) (h2 := hh_426) dX2_init_6 fl_2_9 (by decide +kernel) (by decide) (by decide) rfl rfl ?_
  refine ex_aload_n (pc' := 10) dX2_init_9 rfl rfl ?_
  refine ex_iconst (v := 0) (pc' := 11) dX2_init_10 (by decide) rfl ?_
  refine en_putI (pc' := 14) (n := 7) (h2 := hh_427) dX2_init_11 fl_2_15 (by decide +kernel) (by decide) (by decide) rfl rfl ?_
  refine ex_aload_n (pc' := 15) dX2_init_14 rfl rfl ?_
  refine ex_iconst (v := 5) (pc' := 16) dX2_init_15 (by decide) rfl ?_
  refine en_narrI (pc' := 18) (a := 185) (nn := 5) (h2 := hh_428) dX2_init_16 (by decide +kernel) rfl rfl ?_
  refine en_putR (pc' := 21) (n := 7) (h2 := hh_429) dX2_init_18 fl_2_18 (by decide +kernel) (by decide) (by decide) rfl rfl ?_
  refine ex_aload_n (pc' := 22) dX2_init_21 rfl rfl ?_
  refine ex_iconst (v := 5) (pc' := 23) dX2_init_22 (by decide) rfl ?_
  refine en_narrI (pc' := 25) (a := 186) (nn := 5) (h2 := hh_430) dX2_init_23 (by decide +kernel) rfl rfl ?_
  refine en_putR (pc' := 28) (n := 7) (h2 := hh_431) dX2_init_25 fl_2_22 (by decide +kernel) (by decide) (by decide) rfl rfl ?_
  refine ex_aload_n (pc' := 29) dX2_init_28 rfl rfl ?_
  refine ex_bipush (v := 8) (pc' := 31) dX2_init_29 (by decide) rfl ?_
  refine en_narrI (pc' := 33) (a := 187) (nn := 8) (h2 := hh_432) dX2_init_31 (by decide +kernel) rfl rfl ?_
  refine en_putR (pc' := 36) (n := 7) (h2 := hh_433) dX2_init_33 fl_2_25 (by decide +kernel) (by decide) (by decide) rfl rfl ?_
  refine ex_aload_n (pc' := 37) dX2_init_36 rfl rfl ?_
  refine ex_bipush (v := 8) (pc' := 39) dX2_init_37 (by decide) rfl ?_
  refine en_narrI (pc' := 41) (a := 188) (nn := 8) (h2 := hh_434) dX2_init_39 (by decide +kernel) rfl rfl ?_
  refine en_putR (pc' := 44) (n := 7) (h2 := hh_435) dX2_init_41 fl_2_28 (by decide +kernel) (by decide) (by decide) rfl rfl ?_
  refine ex_aload_n (pc' := 45) dX2_init_44 rfl rfl ?_
  refine ex_bipush (v := 8) (pc' := 47) dX2_init_45 (by decide) rfl ?_
  refine en_narrI (pc' := 49) (a := 189) (nn := 8) (h2 := hh_436) dX2_init_47 (by decide +kernel) rfl rfl ?_
  refine en_putR (pc' := 52) (n := 7) (h2 := hh_437) dX2_init_49 fl_2_31 (by decide +kernel) (by decide) (by decide) rfl rfl ?_
  exact ex_vretV dX2_init_52 rfl rfl
set_option maxRecDepth 20000 in
theorem kc_90 (d : Nat) : zCv (d + 1) mX2_init [.inr (.inr (some 190))] hh_439 (fun h' => h' = hh_451) := by
  show zEx none (d + 1) mX2_init (0, [(0, .inr (.inr (some 190)))], [], hh_439) _
  refine ex_aload_n (pc' := 1) dX2_init_0 rfl rfl ?_
  refine ex_obj (pc' := 4) dX2_init_1 ml_2_3 (by decide) rfl ?_
  refine ex_aload_n (pc' := 5) dX2_init_4 rfl rfl ?_
  refine ex_iconst (v := 0) (pc' := 6) dX2_init_5 (by decide) rfl ?_
  refine en_putI (pc' := 9) (n := 7) (h2 := hh_440) dX2_init_6 fl_2_9 (by decide +kernel) (by decide) (by decide) rfl rfl ?_
  refine ex_aload_n (pc' := 10) dX2_init_9 rfl rfl ?_
  refine ex_iconst (v := 0) (pc' := 11) dX2_init_10 (by decide) rfl ?_
  refine en_putI (pc' := 14) (n := 7) (h2 := hh_441) dX2_init_11 fl_2_15 (by decide +kernel) (by decide) (by decide) rfl rfl ?_
  refine ex_aload_n (pc' := 15) dX2_init_14 rfl rfl ?_
  refine ex_iconst (v := 5) (pc' := 16) dX2_init_15 (by decide) rfl ?_
  refine en_narrI (pc' := 18) (a := 191) (nn := 5) (h2 := hh_442) dX2_init_16 (by decide +kernel) rfl rfl ?_
  refine en_putR (pc' := 21) (n := 7) (h2 := hh_443) dX2_init_18 fl_2_18 (by decide +kernel) (by decide) (by decide) rfl rfl ?_
  refine ex_aload_n (pc' := 22) dX2_init_21 rfl rfl ?_
  refine ex_iconst (v := 5) (pc' := 23) dX2_init_22 (by decide) rfl ?_
  refine en_narrI (pc' := 25) (a := 192) (nn := 5) (h2 := hh_444) dX2_init_23 (by decide +kernel) rfl rfl ?_
  refine en_putR (pc' := 28) (n := 7) (h2 := hh_445) dX2_init_25 fl_2_22 (by decide +kernel) (by decide) (by decide) rfl rfl ?_
  refine ex_aload_n (pc' := 29) dX2_init_28 rfl rfl ?_
  refine ex_bipush (v := 8) (pc' := 31) dX2_init_29 (by decide) rfl ?_
  refine en_narrI (pc' := 33) (a := 193) (nn := 8) (h2 := hh_446) dX2_init_31 (by decide +kernel) rfl rfl ?_
  refine en_putR (pc' := 36) (n := 7) (h2 := hh_447) dX2_init_33 fl_2_25 (by decide +kernel) (by decide) (by decide) rfl rfl ?_
  refine ex_aload_n (pc' := 37) dX2_init_36 rfl rfl ?_
  refine ex_bipush (v := 8) (pc' := 39) dX2_init_37 (by decide) rfl ?_
  refine en_narrI (pc' := 41) (a := 194) (nn := 8) (h2 := hh_448) dX2_init_39 (by decide +kernel) rfl rfl ?_
  refine en_putR (pc' := 44) (n := 7) (h2 := hh_449) dX2_init_41 fl_2_28 (by decide +kernel) (by decide) (by decide) rfl rfl ?_
  refine ex_aload_n (pc' := 45) dX2_init_44 rfl rfl ?_
  refine ex_bipush (v := 8) (pc' := 47) dX2_init_45 (by decide) rfl ?_
  refine en_narrI (pc' := 49) (a := 195) (nn := 8) (h2 := hh_450) dX2_init_47 (by decide +kernel) rfl rfl ?_
  refine en_putR (pc' := 52) (n := 7) (h2 := hh_451) dX2_init_49 fl_2_31 (by decide +kernel) (by decide) (by decide) rfl rfl ?_
  exact ex_vretV dX2_init_52 rfl rfl
set_option maxRecDepth 20000 in
theorem kc_1 (d : Nat) : zCv (d + 3) mX11_init [.inr (.inr (some 0))] hh_1 (fun h' => h' = hh_452) := by
  show zEx none (d + 3) mX11_init (0, [(0, .inr (.inr (some 0)))], [], hh_1) _
  refine ex_aload_n (pc' := 1) dX11_init_0 rfl rfl ?_
  refine ex_obj (pc' := 4) dX11_init_1 ml_11_1 (by decide) rfl ?_
  refine ex_aload_n (pc' := 5) dX11_init_4 rfl rfl ?_
  refine ex_sipush (v := 1000) (pc' := 8) dX11_init_5 (by decide) rfl ?_
  refine en_narrB (pc' := 10) (a := 1) (nn := 1000) (h2 := hh_2) dX11_init_8 (by decide +kernel) rfl rfl ?_
  refine en_putR (pc' := 13) (n := 16) (h2 := hh_3) dX11_init_10 fl_11_9 (by decide +kernel) (by decide) (by decide) rfl rfl ?_
  refine ex_aload_n (pc' := 14) dX11_init_13 rfl rfl ?_
  refine ex_iconst (v := 0) (pc' := 15) dX11_init_14 (by decide) rfl ?_
  refine en_putI (pc' := 18) (n := 16) (h2 := hh_4) dX11_init_15 fl_11_13 (by decide +kernel) (by decide) (by decide) rfl rfl ?_
  refine ex_aload_n (pc' := 19) dX11_init_18 rfl rfl ?_
  refine ex_iconst (v := 0) (pc' := 20) dX11_init_19 (by decide) rfl ?_
  refine en_putI (pc' := 23) (n := 16) (h2 := hh_5) dX11_init_20 fl_11_17 (by decide +kernel) (by decide) (by decide) rfl rfl ?_
  refine ex_aload_n (pc' := 24) dX11_init_23 rfl rfl ?_
  refine en_new (pc' := 27) (a := 2) (nf := 15) (h2 := hh_6) dX11_init_24 kl_11_20 (by decide +kernel) rfl rfl ?_
  refine ex_dup (pc' := 28) dX11_init_27 rfl rfl ?_
  refine en_calliV (pc' := 31) (a := 2) (n := 15) (h2 := hh_84) (vs := []) (rest := [.inr (.inr (some 2)), .inr (.inr (some 0))]) dX11_init_28 ml_11_22 (by decide) ⟨by decide, by decide⟩ rfl rfl (by decide +kernel) (by decide) (by decide) rfl (kc_2 _) ?_
  refine en_putR (pc' := 34) (n := 16) (h2 := hh_85) dX11_init_31 fl_11_23 (by decide +kernel) (by decide) (by decide) rfl rfl ?_
  refine ex_aload_n (pc' := 35) dX11_init_34 rfl rfl ?_
  refine en_new (pc' := 38) (a := 42) (nf := 15) (h2 := hh_86) dX11_init_35 kl_11_20 (by decide +kernel) rfl rfl ?_
  refine ex_dup (pc' := 39) dX11_init_38 rfl rfl ?_
  refine en_calliV (pc' := 42) (a := 42) (n := 15) (h2 := hh_164) (vs := []) (rest := [.inr (.inr (some 42)), .inr (.inr (some 0))]) dX11_init_39 ml_11_22 (by decide) ⟨by decide, by decide⟩ rfl rfl (by decide +kernel) (by decide) (by decide) rfl (kc_36 _) ?_
  refine en_putR (pc' := 45) (n := 16) (h2 := hh_165) dX11_init_42 fl_11_27 (by decide +kernel) (by decide) (by decide) rfl rfl ?_
  refine ex_aload_n (pc' := 46) dX11_init_45 rfl rfl ?_
  refine en_new (pc' := 49) (a := 82) (nf := 13) (h2 := hh_166) dX11_init_46 kl_11_30 (by decide +kernel) rfl rfl ?_
  refine ex_dup (pc' := 50) dX11_init_49 rfl rfl ?_
  refine ex_aload_n (pc' := 51) dX11_init_50 rfl rfl ?_
  refine ex_getR (pc' := 54) (n := 16) (r := 1) dX11_init_51 fl_11_9 (by decide +kernel) (by decide) (by decide +kernel) rfl ?_
  refine ex_aload_n (pc' := 55) dX11_init_54 rfl rfl ?_
  refine ex_getR (pc' := 58) (n := 16) (r := 42) dX11_init_55 fl_11_27 (by decide +kernel) (by decide) (by decide +kernel) rfl ?_
  refine en_calliV (pc' := 61) (a := 82) (n := 13) (h2 := hh_182) (vs := [.inr (.inr (some 1)), .inr (.inr (some 42))]) (rest := [.inr (.inr (some 82)), .inr (.inr (some 0))]) dX11_init_58 ml_11_32 (by decide) ⟨by decide, by decide⟩ rfl rfl (by decide +kernel) (by decide) (by decide) rfl (kc_70 _) ?_
  refine en_putR (pc' := 64) (n := 16) (h2 := hh_183) dX11_init_61 fl_11_35 (by decide +kernel) (by decide) (by decide) rfl rfl ?_
  refine ex_aload_n (pc' := 65) dX11_init_64 rfl rfl ?_
  refine en_new (pc' := 68) (a := 86) (nf := 7) (h2 := hh_184) dX11_init_65 kl_11_39 (by decide +kernel) rfl rfl ?_
  refine ex_dup (pc' := 69) dX11_init_68 rfl rfl ?_
  refine en_calliV (pc' := 72) (a := 86) (n := 7) (h2 := hh_196) (vs := []) (rest := [.inr (.inr (some 86)), .inr (.inr (some 0))]) dX11_init_69 ml_11_41 (by decide) ⟨by decide, by decide⟩ rfl rfl (by decide +kernel) (by decide) (by decide) rfl (kc_71 _) ?_
  refine en_putR (pc' := 75) (n := 16) (h2 := hh_197) dX11_init_72 fl_11_42 (by decide +kernel) (by decide) (by decide) rfl rfl ?_
  refine ex_aload_n (pc' := 76) dX11_init_75 rfl rfl ?_
  refine en_new (pc' := 79) (a := 92) (nf := 6) (h2 := hh_198) dX11_init_76 kl_11_46 (by decide +kernel) rfl rfl ?_
  refine ex_dup (pc' := 80) dX11_init_79 rfl rfl ?_
  refine ex_aload_n (pc' := 81) dX11_init_80 rfl rfl ?_
  refine ex_getR (pc' := 84) (n := 16) (r := 2) dX11_init_81 fl_11_23 (by decide +kernel) (by decide) (by decide +kernel) rfl ?_
  refine en_calliV (pc' := 87) (a := 92) (n := 6) (h2 := hh_205) (vs := [.inr (.inr (some 2))]) (rest := [.inr (.inr (some 92)), .inr (.inr (some 0))]) dX11_init_84 ml_11_48 (by decide) ⟨by decide, by decide⟩ rfl rfl (by decide +kernel) (by decide) (by decide) rfl (kc_72 _) ?_
  refine en_putR (pc' := 90) (n := 16) (h2 := hh_206) dX11_init_87 fl_11_51 (by decide +kernel) (by decide) (by decide) rfl rfl ?_
  refine ex_aload_n (pc' := 91) dX11_init_90 rfl rfl ?_
  refine en_new (pc' := 94) (a := 94) (nf := 7) (h2 := hh_207) dX11_init_91 kl_11_55 (by decide +kernel) rfl rfl ?_
  refine ex_dup (pc' := 95) dX11_init_94 rfl rfl ?_
  refine ex_aload_n (pc' := 96) dX11_init_95 rfl rfl ?_
  refine ex_getR (pc' := 99) (n := 16) (r := 2) dX11_init_96 fl_11_23 (by decide +kernel) (by decide) (by decide +kernel) rfl ?_
  refine ex_aload_n (pc' := 100) dX11_init_99 rfl rfl ?_
  refine ex_getR (pc' := 103) (n := 16) (r := 86) dX11_init_100 fl_11_42 (by decide +kernel) (by decide) (by decide +kernel) rfl ?_
  refine ex_aload_n (pc' := 104) dX11_init_103 rfl rfl ?_
  refine ex_getR (pc' := 107) (n := 16) (r := 92) dX11_init_104 fl_11_51 (by decide +kernel) (by decide) (by decide +kernel) rfl ?_
  refine en_calliV (pc' := 110) (a := 94) (n := 7) (h2 := hh_215) (vs := [.inr (.inr (some 2)), .inr (.inr (some 86)), .inr (.inr (some 92))]) (rest := [.inr (.inr (some 94)), .inr (.inr (some 0))]) dX11_init_107 ml_11_57 (by decide) ⟨by decide, by decide⟩ rfl rfl (by decide +kernel) (by decide) (by decide) rfl (kc_73 _) ?_
  refine en_putR (pc' := 113) (n := 16) (h2 := hh_216) dX11_init_110 fl_11_60 (by decide +kernel) (by decide) (by decide) rfl rfl ?_
  refine ex_aload_n (pc' := 114) dX11_init_113 rfl rfl ?_
  refine en_new (pc' := 117) (a := 96) (nf := 4) (h2 := hh_217) dX11_init_114 kl_11_64 (by decide +kernel) rfl rfl ?_
  refine ex_dup (pc' := 118) dX11_init_117 rfl rfl ?_
  refine ex_aload_n (pc' := 119) dX11_init_118 rfl rfl ?_
  refine ex_getR (pc' := 122) (n := 16) (r := 2) dX11_init_119 fl_11_23 (by decide +kernel) (by decide) (by decide +kernel) rfl ?_
  refine en_calliV (pc' := 125) (a := 96) (n := 4) (h2 := hh_224) (vs := [.inr (.inr (some 2))]) (rest := [.inr (.inr (some 96)), .inr (.inr (some 0))]) dX11_init_122 ml_11_66 (by decide) ⟨by decide, by decide⟩ rfl rfl (by decide +kernel) (by decide) (by decide) rfl (kc_74 _) ?_
  refine en_putR (pc' := 128) (n := 16) (h2 := hh_225) dX11_init_125 fl_11_67 (by decide +kernel) (by decide) (by decide) rfl rfl ?_
  refine ex_aload_n (pc' := 129) dX11_init_128 rfl rfl ?_
  refine en_new (pc' := 132) (a := 100) (nf := 5) (h2 := hh_226) dX11_init_129 kl_11_71 (by decide +kernel) rfl rfl ?_
  refine ex_dup (pc' := 133) dX11_init_132 rfl rfl ?_
  refine en_calliV (pc' := 136) (a := 100) (n := 5) (h2 := hh_234) (vs := []) (rest := [.inr (.inr (some 100)), .inr (.inr (some 0))]) dX11_init_133 ml_11_73 (by decide) ⟨by decide, by decide⟩ rfl rfl (by decide +kernel) (by decide) (by decide) rfl (kc_75 _) ?_
  refine en_putR (pc' := 139) (n := 16) (h2 := hh_235) dX11_init_136 fl_11_74 (by decide +kernel) (by decide) (by decide) rfl rfl ?_
  refine ex_aload_n (pc' := 140) dX11_init_139 rfl rfl ?_
  refine ex_bipush (v := 12) (pc' := 142) dX11_init_140 (by decide) rfl ?_
  refine en_anarr (pc' := 145) (a := 104) (nn := 12) (ak := 17) (h2 := hh_236) dX11_init_142 kl_11_39 (by decide +kernel) rfl rfl ?_
  refine en_putR (pc' := 148) (n := 16) (h2 := hh_237) dX11_init_145 fl_11_78 (by decide +kernel) (by decide) (by decide) rfl rfl ?_
  refine ex_aload_n (pc' := 149) dX11_init_148 rfl rfl ?_
  refine ex_iconst (v := 0) (pc' := 150) dX11_init_149 (by decide) rfl ?_
  refine en_putI (pc' := 153) (n := 16) (h2 := hh_238) dX11_init_150 fl_11_82 (by decide +kernel) (by decide) (by decide) rfl rfl ?_
  refine ex_aload_n (pc' := 154) dX11_init_153 rfl rfl ?_
  refine ex_iconst (v := 0) (pc' := 155) dX11_init_154 (by decide) rfl ?_
  refine en_putI (pc' := 158) (n := 16) (h2 := hh_239) dX11_init_155 fl_11_85 (by decide +kernel) (by decide) (by decide) rfl rfl ?_
  refine ex_aload_n (pc' := 159) dX11_init_158 rfl rfl ?_
  refine ex_iconst (v := 3) (pc' := 160) dX11_init_159 (by decide) rfl ?_
  refine en_anarr (pc' := 163) (a := 105) (nn := 3) (ak := 17) (h2 := hh_240) dX11_init_160 kl_11_39 (by decide +kernel) rfl rfl ?_
  refine en_putR (pc' := 166) (n := 16) (h2 := hh_241) dX11_init_163 fl_11_88 (by decide +kernel) (by decide) (by decide) rfl rfl ?_
  refine ex_aload_n (pc' := 167) dX11_init_166 rfl rfl ?_
  refine ex_iconst (v := 0) (pc' := 168) dX11_init_167 (by decide) rfl ?_
  refine en_putI (pc' := 171) (n := 16) (h2 := hh_242) dX11_init_168 fl_11_91 (by decide +kernel) (by decide) (by decide) rfl rfl ?_
  refine ex_iconst (v := 0) (pc' := 172) dX11_init_171 (by decide) rfl ?_
  refine ex_istore_n (pc' := 173) (ls' := [(1, .inl 0), (0, .inr (.inr (some 0)))]) dX11_init_172 (by decide) rfl rfl ?_
  refine ex_iload_n (pc' := 174) dX11_init_173 rfl rfl ?_
  refine ex_bipush (v := 12) (pc' := 176) dX11_init_174 (by decide) rfl ?_
  refine ex_icmp_f (pc' := 179) dX11_init_176 (by decide) (by decide) rfl ?_
  refine ex_aload_n (pc' := 180) dX11_init_179 rfl rfl ?_
  refine ex_getR (pc' := 183) (n := 16) (r := 104) dX11_init_180 fl_11_78 (by decide +kernel) (by decide) (by decide +kernel) rfl ?_
  refine ex_iload_n (pc' := 184) dX11_init_183 rfl rfl ?_
  refine en_new (pc' := 187) (a := 106) (nf := 7) (h2 := hh_243) dX11_init_184 kl_11_39 (by decide +kernel) rfl rfl ?_
  refine ex_dup (pc' := 188) dX11_init_187 rfl rfl ?_
  refine en_calliV (pc' := 191) (a := 106) (n := 7) (h2 := hh_255) (vs := []) (rest := [.inr (.inr (some 106)), .inl 0, .inr (.inr (some 104))]) dX11_init_188 ml_11_41 (by decide) ⟨by decide, by decide⟩ rfl rfl (by decide +kernel) (by decide) (by decide) rfl (kc_76 _) ?_
  refine en_aast (pc' := 192) (kd := 17) (n := 12) (nv := 7) (jj := 0) (h2 := hh_256) dX11_init_191 (by decide +kernel) (by decide +kernel) (by decide) (by decide) rfl rfl ?_
  refine ex_iinc (pc' := 195) (v := 1) (ls' := [(1, .inl 1), (0, .inr (.inr (some 0)))]) dX11_init_192 rfl (by decide) (by decide) rfl rfl ?_
  refine ex_goto (pc' := 173) dX11_init_195 (by decide) ?_
  refine ex_iload_n (pc' := 174) dX11_init_173 rfl rfl ?_
  refine ex_bipush (v := 12) (pc' := 176) dX11_init_174 (by decide) rfl ?_
  refine ex_icmp_f (pc' := 179) dX11_init_176 (by decide) (by decide) rfl ?_
  refine ex_aload_n (pc' := 180) dX11_init_179 rfl rfl ?_
  refine ex_getR (pc' := 183) (n := 16) (r := 104) dX11_init_180 fl_11_78 (by decide +kernel) (by decide) (by decide +kernel) rfl ?_
  refine ex_iload_n (pc' := 184) dX11_init_183 rfl rfl ?_
  refine en_new (pc' := 187) (a := 112) (nf := 7) (h2 := hh_257) dX11_init_184 kl_11_39 (by decide +kernel) rfl rfl ?_
  refine ex_dup (pc' := 188) dX11_init_187 rfl rfl ?_
  refine en_calliV (pc' := 191) (a := 112) (n := 7) (h2 := hh_269) (vs := []) (rest := [.inr (.inr (some 112)), .inl 1, .inr (.inr (some 104))]) dX11_init_188 ml_11_41 (by decide) ⟨by decide, by decide⟩ rfl rfl (by decide +kernel) (by decide) (by decide) rfl (kc_77 _) ?_
  refine en_aast (pc' := 192) (kd := 17) (n := 12) (nv := 7) (jj := 1) (h2 := hh_270) dX11_init_191 (by decide +kernel) (by decide +kernel) (by decide) (by decide) rfl rfl ?_
  refine ex_iinc (pc' := 195) (v := 2) (ls' := [(1, .inl 2), (0, .inr (.inr (some 0)))]) dX11_init_192 rfl (by decide) (by decide) rfl rfl ?_
  refine ex_goto (pc' := 173) dX11_init_195 (by decide) ?_
  refine ex_iload_n (pc' := 174) dX11_init_173 rfl rfl ?_
  refine ex_bipush (v := 12) (pc' := 176) dX11_init_174 (by decide) rfl ?_
  refine ex_icmp_f (pc' := 179) dX11_init_176 (by decide) (by decide) rfl ?_
  refine ex_aload_n (pc' := 180) dX11_init_179 rfl rfl ?_
  refine ex_getR (pc' := 183) (n := 16) (r := 104) dX11_init_180 fl_11_78 (by decide +kernel) (by decide) (by decide +kernel) rfl ?_
  refine ex_iload_n (pc' := 184) dX11_init_183 rfl rfl ?_
  refine en_new (pc' := 187) (a := 118) (nf := 7) (h2 := hh_271) dX11_init_184 kl_11_39 (by decide +kernel) rfl rfl ?_
  refine ex_dup (pc' := 188) dX11_init_187 rfl rfl ?_
  refine en_calliV (pc' := 191) (a := 118) (n := 7) (h2 := hh_283) (vs := []) (rest := [.inr (.inr (some 118)), .inl 2, .inr (.inr (some 104))]) dX11_init_188 ml_11_41 (by decide) ⟨by decide, by decide⟩ rfl rfl (by decide +kernel) (by decide) (by decide) rfl (kc_78 _) ?_
  refine en_aast (pc' := 192) (kd := 17) (n := 12) (nv := 7) (jj := 2) (h2 := hh_284) dX11_init_191 (by decide +kernel) (by decide +kernel) (by decide) (by decide) rfl rfl ?_
  refine ex_iinc (pc' := 195) (v := 3) (ls' := [(1, .inl 3), (0, .inr (.inr (some 0)))]) dX11_init_192 rfl (by decide) (by decide) rfl rfl ?_
  refine ex_goto (pc' := 173) dX11_init_195 (by decide) ?_
  refine ex_iload_n (pc' := 174) dX11_init_173 rfl rfl ?_
  refine ex_bipush (v := 12) (pc' := 176) dX11_init_174 (by decide) rfl ?_
  refine ex_icmp_f (pc' := 179) dX11_init_176 (by decide) (by decide) rfl ?_
  refine ex_aload_n (pc' := 180) dX11_init_179 rfl rfl ?_
  refine ex_getR (pc' := 183) (n := 16) (r := 104) dX11_init_180 fl_11_78 (by decide +kernel) (by decide) (by decide +kernel) rfl ?_
  refine ex_iload_n (pc' := 184) dX11_init_183 rfl rfl ?_
  refine en_new (pc' := 187) (a := 124) (nf := 7) (h2 := hh_285) dX11_init_184 kl_11_39 (by decide +kernel) rfl rfl ?_
  refine ex_dup (pc' := 188) dX11_init_187 rfl rfl ?_
  refine en_calliV (pc' := 191) (a := 124) (n := 7) (h2 := hh_297) (vs := []) (rest := [.inr (.inr (some 124)), .inl 3, .inr (.inr (some 104))]) dX11_init_188 ml_11_41 (by decide) ⟨by decide, by decide⟩ rfl rfl (by decide +kernel) (by decide) (by decide) rfl (kc_79 _) ?_
  refine en_aast (pc' := 192) (kd := 17) (n := 12) (nv := 7) (jj := 3) (h2 := hh_298) dX11_init_191 (by decide +kernel) (by decide +kernel) (by decide) (by decide) rfl rfl ?_
  refine ex_iinc (pc' := 195) (v := 4) (ls' := [(1, .inl 4), (0, .inr (.inr (some 0)))]) dX11_init_192 rfl (by decide) (by decide) rfl rfl ?_
  refine ex_goto (pc' := 173) dX11_init_195 (by decide) ?_
  refine ex_iload_n (pc' := 174) dX11_init_173 rfl rfl ?_
  refine ex_bipush (v := 12) (pc' := 176) dX11_init_174 (by decide) rfl ?_
  refine ex_icmp_f (pc' := 179) dX11_init_176 (by decide) (by decide) rfl ?_
  refine ex_aload_n (pc' := 180) dX11_init_179 rfl rfl ?_
  refine ex_getR (pc' := 183) (n := 16) (r := 104) dX11_init_180 fl_11_78 (by decide +kernel) (by decide) (by decide +kernel) rfl ?_
  refine ex_iload_n (pc' := 184) dX11_init_183 rfl rfl ?_
  refine en_new (pc' := 187) (a := 130) (nf := 7) (h2 := hh_299) dX11_init_184 kl_11_39 (by decide +kernel) rfl rfl ?_
  refine ex_dup (pc' := 188) dX11_init_187 rfl rfl ?_
  refine en_calliV (pc' := 191) (a := 130) (n := 7) (h2 := hh_311) (vs := []) (rest := [.inr (.inr (some 130)), .inl 4, .inr (.inr (some 104))]) dX11_init_188 ml_11_41 (by decide) ⟨by decide, by decide⟩ rfl rfl (by decide +kernel) (by decide) (by decide) rfl (kc_80 _) ?_
  refine en_aast (pc' := 192) (kd := 17) (n := 12) (nv := 7) (jj := 4) (h2 := hh_312) dX11_init_191 (by decide +kernel) (by decide +kernel) (by decide) (by decide) rfl rfl ?_
  refine ex_iinc (pc' := 195) (v := 5) (ls' := [(1, .inl 5), (0, .inr (.inr (some 0)))]) dX11_init_192 rfl (by decide) (by decide) rfl rfl ?_
  refine ex_goto (pc' := 173) dX11_init_195 (by decide) ?_
  refine ex_iload_n (pc' := 174) dX11_init_173 rfl rfl ?_
  refine ex_bipush (v := 12) (pc' := 176) dX11_init_174 (by decide) rfl ?_
  refine ex_icmp_f (pc' := 179) dX11_init_176 (by decide) (by decide) rfl ?_
  refine ex_aload_n (pc' := 180) dX11_init_179 rfl rfl ?_
  refine ex_getR (pc' := 183) (n := 16) (r := 104) dX11_init_180 fl_11_78 (by decide +kernel) (by decide) (by decide +kernel) rfl ?_
  refine ex_iload_n (pc' := 184) dX11_init_183 rfl rfl ?_
  refine en_new (pc' := 187) (a := 136) (nf := 7) (h2 := hh_313) dX11_init_184 kl_11_39 (by decide +kernel) rfl rfl ?_
  refine ex_dup (pc' := 188) dX11_init_187 rfl rfl ?_
  refine en_calliV (pc' := 191) (a := 136) (n := 7) (h2 := hh_325) (vs := []) (rest := [.inr (.inr (some 136)), .inl 5, .inr (.inr (some 104))]) dX11_init_188 ml_11_41 (by decide) ⟨by decide, by decide⟩ rfl rfl (by decide +kernel) (by decide) (by decide) rfl (kc_81 _) ?_
  refine en_aast (pc' := 192) (kd := 17) (n := 12) (nv := 7) (jj := 5) (h2 := hh_326) dX11_init_191 (by decide +kernel) (by decide +kernel) (by decide) (by decide) rfl rfl ?_
  refine ex_iinc (pc' := 195) (v := 6) (ls' := [(1, .inl 6), (0, .inr (.inr (some 0)))]) dX11_init_192 rfl (by decide) (by decide) rfl rfl ?_
  refine ex_goto (pc' := 173) dX11_init_195 (by decide) ?_
  refine ex_iload_n (pc' := 174) dX11_init_173 rfl rfl ?_
  refine ex_bipush (v := 12) (pc' := 176) dX11_init_174 (by decide) rfl ?_
  refine ex_icmp_f (pc' := 179) dX11_init_176 (by decide) (by decide) rfl ?_
  refine ex_aload_n (pc' := 180) dX11_init_179 rfl rfl ?_
  refine ex_getR (pc' := 183) (n := 16) (r := 104) dX11_init_180 fl_11_78 (by decide +kernel) (by decide) (by decide +kernel) rfl ?_
  refine ex_iload_n (pc' := 184) dX11_init_183 rfl rfl ?_
  refine en_new (pc' := 187) (a := 142) (nf := 7) (h2 := hh_327) dX11_init_184 kl_11_39 (by decide +kernel) rfl rfl ?_
  refine ex_dup (pc' := 188) dX11_init_187 rfl rfl ?_
  refine en_calliV (pc' := 191) (a := 142) (n := 7) (h2 := hh_339) (vs := []) (rest := [.inr (.inr (some 142)), .inl 6, .inr (.inr (some 104))]) dX11_init_188 ml_11_41 (by decide) ⟨by decide, by decide⟩ rfl rfl (by decide +kernel) (by decide) (by decide) rfl (kc_82 _) ?_
  refine en_aast (pc' := 192) (kd := 17) (n := 12) (nv := 7) (jj := 6) (h2 := hh_340) dX11_init_191 (by decide +kernel) (by decide +kernel) (by decide) (by decide) rfl rfl ?_
  refine ex_iinc (pc' := 195) (v := 7) (ls' := [(1, .inl 7), (0, .inr (.inr (some 0)))]) dX11_init_192 rfl (by decide) (by decide) rfl rfl ?_
  refine ex_goto (pc' := 173) dX11_init_195 (by decide) ?_
  refine ex_iload_n (pc' := 174) dX11_init_173 rfl rfl ?_
  refine ex_bipush (v := 12) (pc' := 176) dX11_init_174 (by decide) rfl ?_
  refine ex_icmp_f (pc' := 179) dX11_init_176 (by decide) (by decide) rfl ?_
  refine ex_aload_n (pc' := 180) dX11_init_179 rfl rfl ?_
  refine ex_getR (pc' := 183) (n := 16) (r := 104) dX11_init_180 fl_11_78 (by decide +kernel) (by decide) (by decide +kernel) rfl ?_
  refine ex_iload_n (pc' := 184) dX11_init_183 rfl rfl ?_
  refine en_new (pc' := 187) (a := 148) (nf := 7) (h2 := hh_341) dX11_init_184 kl_11_39 (by decide +kernel) rfl rfl ?_
  refine ex_dup (pc' := 188) dX11_init_187 rfl rfl ?_
  refine en_calliV (pc' := 191) (a := 148) (n := 7) (h2 := hh_353) (vs := []) (rest := [.inr (.inr (some 148)), .inl 7, .inr (.inr (some 104))]) dX11_init_188 ml_11_41 (by decide) ⟨by decide, by decide⟩ rfl rfl (by decide +kernel) (by decide) (by decide) rfl (kc_83 _) ?_
  refine en_aast (pc' := 192) (kd := 17) (n := 12) (nv := 7) (jj := 7) (h2 := hh_354) dX11_init_191 (by decide +kernel) (by decide +kernel) (by decide) (by decide) rfl rfl ?_
  refine ex_iinc (pc' := 195) (v := 8) (ls' := [(1, .inl 8), (0, .inr (.inr (some 0)))]) dX11_init_192 rfl (by decide) (by decide) rfl rfl ?_
  refine ex_goto (pc' := 173) dX11_init_195 (by decide) ?_
  refine ex_iload_n (pc' := 174) dX11_init_173 rfl rfl ?_
  refine ex_bipush (v := 12) (pc' := 176) dX11_init_174 (by decide) rfl ?_
  refine ex_icmp_f (pc' := 179) dX11_init_176 (by decide) (by decide) rfl ?_
  refine ex_aload_n (pc' := 180) dX11_init_179 rfl rfl ?_
  refine ex_getR (pc' := 183) (n := 16) (r := 104) dX11_init_180 fl_11_78 (by decide +kernel) (by decide) (by decide +kernel) rfl ?_
  refine ex_iload_n (pc' := 184) dX11_init_183 rfl rfl ?_
  refine en_new (pc' := 187) (a := 154) (nf := 7) (h2 := hh_355) dX11_init_184 kl_11_39 (by decide +kernel) rfl rfl ?_
  refine ex_dup (pc' := 188) dX11_init_187 rfl rfl ?_
  refine en_calliV (pc' := 191) (a := 154) (n := 7) (h2 := hh_367) (vs := []) (rest := [.inr (.inr (some 154)), .inl 8, .inr (.inr (some 104))]) dX11_init_188 ml_11_41 (by decide) ⟨by decide, by decide⟩ rfl rfl (by decide +kernel) (by decide) (by decide) rfl (kc_84 _) ?_
  refine en_aast (pc' := 192) (kd := 17) (n := 12) (nv := 7) (jj := 8) (h2 := hh_368) dX11_init_191 (by decide +kernel) (by decide +kernel) (by decide) (by decide) rfl rfl ?_
  refine ex_iinc (pc' := 195) (v := 9) (ls' := [(1, .inl 9), (0, .inr (.inr (some 0)))]) dX11_init_192 rfl (by decide) (by decide) rfl rfl ?_
  refine ex_goto (pc' := 173) dX11_init_195 (by decide) ?_
  refine ex_iload_n (pc' := 174) dX11_init_173 rfl rfl ?_
  refine ex_bipush (v := 12) (pc' := 176) dX11_init_174 (by decide) rfl ?_
  refine ex_icmp_f (pc' := 179) dX11_init_176 (by decide) (by decide) rfl ?_
  refine ex_aload_n (pc' := 180) dX11_init_179 rfl rfl ?_
  refine ex_getR (pc' := 183) (n := 16) (r := 104) dX11_init_180 fl_11_78 (by decide +kernel) (by decide) (by decide +kernel) rfl ?_
  refine ex_iload_n (pc' := 184) dX11_init_183 rfl rfl ?_
  refine en_new (pc' := 187) (a := 160) (nf := 7) (h2 := hh_369) dX11_init_184 kl_11_39 (by decide +kernel) rfl rfl ?_
  refine ex_dup (pc' := 188) dX11_init_187 rfl rfl ?_
  refine en_calliV (pc' := 191) (a := 160) (n := 7) (h2 := hh_381) (vs := []) (rest := [.inr (.inr (some 160)), .inl 9, .inr (.inr (some 104))]) dX11_init_188 ml_11_41 (by decide) ⟨by decide, by decide⟩ rfl rfl (by decide +kernel) (by decide) (by decide) rfl (kc_85 _) ?_
  refine en_aast (pc' := 192) (kd := 17) (n := 12) (nv := 7) (jj := 9) (h2 := hh_382) dX11_init_191 (by decide +kernel) (by decide +kernel) (by decide) (by decide) rfl rfl ?_
  refine ex_iinc (pc' := 195) (v := 10) (ls' := [(1, .inl 10), (0, .inr (.inr (some 0)))]) dX11_init_192 rfl (by decide) (by decide) rfl rfl ?_
  refine ex_goto (pc' := 173) dX11_init_195 (by decide) ?_
  refine ex_iload_n (pc' := 174) dX11_init_173 rfl rfl ?_
  refine ex_bipush (v := 12) (pc' := 176) dX11_init_174 (by decide) rfl ?_
  refine ex_icmp_f (pc' := 179) dX11_init_176 (by decide) (by decide) rfl ?_
  refine ex_aload_n (pc' := 180) dX11_init_179 rfl rfl ?_
  refine ex_getR (pc' := 183) (n := 16) (r := 104) dX11_init_180 fl_11_78 (by decide +kernel) (by decide) (by decide +kernel) rfl ?_
  refine ex_iload_n (pc' := 184) dX11_init_183 rfl rfl ?_
  refine en_new (pc' := 187) (a := 166) (nf := 7) (h2 := hh_383) dX11_init_184 kl_11_39 (by decide +kernel) rfl rfl ?_
  refine ex_dup (pc' := 188) dX11_init_187 rfl rfl ?_
  refine en_calliV (pc' := 191) (a := 166) (n := 7) (h2 := hh_395) (vs := []) (rest := [.inr (.inr (some 166)), .inl 10, .inr (.inr (some 104))]) dX11_init_188 ml_11_41 (by decide) ⟨by decide, by decide⟩ rfl rfl (by decide +kernel) (by decide) (by decide) rfl (kc_86 _) ?_
  refine en_aast (pc' := 192) (kd := 17) (n := 12) (nv := 7) (jj := 10) (h2 := hh_396) dX11_init_191 (by decide +kernel) (by decide +kernel) (by decide) (by decide) rfl rfl ?_
  refine ex_iinc (pc' := 195) (v := 11) (ls' := [(1, .inl 11), (0, .inr (.inr (some 0)))]) dX11_init_192 rfl (by decide) (by decide) rfl rfl ?_
  refine ex_goto (pc' := 173) dX11_init_195 (by decide) ?_
  refine ex_iload_n (pc' := 174) dX11_init_173 rfl rfl ?_
  refine ex_bipush (v := 12) (pc' := 176) dX11_init_174 (by decide) rfl ?_
  refine ex_icmp_f (pc' := 179) dX11_init_176 (by decide) (by decide) rfl ?_
  refine ex_aload_n (pc' := 180) dX11_init_179 rfl rfl ?_
  refine ex_getR (pc' := 183) (n := 16) (r := 104) dX11_init_180 fl_11_78 (by decide +kernel) (by decide) (by decide +kernel) rfl ?_
  refine ex_iload_n (pc' := 184) dX11_init_183 rfl rfl ?_
  refine en_new (pc' := 187) (a := 172) (nf := 7) (h2 := hh_397) dX11_init_184 kl_11_39 (by decide +kernel) rfl rfl ?_
  refine ex_dup (pc' := 188) dX11_init_187 rfl rfl ?_
  refine en_calliV (pc' := 191) (a := 172) (n := 7) (h2 := hh_409) (vs := []) (rest := [.inr (.inr (some 172)), .inl 11, .inr (.inr (some 104))]) dX11_init_188 ml_11_41 (by decide) ⟨by decide, by decide⟩ rfl rfl (by decide +kernel) (by decide) (by decide) rfl (kc_87 _) ?_
  refine en_aast (pc' := 192) (kd := 17) (n := 12) (nv := 7) (jj := 11) (h2 := hh_410) dX11_init_191 (by decide +kernel) (by decide +kernel) (by decide) (by decide) rfl rfl ?_
  refine ex_iinc (pc' := 195) (v := 12) (ls' := [(1, .inl 12), (0, .inr (.inr (some 0)))]) dX11_init_192 rfl (by decide) (by decide) rfl rfl ?_
  refine ex_goto (pc' := 173) dX11_init_195 (by decide) ?_
  refine ex_iload_n (pc' := 174) dX11_init_173 rfl rfl ?_
  refine ex_bipush (v := 12) (pc' := 176) dX11_init_174 (by decide) rfl ?_
  refine ex_icmp_t (pc' := 198) dX11_init_176 (by decide) (by decide) ?_
  refine ex_iconst (v := 0) (pc' := 199) dX11_init_198 (by decide) rfl ?_
  refine ex_istore_n (pc' := 200) (ls' := [(1, .inl 0), (0, .inr (.inr (some 0)))]) dX11_init_199 (by decide) rfl rfl ?_
  refine ex_iload_n (pc' := 201) dX11_init_200 rfl rfl ?_
  refine ex_iconst (v := 3) (pc' := 202) dX11_init_201 (by decide) rfl ?_
  refine ex_icmp_f (pc' := 205) dX11_init_202 (by decide) (by decide) rfl ?_
  refine ex_aload_n (pc' := 206) dX11_init_205 rfl rfl ?_
  refine ex_getR (pc' := 209) (n := 16) (r := 105) dX11_init_206 fl_11_88 (by decide +kernel) (by decide) (by decide +kernel) rfl ?_
  refine ex_iload_n (pc' := 210) dX11_init_209 rfl rfl ?_
  refine en_new (pc' := 213) (a := 178) (nf := 7) (h2 := hh_411) dX11_init_210 kl_11_39 (by decide +kernel) rfl rfl ?_
  refine ex_dup (pc' := 214) dX11_init_213 rfl rfl ?_
  refine en_calliV (pc' := 217) (a := 178) (n := 7) (h2 := hh_423) (vs := []) (rest := [.inr (.inr (some 178)), .inl 0, .inr (.inr (some 105))]) dX11_init_214 ml_11_41 (by decide) ⟨by decide, by decide⟩ rfl rfl (by decide +kernel) (by decide) (by decide) rfl (kc_88 _) ?_
  refine en_aast (pc' := 218) (kd := 17) (n := 3) (nv := 7) (jj := 0) (h2 := hh_424) dX11_init_217 (by decide +kernel) (by decide +kernel) (by decide) (by decide) rfl rfl ?_
  refine ex_iinc (pc' := 221) (v := 1) (ls' := [(1, .inl 1), (0, .inr (.inr (some 0)))]) dX11_init_218 rfl (by decide) (by decide) rfl rfl ?_
  refine ex_goto (pc' := 200) dX11_init_221 (by decide) ?_
  refine ex_iload_n (pc' := 201) dX11_init_200 rfl rfl ?_
  refine ex_iconst (v := 3) (pc' := 202) dX11_init_201 (by decide) rfl ?_
  refine ex_icmp_f (pc' := 205) dX11_init_202 (by decide) (by decide) rfl ?_
  refine ex_aload_n (pc' := 206) dX11_init_205 rfl rfl ?_
  refine ex_getR (pc' := 209) (n := 16) (r := 105) dX11_init_206 fl_11_88 (by decide +kernel) (by decide) (by decide +kernel) rfl ?_
  refine ex_iload_n (pc' := 210) dX11_init_209 rfl rfl ?_
  refine en_new (pc' := 213) (a := 184) (nf := 7) (h2 := hh_425) dX11_init_210 kl_11_39 (by decide +kernel) rfl rfl ?_
  refine ex_dup (pc' := 214) dX11_init_213 rfl rfl ?_
  refine en_calliV (pc' := 217) (a := 184) (n := 7) (h2 := hh_437) (vs := []) (rest := [.inr (.inr (some 184)), .inl 1, .inr (.inr (some 105))]) dX11_init_214 ml_11_41 (by decide) ⟨by decide, by decide⟩ rfl rfl (by decide +kernel) (by decide) (by decide) rfl (kc_89 _) ?_
  refine en_aast (pc' := 218) (kd := 17) (n := 3) (nv := 7) (jj := 1) (h2 := hh_438) dX11_init_217 (by decide +kernel) (by decide +kernel) (by decide) (by decide) rfl rfl ?_
  refine ex_iinc (pc' := 221) (v := 2) (ls' := [(1, .inl 2), (0, .inr (.inr (some 0)))]) dX11_init_218 rfl (by decide) (by decide) rfl rfl ?_
  refine ex_goto (pc' := 200) dX11_init_221 (by decide) ?_
  refine ex_iload_n (pc' := 201) dX11_init_200 rfl rfl ?_
  refine ex_iconst (v := 3) (pc' := 202) dX11_init_201 (by decide) rfl ?_
  refine ex_icmp_f (pc' := 205) dX11_init_202 (by decide) (by decide) rfl ?_
  refine ex_aload_n (pc' := 206) dX11_init_205 rfl rfl ?_
  refine ex_getR (pc' := 209) (n := 16) (r := 105) dX11_init_206 fl_11_88 (by decide +kernel) (by decide) (by decide +kernel) rfl ?_
  refine ex_iload_n (pc' := 210) dX11_init_209 rfl rfl ?_
  refine en_new (pc' := 213) (a := 190) (nf := 7) (h2 := hh_439) dX11_init_210 kl_11_39 (by decide +kernel) rfl rfl ?_
  refine ex_dup (pc' := 214) dX11_init_213 rfl rfl ?_
  refine en_calliV (pc' := 217) (a := 190) (n := 7) (h2 := hh_451) (vs := []) (rest := [.inr (.inr (some 190)), .inl 2, .inr (.inr (some 105))]) dX11_init_214 ml_11_41 (by decide) ⟨by decide, by decide⟩ rfl rfl (by decide +kernel) (by decide) (by decide) rfl (kc_90 _) ?_
  refine en_aast (pc' := 218) (kd := 17) (n := 3) (nv := 7) (jj := 2) (h2 := hh_452) dX11_init_217 (by decide +kernel) (by decide +kernel) (by decide) (by decide) rfl rfl ?_
  refine ex_iinc (pc' := 221) (v := 3) (ls' := [(1, .inl 3), (0, .inr (.inr (some 0)))]) dX11_init_218 rfl (by decide) (by decide) rfl rfl ?_
  refine ex_goto (pc' := 200) dX11_init_221 (by decide) ?_
  refine ex_iload_n (pc' := 201) dX11_init_200 rfl rfl ?_
  refine ex_iconst (v := 3) (pc' := 202) dX11_init_201 (by decide) rfl ?_
  refine ex_icmp_t (pc' := 224) dX11_init_202 (by decide) (by decide) ?_
  exact ex_vretV dX11_init_224 rfl rfl
set_option maxRecDepth 20000 in
theorem kc_91 (d : Nat) : zCv (d + 1) mX12_init [.inr (.inr (some 196))] hh_453 (fun h' => h' = hh_486) := by
  show zEx none (d + 1) mX12_init (0, [(0, .inr (.inr (some 196)))], [], hh_453) _
  refine ex_aload_n (pc' := 1) dX12_init_0 rfl rfl ?_
  refine ex_obj (pc' := 4) dX12_init_1 ml_12_1 (by decide) rfl ?_
  refine ex_aload_n (pc' := 5) dX12_init_4 rfl rfl ?_
  refine ex_sipush (v := 1000) (pc' := 8) dX12_init_5 (by decide) rfl ?_
  refine en_narrI (pc' := 10) (a := 197) (nn := 1000) (h2 := hh_454) dX12_init_8 (by decide +kernel) rfl rfl ?_
  refine en_putR (pc' := 13) (n := 39) (h2 := hh_455) dX12_init_10 fl_12_7 (by decide +kernel) (by decide) (by decide) rfl rfl ?_
  refine ex_aload_n (pc' := 14) dX12_init_13 rfl rfl ?_
  refine ex_iconst (v := (-1)) (pc' := 15) dX12_init_14 (by decide) rfl ?_
  refine en_putI (pc' := 18) (n := 39) (h2 := hh_456) dX12_init_15 fl_12_13 (by decide +kernel) (by decide) (by decide) rfl rfl ?_
  refine ex_aload_n (pc' := 19) dX12_init_18 rfl rfl ?_
  refine ex_bipush (v := 8) (pc' := 21) dX12_init_19 (by decide) rfl ?_
  refine en_narrI (pc' := 23) (a := 198) (nn := 8) (h2 := hh_457) dX12_init_21 (by decide +kernel) rfl rfl ?_
  refine en_putR (pc' := 26) (n := 39) (h2 := hh_458) dX12_init_23 fl_12_17 (by decide +kernel) (by decide) (by decide) rfl rfl ?_
  refine ex_aload_n (pc' := 27) dX12_init_26 rfl rfl ?_
  refine ex_sipush (v := 363) (pc' := 30) dX12_init_27 (by decide) rfl ?_
  refine en_narrI (pc' := 32) (a := 199) (nn := 363) (h2 := hh_459) dX12_init_30 (by decide +kernel) rfl rfl ?_
  refine en_putR (pc' := 35) (n := 39) (h2 := hh_460) dX12_init_32 fl_12_20 (by decide +kernel) (by decide) (by decide) rfl rfl ?_
  refine ex_aload_n (pc' := 36) dX12_init_35 rfl rfl ?_
  refine ex_sipush (v := 363) (pc' := 39) dX12_init_36 (by decide) rfl ?_
  refine en_narrI (pc' := 41) (a := 200) (nn := 363) (h2 := hh_461) dX12_init_39 (by decide +kernel) rfl rfl ?_
  refine en_putR (pc' := 44) (n := 39) (h2 := hh_462) dX12_init_41 fl_12_23 (by decide +kernel) (by decide) (by decide) rfl rfl ?_
  refine ex_aload_n (pc' := 45) dX12_init_44 rfl rfl ?_
  refine ex_bipush (v := 76) (pc' := 47) dX12_init_45 (by decide) rfl ?_
  refine en_narrI (pc' := 49) (a := 201) (nn := 76) (h2 := hh_463) dX12_init_47 (by decide +kernel) rfl rfl ?_
  refine en_putR (pc' := 52) (n := 39) (h2 := hh_464) dX12_init_49 fl_12_26 (by decide +kernel) (by decide) (by decide) rfl rfl ?_
  refine ex_aload_n (pc' := 53) dX12_init_52 rfl rfl ?_
  refine ex_sipush (v := 912) (pc' := 56) dX12_init_53 (by decide) rfl ?_
  refine en_narrI (pc' := 58) (a := 202) (nn := 912) (h2 := hh_465) dX12_init_56 (by decide +kernel) rfl rfl ?_
  refine en_putR (pc' := 61) (n := 39) (h2 := hh_466) dX12_init_58 fl_12_29 (by decide +kernel) (by decide) (by decide) rfl rfl ?_
  refine ex_aload_n (pc' := 62) dX12_init_61 rfl rfl ?_
  refine ex_sipush (v := 228) (pc' := 65) dX12_init_62 (by decide) rfl ?_
  refine en_narrI (pc' := 67) (a := 203) (nn := 228) (h2 := hh_467) dX12_init_65 (by decide +kernel) rfl rfl ?_
  refine en_putR (pc' := 70) (n := 39) (h2 := hh_468) dX12_init_67 fl_12_32 (by decide +kernel) (by decide) (by decide) rfl rfl ?_
  refine ex_aload_n (pc' := 71) dX12_init_70 rfl rfl ?_
  refine ex_sipush (v := 3200) (pc' := 74) dX12_init_71 (by decide) rfl ?_
  refine en_narrI (pc' := 76) (a := 204) (nn := 3200) (h2 := hh_469) dX12_init_74 (by decide +kernel) rfl rfl ?_
  refine en_putR (pc' := 79) (n := 39) (h2 := hh_470) dX12_init_76 fl_12_35 (by decide +kernel) (by decide) (by decide) rfl rfl ?_
  refine ex_aload_n (pc' := 80) dX12_init_79 rfl rfl ?_
  refine ex_bipush (v := 7) (pc' := 82) dX12_init_80 (by decide) rfl ?_
  refine en_narrI (pc' := 84) (a := 205) (nn := 7) (h2 := hh_471) dX12_init_82 (by decide +kernel) rfl rfl ?_
  refine en_putR (pc' := 87) (n := 39) (h2 := hh_472) dX12_init_84 fl_12_38 (by decide +kernel) (by decide) (by decide) rfl rfl ?_
  refine ex_aload_n (pc' := 88) dX12_init_87 rfl rfl ?_
  refine ex_bipush (v := 7) (pc' := 90) dX12_init_88 (by decide) rfl ?_
  refine en_narrI (pc' := 92) (a := 206) (nn := 7) (h2 := hh_473) dX12_init_90 (by decide +kernel) rfl rfl ?_
  refine en_putR (pc' := 95) (n := 39) (h2 := hh_474) dX12_init_92 fl_12_41 (by decide +kernel) (by decide) (by decide) rfl rfl ?_
  refine ex_aload_n (pc' := 96) dX12_init_95 rfl rfl ?_
  refine ex_bipush (v := 8) (pc' := 98) dX12_init_96 (by decide) rfl ?_
  refine en_narrI (pc' := 100) (a := 207) (nn := 8) (h2 := hh_475) dX12_init_98 (by decide +kernel) rfl rfl ?_
  refine en_putR (pc' := 103) (n := 39) (h2 := hh_476) dX12_init_100 fl_12_44 (by decide +kernel) (by decide) (by decide) rfl rfl ?_
  refine ex_aload_n (pc' := 104) dX12_init_103 rfl rfl ?_
  refine ex_bipush (v := 8) (pc' := 106) dX12_init_104 (by decide) rfl ?_
  refine en_narrI (pc' := 108) (a := 208) (nn := 8) (h2 := hh_477) dX12_init_106 (by decide +kernel) rfl rfl ?_
  refine en_putR (pc' := 111) (n := 39) (h2 := hh_478) dX12_init_108 fl_12_47 (by decide +kernel) (by decide) (by decide) rfl rfl ?_
  refine ex_aload_n (pc' := 112) dX12_init_111 rfl rfl ?_
  refine ex_bipush (v := 40) (pc' := 114) dX12_init_112 (by decide) rfl ?_
  refine en_narrI (pc' := 116) (a := 209) (nn := 40) (h2 := hh_479) dX12_init_114 (by decide +kernel) rfl rfl ?_
  refine en_putR (pc' := 119) (n := 39) (h2 := hh_480) dX12_init_116 fl_12_50 (by decide +kernel) (by decide) (by decide) rfl rfl ?_
  refine ex_aload_n (pc' := 120) dX12_init_119 rfl rfl ?_
  refine ex_bipush (v := 49) (pc' := 122) dX12_init_120 (by decide) rfl ?_
  refine en_narrI (pc' := 124) (a := 210) (nn := 49) (h2 := hh_481) dX12_init_122 (by decide +kernel) rfl rfl ?_
  refine en_putR (pc' := 127) (n := 39) (h2 := hh_482) dX12_init_124 fl_12_53 (by decide +kernel) (by decide) (by decide) rfl rfl ?_
  refine ex_aload_n (pc' := 128) dX12_init_127 rfl rfl ?_
  refine ex_bipush (v := 7) (pc' := 130) dX12_init_128 (by decide) rfl ?_
  refine en_narrI (pc' := 132) (a := 211) (nn := 7) (h2 := hh_483) dX12_init_130 (by decide +kernel) rfl rfl ?_
  refine en_putR (pc' := 135) (n := 39) (h2 := hh_484) dX12_init_132 fl_12_56 (by decide +kernel) (by decide) (by decide) rfl rfl ?_
  refine ex_aload_n (pc' := 136) dX12_init_135 rfl rfl ?_
  refine ex_bipush (v := 7) (pc' := 138) dX12_init_136 (by decide) rfl ?_
  refine en_narrI (pc' := 140) (a := 212) (nn := 7) (h2 := hh_485) dX12_init_138 (by decide +kernel) rfl rfl ?_
  refine en_putR (pc' := 143) (n := 39) (h2 := hh_486) dX12_init_140 fl_12_59 (by decide +kernel) (by decide) (by decide) rfl rfl ?_
  exact ex_vretV dX12_init_143 rfl rfl
end Pk1
section Pk2
set_option maxRecDepth 20000 in
theorem k_law0 {L : Nat} {xs : Nat → Int32} {Q : Option zV → zH → Prop} (d : Nat) (kk : zEx (some (L, xs)) (d + 4) mL_law (20, [(3, .inr (.inr (some 213))), (2, .inr (.inr (some 196))), (1, .inr (.inr (some 0))), (0, .inr (.inr (some 1000000)))], [], hh_487) Q) : zEx (some (L, xs)) (d + 4) mL_law (0, [(0, .inr (.inr (some 1000000)))], [], hh_0) Q := by
  refine en_new (pc' := 3) (a := 0) (nf := 16) (h2 := hh_1) dL_law_0 kl_13_8 (by decide +kernel) rfl rfl ?_
  refine ex_dup (pc' := 4) dL_law_3 rfl rfl ?_
  refine en_calliV (pc' := 7) (a := 0) (n := 16) (h2 := hh_452) (vs := []) (rest := [.inr (.inr (some 0))]) dL_law_4 ml_13_15 (by decide) ⟨by decide, by decide⟩ rfl rfl (by decide +kernel) (by decide) (by decide) rfl (kc_1 _) ?_
  refine ex_astore_n (pc' := 8) (ls' := [(1, .inr (.inr (some 0))), (0, .inr (.inr (some 1000000)))]) dL_law_7 (by decide) rfl rfl ?_
  refine en_new (pc' := 11) (a := 196) (nf := 39) (h2 := hh_453) dL_law_8 kl_13_16 (by decide +kernel) rfl rfl ?_
  refine ex_dup (pc' := 12) dL_law_11 rfl rfl ?_
  refine en_calliV (pc' := 15) (a := 196) (n := 39) (h2 := hh_486) (vs := []) (rest := [.inr (.inr (some 196))]) dL_law_12 ml_13_18 (by decide) ⟨by decide, by decide⟩ rfl rfl (by decide +kernel) (by decide) (by decide) rfl (kc_91 _) ?_
  refine ex_astore_n (pc' := 16) (ls' := [(2, .inr (.inr (some 196))), (1, .inr (.inr (some 0))), (0, .inr (.inr (some 1000000)))]) dL_law_15 (by decide) rfl rfl ?_
  refine ex_iconst (v := 1) (pc' := 17) dL_law_16 (by decide) rfl ?_
  refine en_narrL (pc' := 19) (a := 213) (nn := 1) (h2 := hh_487) dL_law_17 (by decide +kernel) rfl rfl ?_
  refine ex_astore_n (pc' := 20) (ls' := [(3, .inr (.inr (some 213))), (2, .inr (.inr (some 196))), (1, .inr (.inr (some 0))), (0, .inr (.inr (some 1000000)))]) dL_law_19 (by decide) rfl rfl ?_
  exact kk
end Pk2
section Pk3
/-! calls whose answer and heap have a name; the throw of led -/
theorem zble {a b : Nat} (h : Nat.ble a b = true) : a ≤ b := Nat.le_of_ble_eq_true h
theorem zblt {a b : Nat} (h : Nat.ble (a + 1) b = true) : a < b := Nat.le_of_ble_eq_true h
theorem zsiT {h : zH} {b : Nat} {q : Option (Nat × Nat)} (e : zsh h b = q) : zsh (zthr h) b = q := e
section ZX3
variable {scr : Option (Nat × (Nat → Int32))} {d : Nat} {m : zM} {pc pc' len : Nat} {ls : zL} {st : List zV} {h h2 : zH} {Q : Option zV → zH → Prop} {i : Instr}
theorem en_callvI {k na a n : Nat} {cm : zM} {vs rest : List zV} {v : Int32} (hd : decode m.1 pc = .ok (.invokevirtual k, 3)) (hz : zmth m.2.1 k = some (0, na, cm)) (hst : na ≤ st.length ∧ zwd (st.drop na) ≤ 8) (hv : (st.take na).reverse = .inr (.inr (some a)) :: vs) (hr : st.drop na = rest) (hs : zsh h a = some (cm.2.1, n)) (hci : cm.2.1 < 13) (hw : zwd (.inr (.inr (some a)) :: vs) ≤ cm.2.2.1) (hp : pc + 3 = pc')
    (hc : zCi d cm (.inr (.inr (some a)) :: vs) h (fun x h' => x = v ∧ h' = h2)) (kk : zEx scr (d + 1) m (pc', ls, .inl v :: rest, h2) Q) : zEx scr (d + 1) m (pc, ls, st, h) Q :=
  ex_callvI hd hz hst hv hr hs hci hw hp hc (fun x h' ⟨e1, e2⟩ => by subst e1; subst e2; exact kk)
theorem en_callvL {k na a n : Nat} {cm : zM} {vs rest : List zV} {v : Int64} (hd : decode m.1 pc = .ok (.invokevirtual k, 3)) (hz : zmth m.2.1 k = some (0, na, cm)) (hst : na ≤ st.length ∧ zwd (st.drop na) ≤ 8) (hv : (st.take na).reverse = .inr (.inr (some a)) :: vs) (hr : st.drop na = rest) (hs : zsh h a = some (cm.2.1, n)) (hci : cm.2.1 < 13) (hw : zwd (.inr (.inr (some a)) :: vs) ≤ cm.2.2.1) (hp : pc + 3 = pc')
    (hc : zCl d cm (.inr (.inr (some a)) :: vs) h (fun x h' => x = v ∧ h' = h2)) (kk : zEx scr (d + 1) m (pc', ls, .inr (.inl v) :: rest, h2) Q) : zEx scr (d + 1) m (pc, ls, st, h) Q :=
  ex_callvL hd hz hst hv hr hs hci hw hp hc (fun x h' ⟨e1, e2⟩ => by subst e1; subst e2; exact kk)
theorem en_callvV {k na a n : Nat} {cm : zM} {vs rest : List zV} (hd : decode m.1 pc = .ok (.invokevirtual k, 3)) (hz : zmth m.2.1 k = some (0, na, cm)) (hst : na ≤ st.length ∧ zwd (st.drop na) ≤ 8) (hv : (st.take na).reverse = .inr (.inr (some a)) :: vs) (hr : st.drop na = rest) (hs : zsh h a = some (cm.2.1, n)) (hci : cm.2.1 < 13) (hw : zwd (.inr (.inr (some a)) :: vs) ≤ cm.2.2.1) (hp : pc + 3 = pc')
    (hc : zCv d cm (.inr (.inr (some a)) :: vs) h (fun h' => h' = h2)) (kk : zEx scr (d + 1) m (pc', ls, rest, h2) Q) : zEx scr (d + 1) m (pc, ls, st, h) Q :=
  ex_callvV hd hz hst hv hr hs hci hw hp hc (fun h' e2 => by subst e2; exact kk)
theorem en_callsI {k kd na : Nat} {cm : zM} {vs rest : List zV} {v : Int32} (hd : decode m.1 pc = .ok (.invokestatic k, 3)) (hz : zmth m.2.1 k = some (kd, na, cm)) (hkd : kd = 1 ∨ kd = 3) (hst : na ≤ st.length ∧ zwd (st.drop na) ≤ 8) (hv : (st.take na).reverse = vs) (hr : st.drop na = rest) (hw : zwd vs ≤ cm.2.2.1) (hp : pc + 3 = pc')
    (hc : zCi d cm vs h (fun x h' => x = v ∧ h' = h2)) (kk : zEx scr (d + 1) m (pc', ls, .inl v :: rest, h2) Q) : zEx scr (d + 1) m (pc, ls, st, h) Q :=
  ex_callsI hd hz hkd hst hv hr hw hp hc (fun x h' ⟨e1, e2⟩ => by subst e1; subst e2; exact kk)
theorem en_callsL {k kd na : Nat} {cm : zM} {vs rest : List zV} {v : Int64} (hd : decode m.1 pc = .ok (.invokestatic k, 3)) (hz : zmth m.2.1 k = some (kd, na, cm)) (hkd : kd = 1 ∨ kd = 3) (hst : na ≤ st.length ∧ zwd (st.drop na) ≤ 8) (hv : (st.take na).reverse = vs) (hr : st.drop na = rest) (hw : zwd vs ≤ cm.2.2.1) (hp : pc + 3 = pc')
    (hc : zCl d cm vs h (fun x h' => x = v ∧ h' = h2)) (kk : zEx scr (d + 1) m (pc', ls, .inr (.inl v) :: rest, h2) Q) : zEx scr (d + 1) m (pc, ls, st, h) Q :=
  ex_callsL hd hz hkd hst hv hr hw hp hc (fun x h' ⟨e1, e2⟩ => by subst e1; subst e2; exact kk)
theorem en_callsV {k kd na : Nat} {cm : zM} {vs rest : List zV} (hd : decode m.1 pc = .ok (.invokestatic k, 3)) (hz : zmth m.2.1 k = some (kd, na, cm)) (hkd : kd = 1 ∨ kd = 3) (hst : na ≤ st.length ∧ zwd (st.drop na) ≤ 8) (hv : (st.take na).reverse = vs) (hr : st.drop na = rest) (hw : zwd vs ≤ cm.2.2.1) (hp : pc + 3 = pc')
    (hc : zCv d cm vs h (fun h' => h' = h2)) (kk : zEx scr (d + 1) m (pc', ls, rest, h2) Q) : zEx scr (d + 1) m (pc, ls, st, h) Q :=
  ex_callsV hd hz hkd hst hv hr hw hp hc (fun h' e2 => by subst e2; exact kk)
theorem ex_thr {k ci : Nat} (hd : decode m.1 45 = .ok (.new k, 3)) (hz : zcls m.2.1 k = some ci) (hc : ¬ ci < 13) (hy : m.2.2.2.2.1 = yX11_led) (h0 : h.2.2.2.2 < 1000) (hq : Q (some (.inr (.inl (-1)))) (zthr h)) : zEx scr d m (45, ls, [], h) Q :=
  ex_end hd (Or.inr rfl) (fun _ => by simp only [zexec, hz]; rw [if_neg hc, if_pos ⟨trivial, hy, trivial, h0⟩]) hq
theorem ex_ledT {k na a o : Nat} {cm : zM} {p : Int32} {rest : List zV} (hd : decode m.1 pc = .ok (.invokestatic k, 3)) (hz : zmth m.2.1 k = some (16, na, cm)) (hsc : scr.isSome = true) (hw : zwd rest ≤ 8 ∧ zsh h a = some (11, 16) ∧ zsh h o = some (15, 1) ∧ h.2.2.2.2 < 1000) (hp : pc + 3 = pc')
    (hc : zCl d zledM [.inr (.inr (some a)), .inl p] h (fun x h' => x = -1 ∧ h' = h2)) (kk : zEx scr (d + 1) m (pc', ls, .inl 1 :: rest, h2) Q) : zEx scr (d + 1) m (pc, ls, .inr (.inr (some o)) :: .inl p :: .inr (.inr (some a)) :: rest, h) Q := by
  obtain ⟨n1, r, h1, a1, x, e1, e2, e3⟩ := hc
  subst e1; subst e2; subst e3
  obtain ⟨n2, v, h', b1, b2⟩ := kk
  refine ⟨max n1 n2 + 1, v, h', ?_, b2⟩
  rw [zrun_succ]
  have hs : zstep scr (zcf (max n1 n2) (d + 1)) (decide (0 < d + 1)) m (pc, ls, .inr (.inr (some o)) :: .inl p :: .inr (.inr (some a)) :: rest, h) = some (.inl (pc', ls, .inl 1 :: rest, h1)) := by
    unfold zstep
    rw [hd]
    dsimp only
    have hl : zilen (.invokestatic k) = 0 ∨ 3 = zilen (.invokestatic k) := Or.inr rfl
    rw [if_pos hl]
    have e : decide (0 < d + 1) = true := by simp
    rw [e]
    have hc2 : zcf (max n1 n2) (d + 1) zledM [.inr (.inr (some a)), .inl p] h = some (some (.inr (.inl (-1))), h1) := by
      unfold zcf
      dsimp only
      rw [if_pos (zble rfl)]
      exact zrun_le (Nat.le_max_left _ _) a1
    simp only [zexec, hz]
    rw [if_neg (by decide), if_pos trivial, if_pos ⟨hsc, trivial⟩]
    unfold zled
    dsimp only
    rw [if_pos hw, hc2, ← hp]
  rw [hs]
  exact zrun_le (Nat.le_max_right _ _) b1
end ZX3
end Pk3
