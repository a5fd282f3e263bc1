/-! WHAT THE TABLES SAY OF EVERY LINK -/
theorem zfl0_9 : zFl (zcn 0) 9 0 0 := ⟨_, rfl, by decide, zwd191⟩
theorem zfl0_15 : zFl (zcn 0) 15 0 1 := ⟨_, rfl, by decide, zwd194⟩
theorem zfl0_19 : zFl (zcn 0) 19 0 2 := ⟨_, rfl, by decide, zwd195⟩
theorem zfl0_22 : zFl (zcn 0) 22 0 3 := ⟨_, rfl, by decide, zwd196⟩
theorem zfl1_9 : zFl (zcn 1) 9 1 0 := ⟨_, rfl, by decide, zwd248⟩
theorem zfl1_15 : zFl (zcn 1) 15 1 1 := ⟨_, rfl, by decide, zwd250⟩
theorem zfl1_18 : zFl (zcn 1) 18 1 2 := ⟨_, rfl, by decide, zwd252⟩
theorem zfl1_21 : zFl (zcn 1) 21 1 3 := ⟨_, rfl, by decide, zwd254⟩
theorem zfl1_25 : zFl (zcn 1) 25 1 4 := ⟨_, rfl, by decide, zwd256⟩
theorem zfl1_28 : zFl (zcn 1) 28 1 5 := ⟨_, rfl, by decide, zwd257⟩
theorem zfl1_32 : zFl (zcn 1) 32 1 6 := ⟨_, rfl, by decide, zwd258⟩
theorem zfl1_35 : zFl (zcn 1) 35 8 4 := ⟨_, rfl, by decide, zwd68⟩
theorem zfl1_47 : zFl (zcn 1) 47 8 18 := ⟨_, rfl, by decide, zwd115⟩
theorem zfl1_50 : zFl (zcn 1) 50 8 10 := ⟨_, rfl, by decide, zwd85⟩
theorem zfl1_60 : zFl (zcn 1) 60 6 2 := ⟨_, rfl, by decide, zwd215⟩
theorem zfl1_80 : zFl (zcn 1) 80 8 2 := ⟨_, rfl, by decide, zwd62⟩
theorem zfl1_83 : zFl (zcn 1) 83 8 13 := ⟨_, rfl, by decide, zwd97⟩
theorem zfl1_96 : zFl (zcn 1) 96 8 0 := ⟨_, rfl, by decide, zwd48⟩
theorem zfl1_113 : zFl (zcn 1) 113 8 16 := ⟨_, rfl, by decide, zwd110⟩
theorem zfl2_9 : zFl (zcn 2) 9 2 0 := ⟨_, rfl, by decide, zwd376⟩
theorem zfl2_15 : zFl (zcn 2) 15 2 1 := ⟨_, rfl, by decide, zwd378⟩
theorem zfl2_19 : zFl (zcn 2) 19 2 2 := ⟨_, rfl, by decide, zwd379⟩
theorem zfl2_22 : zFl (zcn 2) 22 2 3 := ⟨_, rfl, by decide, zwd380⟩
theorem zfl2_25 : zFl (zcn 2) 25 0 0 := ⟨_, rfl, by decide, zwd192⟩
theorem zfl2_30 : zFl (zcn 2) 30 7 0 := ⟨_, rfl, by decide, zwd349⟩
theorem zfl2_35 : zFl (zcn 2) 35 7 1 := ⟨_, rfl, by decide, zwd352⟩
theorem zfl3_9 : zFl (zcn 3) 9 3 0 := ⟨_, rfl, by decide, zwd280⟩
theorem zfl3_15 : zFl (zcn 3) 15 3 1 := ⟨_, rfl, by decide, zwd281⟩
theorem zfl3_18 : zFl (zcn 3) 18 3 2 := ⟨_, rfl, by decide, zwd282⟩
theorem zfl3_21 : zFl (zcn 3) 21 3 3 := ⟨_, rfl, by decide, zwd283⟩
theorem zfl3_25 : zFl (zcn 3) 25 3 4 := ⟨_, rfl, by decide, zwd284⟩
theorem zfl3_28 : zFl (zcn 3) 28 3 5 := ⟨_, rfl, by decide, zwd285⟩
theorem zfl3_31 : zFl (zcn 3) 31 3 6 := ⟨_, rfl, by decide, zwd286⟩
theorem zfl3_67 : zFl (zcn 3) 67 8 1 := ⟨_, rfl, by decide, zwd53⟩
theorem zfl3_72 : zFl (zcn 3) 72 8 14 := ⟨_, rfl, by decide, zwd101⟩
theorem zfl3_80 : zFl (zcn 3) 80 8 10 := ⟨_, rfl, by decide, zwd86⟩
theorem zfl3_83 : zFl (zcn 3) 83 8 15 := ⟨_, rfl, by decide, zwd107⟩
theorem zfl3_108 : zFl (zcn 3) 108 8 0 := ⟨_, rfl, by decide, zwd47⟩
theorem zfl3_111 : zFl (zcn 3) 111 8 3 := ⟨_, rfl, by decide, zwd65⟩
theorem zfl4_9 : zFl (zcn 4) 9 4 0 := ⟨_, rfl, by decide, zwd164⟩
theorem zfl4_15 : zFl (zcn 4) 15 4 1 := ⟨_, rfl, by decide, zwd166⟩
theorem zfl4_18 : zFl (zcn 4) 18 4 2 := ⟨_, rfl, by decide, zwd168⟩
theorem zfl4_22 : zFl (zcn 4) 22 4 3 := ⟨_, rfl, by decide, zwd169⟩
theorem zfl4_25 : zFl (zcn 4) 25 4 4 := ⟨_, rfl, by decide, zwd170⟩
theorem zfl4_28 : zFl (zcn 4) 28 4 5 := ⟨_, rfl, by decide, zwd171⟩
theorem zfl4_87 : zFl (zcn 4) 87 8 11 := ⟨_, rfl, by decide, zwd91⟩
theorem zfl4_91 : zFl (zcn 4) 91 8 12 := ⟨_, rfl, by decide, zwd94⟩
theorem zfl4_108 : zFl (zcn 4) 108 8 0 := ⟨_, rfl, by decide, zwd46⟩
theorem zfl4_115 : zFl (zcn 4) 115 8 1 := ⟨_, rfl, by decide, zwd57⟩
theorem zfl4_118 : zFl (zcn 4) 118 8 5 := ⟨_, rfl, by decide, zwd72⟩
theorem zfl4_131 : zFl (zcn 4) 131 8 3 := ⟨_, rfl, by decide, zwd66⟩
theorem zfl5_9 : zFl (zcn 5) 9 5 0 := ⟨_, rfl, by decide, zwd230⟩
theorem zfl5_15 : zFl (zcn 5) 15 5 1 := ⟨_, rfl, by decide, zwd233⟩
theorem zfl5_18 : zFl (zcn 5) 18 5 2 := ⟨_, rfl, by decide, zwd234⟩
theorem zfl5_22 : zFl (zcn 5) 22 8 5 := ⟨_, rfl, by decide, zwd71⟩
theorem zfl5_28 : zFl (zcn 5) 28 8 15 := ⟨_, rfl, by decide, zwd104⟩
theorem zfl5_36 : zFl (zcn 5) 36 8 10 := ⟨_, rfl, by decide, zwd84⟩
theorem zfl5_50 : zFl (zcn 5) 50 8 1 := ⟨_, rfl, by decide, zwd51⟩
theorem zfl5_53 : zFl (zcn 5) 53 8 8 := ⟨_, rfl, by decide, zwd77⟩
theorem zfl5_66 : zFl (zcn 5) 66 8 14 := ⟨_, rfl, by decide, zwd102⟩
theorem zfl5_76 : zFl (zcn 5) 76 8 9 := ⟨_, rfl, by decide, zwd81⟩
theorem zfl6_9 : zFl (zcn 6) 9 6 0 := ⟨_, rfl, by decide, zwd212⟩
theorem zfl6_15 : zFl (zcn 6) 15 6 1 := ⟨_, rfl, by decide, zwd213⟩
theorem zfl6_18 : zFl (zcn 6) 18 6 2 := ⟨_, rfl, by decide, zwd214⟩
theorem zfl6_21 : zFl (zcn 6) 21 8 11 := ⟨_, rfl, by decide, zwd90⟩
theorem zfl6_30 : zFl (zcn 6) 30 8 12 := ⟨_, rfl, by decide, zwd93⟩
theorem zfl6_39 : zFl (zcn 6) 39 8 1 := ⟨_, rfl, by decide, zwd54⟩
theorem zfl6_43 : zFl (zcn 6) 43 8 16 := ⟨_, rfl, by decide, zwd109⟩
theorem zfl6_48 : zFl (zcn 6) 48 8 17 := ⟨_, rfl, by decide, zwd112⟩
theorem zfl7_9 : zFl (zcn 7) 9 7 0 := ⟨_, rfl, by decide, zwd348⟩
theorem zfl7_15 : zFl (zcn 7) 15 7 1 := ⟨_, rfl, by decide, zwd351⟩
theorem zfl7_19 : zFl (zcn 7) 19 7 2 := ⟨_, rfl, by decide, zwd353⟩
theorem zfl7_22 : zFl (zcn 7) 22 7 3 := ⟨_, rfl, by decide, zwd354⟩
theorem zfl7_26 : zFl (zcn 7) 26 7 4 := ⟨_, rfl, by decide, zwd355⟩
theorem zfl7_29 : zFl (zcn 7) 29 7 5 := ⟨_, rfl, by decide, zwd356⟩
theorem zfl7_39 : zFl (zcn 7) 39 8 14 := ⟨_, rfl, by decide, zwd100⟩
theorem zfl7_44 : zFl (zcn 7) 44 8 15 := ⟨_, rfl, by decide, zwd106⟩
theorem zfl7_47 : zFl (zcn 7) 47 8 1 := ⟨_, rfl, by decide, zwd52⟩
theorem zfl8_9 : zFl (zcn 8) 9 8 0 := ⟨_, rfl, by decide, zwd43⟩
theorem zfl8_15 : zFl (zcn 8) 15 8 1 := ⟨_, rfl, by decide, zwd50⟩
theorem zfl8_18 : zFl (zcn 8) 18 8 2 := ⟨_, rfl, by decide, zwd59⟩
theorem zfl8_21 : zFl (zcn 8) 21 8 3 := ⟨_, rfl, by decide, zwd63⟩
theorem zfl8_24 : zFl (zcn 8) 24 8 4 := ⟨_, rfl, by decide, zwd67⟩
theorem zfl8_27 : zFl (zcn 8) 27 8 5 := ⟨_, rfl, by decide, zwd70⟩
theorem zfl8_31 : zFl (zcn 8) 31 8 6 := ⟨_, rfl, by decide, zwd74⟩
theorem zfl8_35 : zFl (zcn 8) 35 8 7 := ⟨_, rfl, by decide, zwd75⟩
theorem zfl8_38 : zFl (zcn 8) 38 8 8 := ⟨_, rfl, by decide, zwd76⟩
theorem zfl8_41 : zFl (zcn 8) 41 8 9 := ⟨_, rfl, by decide, zwd79⟩
theorem zfl8_44 : zFl (zcn 8) 44 8 10 := ⟨_, rfl, by decide, zwd83⟩
theorem zfl8_47 : zFl (zcn 8) 47 8 11 := ⟨_, rfl, by decide, zwd89⟩
theorem zfl8_51 : zFl (zcn 8) 51 8 12 := ⟨_, rfl, by decide, zwd92⟩
theorem zfl8_54 : zFl (zcn 8) 54 8 13 := ⟨_, rfl, by decide, zwd95⟩
theorem zfl8_57 : zFl (zcn 8) 57 8 14 := ⟨_, rfl, by decide, zwd98⟩
theorem zfl8_60 : zFl (zcn 8) 60 8 15 := ⟨_, rfl, by decide, zwd103⟩
theorem zfl8_63 : zFl (zcn 8) 63 8 16 := ⟨_, rfl, by decide, zwd108⟩
theorem zfl8_66 : zFl (zcn 8) 66 8 17 := ⟨_, rfl, by decide, zwd111⟩
theorem zfl8_69 : zFl (zcn 8) 69 8 18 := ⟨_, rfl, by decide, zwd114⟩
theorem zfl9_9 : zFl (zcn 9) 9 9 0 := ⟨_, rfl, by decide, zwd308⟩
theorem zfl9_15 : zFl (zcn 9) 15 9 1 := ⟨_, rfl, by decide, zwd310⟩
theorem zfl9_19 : zFl (zcn 9) 19 9 2 := ⟨_, rfl, by decide, zwd312⟩
theorem zfl9_22 : zFl (zcn 9) 22 9 3 := ⟨_, rfl, by decide, zwd314⟩
theorem zfl9_25 : zFl (zcn 9) 25 9 4 := ⟨_, rfl, by decide, zwd315⟩
theorem zfl9_28 : zFl (zcn 9) 28 9 5 := ⟨_, rfl, by decide, zwd316⟩
theorem zfl9_31 : zFl (zcn 9) 31 9 6 := ⟨_, rfl, by decide, zwd317⟩
theorem zfl9_34 : zFl (zcn 9) 34 9 7 := ⟨_, rfl, by decide, zwd318⟩
theorem zfl9_37 : zFl (zcn 9) 37 9 8 := ⟨_, rfl, by decide, zwd319⟩
theorem zfl9_40 : zFl (zcn 9) 40 9 9 := ⟨_, rfl, by decide, zwd320⟩
theorem zfl9_43 : zFl (zcn 9) 43 8 2 := ⟨_, rfl, by decide, zwd60⟩
theorem zfl9_48 : zFl (zcn 9) 48 8 13 := ⟨_, rfl, by decide, zwd96⟩
theorem zfl9_61 : zFl (zcn 9) 61 5 0 := ⟨_, rfl, by decide, zwd231⟩
theorem zfl9_81 : zFl (zcn 9) 81 8 10 := ⟨_, rfl, by decide, zwd87⟩
theorem zfl9_102 : zFl (zcn 9) 102 8 9 := ⟨_, rfl, by decide, zwd82⟩
theorem zfl9_105 : zFl (zcn 9) 105 8 0 := ⟨_, rfl, by decide, zwd49⟩
theorem zfl9_112 : zFl (zcn 9) 112 8 1 := ⟨_, rfl, by decide, zwd58⟩
theorem zfl10_9 : zFl (zcn 10) 9 10 0 := ⟨_, rfl, by decide, zwd390⟩
theorem zfl10_13 : zFl (zcn 10) 13 10 1 := ⟨_, rfl, by decide, zwd391⟩
theorem zfl10_17 : zFl (zcn 10) 17 10 2 := ⟨_, rfl, by decide, zwd392⟩
theorem zfl10_23 : zFl (zcn 10) 23 10 3 := ⟨_, rfl, by decide, zwd393⟩
theorem zfl10_27 : zFl (zcn 10) 27 10 4 := ⟨_, rfl, by decide, zwd394⟩
theorem zfl10_33 : zFl (zcn 10) 33 10 5 := ⟨_, rfl, by decide, zwd395⟩
theorem zfl10_40 : zFl (zcn 10) 40 10 6 := ⟨_, rfl, by decide, zwd396⟩
theorem zfl10_47 : zFl (zcn 10) 47 10 7 := ⟨_, rfl, by decide, zwd397⟩
theorem zfl10_54 : zFl (zcn 10) 54 10 8 := ⟨_, rfl, by decide, zwd398⟩
theorem zfl10_61 : zFl (zcn 10) 61 10 9 := ⟨_, rfl, by decide, zwd399⟩
theorem zfl10_68 : zFl (zcn 10) 68 10 10 := ⟨_, rfl, by decide, zwd400⟩
theorem zfl10_75 : zFl (zcn 10) 75 10 11 := ⟨_, rfl, by decide, zwd401⟩
theorem zfl10_82 : zFl (zcn 10) 82 10 12 := ⟨_, rfl, by decide, zwd402⟩
theorem zfl10_89 : zFl (zcn 10) 89 10 13 := ⟨_, rfl, by decide, zwd403⟩
theorem zfl10_108 : zFl (zcn 10) 108 4 1 := ⟨_, rfl, by decide, zwd167⟩
theorem zfl10_111 : zFl (zcn 10) 111 4 0 := ⟨_, rfl, by decide, zwd165⟩
theorem zfl10_114 : zFl (zcn 10) 114 0 0 := ⟨_, rfl, by decide, zwd193⟩
theorem zfl10_117 : zFl (zcn 10) 117 7 0 := ⟨_, rfl, by decide, zwd350⟩
theorem zfl10_120 : zFl (zcn 10) 120 2 0 := ⟨_, rfl, by decide, zwd377⟩
theorem zfl10_123 : zFl (zcn 10) 123 8 0 := ⟨_, rfl, by decide, zwd45⟩
theorem zfl10_126 : zFl (zcn 10) 126 8 1 := ⟨_, rfl, by decide, zwd56⟩
theorem zfl10_129 : zFl (zcn 10) 129 8 3 := ⟨_, rfl, by decide, zwd64⟩
theorem zfl10_138 : zFl (zcn 10) 138 8 2 := ⟨_, rfl, by decide, zwd61⟩
theorem zfl10_141 : zFl (zcn 10) 141 8 4 := ⟨_, rfl, by decide, zwd69⟩
theorem zfl10_153 : zFl (zcn 10) 153 8 8 := ⟨_, rfl, by decide, zwd78⟩
theorem zfl10_156 : zFl (zcn 10) 156 8 9 := ⟨_, rfl, by decide, zwd80⟩
theorem zfl10_159 : zFl (zcn 10) 159 8 10 := ⟨_, rfl, by decide, zwd88⟩
theorem zfl10_176 : zFl (zcn 10) 176 6 2 := ⟨_, rfl, by decide, zwd216⟩
theorem zfl10_214 : zFl (zcn 10) 214 5 0 := ⟨_, rfl, by decide, zwd232⟩
theorem zfl10_225 : zFl (zcn 10) 225 8 5 := ⟨_, rfl, by decide, zwd73⟩
theorem zfl10_260 : zFl (zcn 10) 260 8 18 := ⟨_, rfl, by decide, zwd116⟩
theorem zfl10_267 : zFl (zcn 10) 267 1 0 := ⟨_, rfl, by decide, zwd249⟩
theorem zfl10_270 : zFl (zcn 10) 270 1 3 := ⟨_, rfl, by decide, zwd255⟩
theorem zfl10_282 : zFl (zcn 10) 282 1 1 := ⟨_, rfl, by decide, zwd251⟩
theorem zfl10_285 : zFl (zcn 10) 285 1 2 := ⟨_, rfl, by decide, zwd253⟩
theorem zfl10_307 : zFl (zcn 10) 307 9 1 := ⟨_, rfl, by decide, zwd311⟩
theorem zfl10_310 : zFl (zcn 10) 310 9 0 := ⟨_, rfl, by decide, zwd309⟩
theorem zfl10_346 : zFl (zcn 10) 346 8 17 := ⟨_, rfl, by decide, zwd113⟩
theorem zfl10_357 : zFl (zcn 10) 357 9 2 := ⟨_, rfl, by decide, zwd313⟩
theorem zfl11_9 : zFl (zcn 11) 9 11 3 := ⟨_, rfl, by decide, zwd1377⟩
theorem zfl11_13 : zFl (zcn 11) 13 11 8 := ⟨_, rfl, by decide, zwd1382⟩
theorem zfl11_17 : zFl (zcn 11) 17 11 9 := ⟨_, rfl, by decide, zwd1383⟩
theorem zfl11_20 : zFl (zcn 11) 20 11 10 := ⟨_, rfl, by decide, zwd1384⟩
theorem zfl11_25 : zFl (zcn 11) 25 11 11 := ⟨_, rfl, by decide, zwd1385⟩
theorem zfl11_28 : zFl (zcn 11) 28 11 12 := ⟨_, rfl, by decide, zwd1386⟩
theorem zfl11_31 : zFl (zcn 11) 31 11 13 := ⟨_, rfl, by decide, zwd1387⟩
theorem zfl11_34 : zFl (zcn 11) 34 11 14 := ⟨_, rfl, by decide, zwd1388⟩
theorem zfl11_37 : zFl (zcn 11) 37 11 15 := ⟨_, rfl, by decide, zwd1389⟩
theorem zfl11_40 : zFl (zcn 11) 40 11 16 := ⟨_, rfl, by decide, zwd1390⟩
theorem zfl11_43 : zFl (zcn 11) 43 11 17 := ⟨_, rfl, by decide, zwd1391⟩
theorem zfl11_46 : zFl (zcn 11) 46 11 18 := ⟨_, rfl, by decide, zwd1392⟩
theorem zfl11_49 : zFl (zcn 11) 49 11 20 := ⟨_, rfl, by decide, zwd1394⟩
theorem zfl11_52 : zFl (zcn 11) 52 11 21 := ⟨_, rfl, by decide, zwd1395⟩
theorem zfl11_55 : zFl (zcn 11) 55 11 22 := ⟨_, rfl, by decide, zwd1396⟩
theorem zfl11_58 : zFl (zcn 11) 58 11 23 := ⟨_, rfl, by decide, zwd1397⟩
theorem zfl11_61 : zFl (zcn 11) 61 11 24 := ⟨_, rfl, by decide, zwd1398⟩
theorem zfl11_65 : zFl (zcn 11) 65 11 25 := ⟨_, rfl, by decide, zwd1399⟩
theorem zfl11_68 : zFl (zcn 11) 68 11 26 := ⟨_, rfl, by decide, zwd1400⟩
theorem zfl11_71 : zFl (zcn 11) 71 11 30 := ⟨_, rfl, by decide, zwd1404⟩
theorem zfl11_74 : zFl (zcn 11) 74 11 31 := ⟨_, rfl, by decide, zwd1405⟩
theorem zfl11_77 : zFl (zcn 11) 77 11 32 := ⟨_, rfl, by decide, zwd1406⟩
theorem zfl11_80 : zFl (zcn 11) 80 11 36 := ⟨_, rfl, by decide, zwd1410⟩
theorem zfl11_83 : zFl (zcn 11) 83 11 37 := ⟨_, rfl, by decide, zwd1411⟩
theorem zfl11_86 : zFl (zcn 11) 86 11 38 := ⟨_, rfl, by decide, zwd1412⟩
theorem zfl11_89 : zFl (zcn 11) 89 11 39 := ⟨_, rfl, by decide, zwd1413⟩
theorem zfl11_92 : zFl (zcn 11) 92 11 40 := ⟨_, rfl, by decide, zwd1414⟩
theorem zfl11_95 : zFl (zcn 11) 95 11 41 := ⟨_, rfl, by decide, zwd1415⟩
theorem zfl11_98 : zFl (zcn 11) 98 11 42 := ⟨_, rfl, by decide, zwd1416⟩
theorem zfl11_101 : zFl (zcn 11) 101 11 44 := ⟨_, rfl, by decide, zwd1418⟩
theorem zfl11_104 : zFl (zcn 11) 104 11 46 := ⟨_, rfl, by decide, zwd1420⟩
theorem zfl11_107 : zFl (zcn 11) 107 11 47 := ⟨_, rfl, by decide, zwd1421⟩
theorem zfl11_110 : zFl (zcn 11) 110 11 48 := ⟨_, rfl, by decide, zwd1422⟩
theorem zfl11_113 : zFl (zcn 11) 113 11 49 := ⟨_, rfl, by decide, zwd1423⟩
theorem zfl11_116 : zFl (zcn 11) 116 11 50 := ⟨_, rfl, by decide, zwd1424⟩
theorem zfl11_119 : zFl (zcn 11) 119 11 51 := ⟨_, rfl, by decide, zwd1425⟩
theorem zfl11_122 : zFl (zcn 11) 122 11 52 := ⟨_, rfl, by decide, zwd1426⟩
theorem zfl11_125 : zFl (zcn 11) 125 11 53 := ⟨_, rfl, by decide, zwd1427⟩
theorem zfl11_128 : zFl (zcn 11) 128 11 54 := ⟨_, rfl, by decide, zwd1428⟩
theorem zfl11_131 : zFl (zcn 11) 131 11 0 := ⟨_, rfl, by decide, zwd1374⟩
theorem zfl11_134 : zFl (zcn 11) 134 11 1 := ⟨_, rfl, by decide, zwd1375⟩
theorem zfl11_137 : zFl (zcn 11) 137 11 2 := ⟨_, rfl, by decide, zwd1376⟩
theorem zfl11_140 : zFl (zcn 11) 140 11 4 := ⟨_, rfl, by decide, zwd1378⟩
theorem zfl11_147 : zFl (zcn 11) 147 11 5 := ⟨_, rfl, by decide, zwd1379⟩
theorem zfl11_150 : zFl (zcn 11) 150 11 6 := ⟨_, rfl, by decide, zwd1380⟩
theorem zfl11_184 : zFl (zcn 11) 184 11 7 := ⟨_, rfl, by decide, zwd1381⟩
theorem zfl11_238 : zFl (zcn 11) 238 11 19 := ⟨_, rfl, by decide, zwd1393⟩
theorem zfl11_241 : zFl (zcn 11) 241 11 28 := ⟨_, rfl, by decide, zwd1402⟩
theorem zfl11_244 : zFl (zcn 11) 244 11 29 := ⟨_, rfl, by decide, zwd1403⟩
theorem zfl11_259 : zFl (zcn 11) 259 11 27 := ⟨_, rfl, by decide, zwd1401⟩
theorem zfl11_334 : zFl (zcn 11) 334 11 33 := ⟨_, rfl, by decide, zwd1407⟩
theorem zfl11_346 : zFl (zcn 11) 346 11 34 := ⟨_, rfl, by decide, zwd1408⟩
theorem zfl11_349 : zFl (zcn 11) 349 11 35 := ⟨_, rfl, by decide, zwd1409⟩
theorem zfl11_375 : zFl (zcn 11) 375 11 43 := ⟨_, rfl, by decide, zwd1417⟩
theorem zfl11_393 : zFl (zcn 11) 393 11 56 := ⟨_, rfl, by decide, zwd1430⟩
theorem zfl11_398 : zFl (zcn 11) 398 11 57 := ⟨_, rfl, by decide, zwd1431⟩
theorem zfl11_405 : zFl (zcn 11) 405 11 55 := ⟨_, rfl, by decide, zwd1429⟩
theorem zfl11_408 : zFl (zcn 11) 408 11 58 := ⟨_, rfl, by decide, zwd1432⟩
theorem zfl11_411 : zFl (zcn 11) 411 11 59 := ⟨_, rfl, by decide, zwd1433⟩
theorem zfl11_417 : zFl (zcn 11) 417 11 45 := ⟨_, rfl, by decide, zwd1419⟩
theorem zfl12_15 : zFl (zcn 12) 15 8 14 := ⟨_, rfl, by decide, zwd99⟩
theorem zfl12_27 : zFl (zcn 12) 27 8 0 := ⟨_, rfl, by decide, zwd44⟩
theorem zfl12_31 : zFl (zcn 12) 31 8 15 := ⟨_, rfl, by decide, zwd105⟩
theorem zfl12_38 : zFl (zcn 12) 38 8 1 := ⟨_, rfl, by decide, zwd55⟩
def zFLb_0 : List (Nat × Nat × Nat × Nat) := [(0, 9, 0, 0), (0, 15, 0, 1), (0, 19, 0, 2), (0, 22, 0, 3), (1, 9, 1, 0), (1, 15, 1, 1), (1, 18, 1, 2), (1, 21, 1, 3), (1, 25, 1, 4), (1, 28, 1, 5), (1, 32, 1, 6), (1, 35, 8, 4), (1, 47, 8, 18), (1, 50, 8, 10), (1, 60, 6, 2), (1, 80, 8, 2), (1, 83, 8, 13), (1, 96, 8, 0), (1, 113, 8, 16), (2, 9, 2, 0), (2, 15, 2, 1), (2, 19, 2, 2), (2, 22, 2, 3), (2, 25, 0, 0), (2, 30, 7, 0)]
theorem zFLb_0_ok : ∀ q ∈ zFLb_0, zFl (zcn q.1) q.2.1 q.2.2.1 q.2.2.2 := List.forall_mem_cons.mpr ⟨zfl0_9, List.forall_mem_cons.mpr ⟨zfl0_15, List.forall_mem_cons.mpr ⟨zfl0_19, List.forall_mem_cons.mpr ⟨zfl0_22, List.forall_mem_cons.mpr ⟨zfl1_9, List.forall_mem_cons.mpr ⟨zfl1_15, List.forall_mem_cons.mpr ⟨zfl1_18, List.forall_mem_cons.mpr ⟨zfl1_21, List.forall_mem_cons.mpr ⟨zfl1_25, List.forall_mem_cons.mpr ⟨zfl1_28, List.forall_mem_cons.mpr ⟨zfl1_32, List.forall_mem_cons.mpr ⟨zfl1_35, List.forall_mem_cons.mpr ⟨zfl1_47, List.forall_mem_cons.mpr ⟨zfl1_50, List.forall_mem_cons.mpr ⟨zfl1_60, List.forall_mem_cons.mpr ⟨zfl1_80, List.forall_mem_cons.mpr ⟨zfl1_83, List.forall_mem_cons.mpr ⟨zfl1_96, List.forall_mem_cons.mpr ⟨zfl1_113, List.forall_mem_cons.mpr ⟨zfl2_9, List.forall_mem_cons.mpr ⟨zfl2_15, List.forall_mem_cons.mpr ⟨zfl2_19, List.forall_mem_cons.mpr ⟨zfl2_22, List.forall_mem_cons.mpr ⟨zfl2_25, List.forall_mem_cons.mpr ⟨zfl2_30, fun _ h => nomatch h⟩⟩⟩⟩⟩⟩⟩⟩⟩⟩⟩⟩⟩⟩⟩⟩⟩⟩⟩⟩⟩⟩⟩⟩⟩
def zFLb_1 : List (Nat × Nat × Nat × Nat) := [(2, 35, 7, 1), (3, 9, 3, 0), (3, 15, 3, 1), (3, 18, 3, 2), (3, 21, 3, 3), (3, 25, 3, 4), (3, 28, 3, 5), (3, 31, 3, 6), (3, 67, 8, 1), (3, 72, 8, 14), (3, 80, 8, 10), (3, 83, 8, 15), (3, 108, 8, 0), (3, 111, 8, 3), (4, 9, 4, 0), (4, 15, 4, 1), (4, 18, 4, 2), (4, 22, 4, 3), (4, 25, 4, 4), (4, 28, 4, 5), (4, 87, 8, 11), (4, 91, 8, 12), (4, 108, 8, 0), (4, 115, 8, 1), (4, 118, 8, 5)]
theorem zFLb_1_ok : ∀ q ∈ zFLb_1, zFl (zcn q.1) q.2.1 q.2.2.1 q.2.2.2 := List.forall_mem_cons.mpr ⟨zfl2_35, List.forall_mem_cons.mpr ⟨zfl3_9, List.forall_mem_cons.mpr ⟨zfl3_15, List.forall_mem_cons.mpr ⟨zfl3_18, List.forall_mem_cons.mpr ⟨zfl3_21, List.forall_mem_cons.mpr ⟨zfl3_25, List.forall_mem_cons.mpr ⟨zfl3_28, List.forall_mem_cons.mpr ⟨zfl3_31, List.forall_mem_cons.mpr ⟨zfl3_67, List.forall_mem_cons.mpr ⟨zfl3_72, List.forall_mem_cons.mpr ⟨zfl3_80, List.forall_mem_cons.mpr ⟨zfl3_83, List.forall_mem_cons.mpr ⟨zfl3_108, List.forall_mem_cons.mpr ⟨zfl3_111, List.forall_mem_cons.mpr ⟨zfl4_9, List.forall_mem_cons.mpr ⟨zfl4_15, List.forall_mem_cons.mpr ⟨zfl4_18, List.forall_mem_cons.mpr ⟨zfl4_22, List.forall_mem_cons.mpr ⟨zfl4_25, List.forall_mem_cons.mpr ⟨zfl4_28, List.forall_mem_cons.mpr ⟨zfl4_87, List.forall_mem_cons.mpr ⟨zfl4_91, List.forall_mem_cons.mpr ⟨zfl4_108, List.forall_mem_cons.mpr ⟨zfl4_115, List.forall_mem_cons.mpr ⟨zfl4_118, fun _ h => nomatch h⟩⟩⟩⟩⟩⟩⟩⟩⟩⟩⟩⟩⟩⟩⟩⟩⟩⟩⟩⟩⟩⟩⟩⟩⟩
def zFLb_2 : List (Nat × Nat × Nat × Nat) := [(4, 131, 8, 3), (5, 9, 5, 0), (5, 15, 5, 1), (5, 18, 5, 2), (5, 22, 8, 5), (5, 28, 8, 15), (5, 36, 8, 10), (5, 50, 8, 1), (5, 53, 8, 8), (5, 66, 8, 14), (5, 76, 8, 9), (6, 9, 6, 0), (6, 15, 6, 1), (6, 18, 6, 2), (6, 21, 8, 11), (6, 30, 8, 12), (6, 39, 8, 1), (6, 43, 8, 16), (6, 48, 8, 17), (7, 9, 7, 0), (7, 15, 7, 1), (7, 19, 7, 2), (7, 22, 7, 3), (7, 26, 7, 4), (7, 29, 7, 5)]
theorem zFLb_2_ok : ∀ q ∈ zFLb_2, zFl (zcn q.1) q.2.1 q.2.2.1 q.2.2.2 := List.forall_mem_cons.mpr ⟨zfl4_131, List.forall_mem_cons.mpr ⟨zfl5_9, List.forall_mem_cons.mpr ⟨zfl5_15, List.forall_mem_cons.mpr ⟨zfl5_18, List.forall_mem_cons.mpr ⟨zfl5_22, List.forall_mem_cons.mpr ⟨zfl5_28, List.forall_mem_cons.mpr ⟨zfl5_36, List.forall_mem_cons.mpr ⟨zfl5_50, List.forall_mem_cons.mpr ⟨zfl5_53, List.forall_mem_cons.mpr ⟨zfl5_66, List.forall_mem_cons.mpr ⟨zfl5_76, List.forall_mem_cons.mpr ⟨zfl6_9, List.forall_mem_cons.mpr ⟨zfl6_15, List.forall_mem_cons.mpr ⟨zfl6_18, List.forall_mem_cons.mpr ⟨zfl6_21, List.forall_mem_cons.mpr ⟨zfl6_30, List.forall_mem_cons.mpr ⟨zfl6_39, List.forall_mem_cons.mpr ⟨zfl6_43, List.forall_mem_cons.mpr ⟨zfl6_48, List.forall_mem_cons.mpr ⟨zfl7_9, List.forall_mem_cons.mpr ⟨zfl7_15, List.forall_mem_cons.mpr ⟨zfl7_19, List.forall_mem_cons.mpr ⟨zfl7_22, List.forall_mem_cons.mpr ⟨zfl7_26, List.forall_mem_cons.mpr ⟨zfl7_29, fun _ h => nomatch h⟩⟩⟩⟩⟩⟩⟩⟩⟩⟩⟩⟩⟩⟩⟩⟩⟩⟩⟩⟩⟩⟩⟩⟩⟩
def zFLb_3 : List (Nat × Nat × Nat × Nat) := [(7, 39, 8, 14), (7, 44, 8, 15), (7, 47, 8, 1), (8, 9, 8, 0), (8, 15, 8, 1), (8, 18, 8, 2), (8, 21, 8, 3), (8, 24, 8, 4), (8, 27, 8, 5), (8, 31, 8, 6), (8, 35, 8, 7), (8, 38, 8, 8), (8, 41, 8, 9), (8, 44, 8, 10), (8, 47, 8, 11), (8, 51, 8, 12), (8, 54, 8, 13), (8, 57, 8, 14), (8, 60, 8, 15), (8, 63, 8, 16), (8, 66, 8, 17), (8, 69, 8, 18), (9, 9, 9, 0), (9, 15, 9, 1), (9, 19, 9, 2)]
theorem zFLb_3_ok : ∀ q ∈ zFLb_3, zFl (zcn q.1) q.2.1 q.2.2.1 q.2.2.2 := List.forall_mem_cons.mpr ⟨zfl7_39, List.forall_mem_cons.mpr ⟨zfl7_44, List.forall_mem_cons.mpr ⟨zfl7_47, List.forall_mem_cons.mpr ⟨zfl8_9, List.forall_mem_cons.mpr ⟨zfl8_15, List.forall_mem_cons.mpr ⟨zfl8_18, List.forall_mem_cons.mpr ⟨zfl8_21, List.forall_mem_cons.mpr ⟨zfl8_24, List.forall_mem_cons.mpr ⟨zfl8_27, List.forall_mem_cons.mpr ⟨zfl8_31, List.forall_mem_cons.mpr ⟨zfl8_35, List.forall_mem_cons.mpr ⟨zfl8_38, List.forall_mem_cons.mpr ⟨zfl8_41, List.forall_mem_cons.mpr ⟨zfl8_44, List.forall_mem_cons.mpr ⟨zfl8_47, List.forall_mem_cons.mpr ⟨zfl8_51, List.forall_mem_cons.mpr ⟨zfl8_54, List.forall_mem_cons.mpr ⟨zfl8_57, List.forall_mem_cons.mpr ⟨zfl8_60, List.forall_mem_cons.mpr ⟨zfl8_63, List.forall_mem_cons.mpr ⟨zfl8_66, List.forall_mem_cons.mpr ⟨zfl8_69, List.forall_mem_cons.mpr ⟨zfl9_9, List.forall_mem_cons.mpr ⟨zfl9_15, List.forall_mem_cons.mpr ⟨zfl9_19, fun _ h => nomatch h⟩⟩⟩⟩⟩⟩⟩⟩⟩⟩⟩⟩⟩⟩⟩⟩⟩⟩⟩⟩⟩⟩⟩⟩⟩
def zFLb_4 : List (Nat × Nat × Nat × Nat) := [(9, 22, 9, 3), (9, 25, 9, 4), (9, 28, 9, 5), (9, 31, 9, 6), (9, 34, 9, 7), (9, 37, 9, 8), (9, 40, 9, 9), (9, 43, 8, 2), (9, 48, 8, 13), (9, 61, 5, 0), (9, 81, 8, 10), (9, 102, 8, 9), (9, 105, 8, 0), (9, 112, 8, 1), (10, 9, 10, 0), (10, 13, 10, 1), (10, 17, 10, 2), (10, 23, 10, 3), (10, 27, 10, 4), (10, 33, 10, 5), (10, 40, 10, 6), (10, 47, 10, 7), (10, 54, 10, 8), (10, 61, 10, 9), (10, 68, 10, 10)]
theorem zFLb_4_ok : ∀ q ∈ zFLb_4, zFl (zcn q.1) q.2.1 q.2.2.1 q.2.2.2 := List.forall_mem_cons.mpr ⟨zfl9_22, List.forall_mem_cons.mpr ⟨zfl9_25, List.forall_mem_cons.mpr ⟨zfl9_28, List.forall_mem_cons.mpr ⟨zfl9_31, List.forall_mem_cons.mpr ⟨zfl9_34, List.forall_mem_cons.mpr ⟨zfl9_37, List.forall_mem_cons.mpr ⟨zfl9_40, List.forall_mem_cons.mpr ⟨zfl9_43, List.forall_mem_cons.mpr ⟨zfl9_48, List.forall_mem_cons.mpr ⟨zfl9_61, List.forall_mem_cons.mpr ⟨zfl9_81, List.forall_mem_cons.mpr ⟨zfl9_102, List.forall_mem_cons.mpr ⟨zfl9_105, List.forall_mem_cons.mpr ⟨zfl9_112, List.forall_mem_cons.mpr ⟨zfl10_9, List.forall_mem_cons.mpr ⟨zfl10_13, List.forall_mem_cons.mpr ⟨zfl10_17, List.forall_mem_cons.mpr ⟨zfl10_23, List.forall_mem_cons.mpr ⟨zfl10_27, List.forall_mem_cons.mpr ⟨zfl10_33, List.forall_mem_cons.mpr ⟨zfl10_40, List.forall_mem_cons.mpr ⟨zfl10_47, List.forall_mem_cons.mpr ⟨zfl10_54, List.forall_mem_cons.mpr ⟨zfl10_61, List.forall_mem_cons.mpr ⟨zfl10_68, fun _ h => nomatch h⟩⟩⟩⟩⟩⟩⟩⟩⟩⟩⟩⟩⟩⟩⟩⟩⟩⟩⟩⟩⟩⟩⟩⟩⟩
def zFLb_5 : List (Nat × Nat × Nat × Nat) := [(10, 75, 10, 11), (10, 82, 10, 12), (10, 89, 10, 13), (10, 108, 4, 1), (10, 111, 4, 0), (10, 114, 0, 0), (10, 117, 7, 0), (10, 120, 2, 0), (10, 123, 8, 0), (10, 126, 8, 1), (10, 129, 8, 3), (10, 138, 8, 2), (10, 141, 8, 4), (10, 153, 8, 8), (10, 156, 8, 9), (10, 159, 8, 10), (10, 176, 6, 2), (10, 214, 5, 0), (10, 225, 8, 5), (10, 260, 8, 18), (10, 267, 1, 0), (10, 270, 1, 3), (10, 282, 1, 1), (10, 285, 1, 2), (10, 307, 9, 1)]
theorem zFLb_5_ok : ∀ q ∈ zFLb_5, zFl (zcn q.1) q.2.1 q.2.2.1 q.2.2.2 := List.forall_mem_cons.mpr ⟨zfl10_75, List.forall_mem_cons.mpr ⟨zfl10_82, List.forall_mem_cons.mpr ⟨zfl10_89, List.forall_mem_cons.mpr ⟨zfl10_108, List.forall_mem_cons.mpr ⟨zfl10_111, List.forall_mem_cons.mpr ⟨zfl10_114, List.forall_mem_cons.mpr ⟨zfl10_117, List.forall_mem_cons.mpr ⟨zfl10_120, List.forall_mem_cons.mpr ⟨zfl10_123, List.forall_mem_cons.mpr ⟨zfl10_126, List.forall_mem_cons.mpr ⟨zfl10_129, List.forall_mem_cons.mpr ⟨zfl10_138, List.forall_mem_cons.mpr ⟨zfl10_141, List.forall_mem_cons.mpr ⟨zfl10_153, List.forall_mem_cons.mpr ⟨zfl10_156, List.forall_mem_cons.mpr ⟨zfl10_159, List.forall_mem_cons.mpr ⟨zfl10_176, List.forall_mem_cons.mpr ⟨zfl10_214, List.forall_mem_cons.mpr ⟨zfl10_225, List.forall_mem_cons.mpr ⟨zfl10_260, List.forall_mem_cons.mpr ⟨zfl10_267, List.forall_mem_cons.mpr ⟨zfl10_270, List.forall_mem_cons.mpr ⟨zfl10_282, List.forall_mem_cons.mpr ⟨zfl10_285, List.forall_mem_cons.mpr ⟨zfl10_307, fun _ h => nomatch h⟩⟩⟩⟩⟩⟩⟩⟩⟩⟩⟩⟩⟩⟩⟩⟩⟩⟩⟩⟩⟩⟩⟩⟩⟩
def zFLb_6 : List (Nat × Nat × Nat × Nat) := [(10, 310, 9, 0), (10, 346, 8, 17), (10, 357, 9, 2), (11, 9, 11, 3), (11, 13, 11, 8), (11, 17, 11, 9), (11, 20, 11, 10), (11, 25, 11, 11), (11, 28, 11, 12), (11, 31, 11, 13), (11, 34, 11, 14), (11, 37, 11, 15), (11, 40, 11, 16), (11, 43, 11, 17), (11, 46, 11, 18), (11, 49, 11, 20), (11, 52, 11, 21), (11, 55, 11, 22), (11, 58, 11, 23), (11, 61, 11, 24), (11, 65, 11, 25), (11, 68, 11, 26), (11, 71, 11, 30), (11, 74, 11, 31), (11, 77, 11, 32)]
theorem zFLb_6_ok : ∀ q ∈ zFLb_6, zFl (zcn q.1) q.2.1 q.2.2.1 q.2.2.2 := List.forall_mem_cons.mpr ⟨zfl10_310, List.forall_mem_cons.mpr ⟨zfl10_346, List.forall_mem_cons.mpr ⟨zfl10_357, List.forall_mem_cons.mpr ⟨zfl11_9, List.forall_mem_cons.mpr ⟨zfl11_13, List.forall_mem_cons.mpr ⟨zfl11_17, List.forall_mem_cons.mpr ⟨zfl11_20, List.forall_mem_cons.mpr ⟨zfl11_25, List.forall_mem_cons.mpr ⟨zfl11_28, List.forall_mem_cons.mpr ⟨zfl11_31, List.forall_mem_cons.mpr ⟨zfl11_34, List.forall_mem_cons.mpr ⟨zfl11_37, List.forall_mem_cons.mpr ⟨zfl11_40, List.forall_mem_cons.mpr ⟨zfl11_43, List.forall_mem_cons.mpr ⟨zfl11_46, List.forall_mem_cons.mpr ⟨zfl11_49, List.forall_mem_cons.mpr ⟨zfl11_52, List.forall_mem_cons.mpr ⟨zfl11_55, List.forall_mem_cons.mpr ⟨zfl11_58, List.forall_mem_cons.mpr ⟨zfl11_61, List.forall_mem_cons.mpr ⟨zfl11_65, List.forall_mem_cons.mpr ⟨zfl11_68, List.forall_mem_cons.mpr ⟨zfl11_71, List.forall_mem_cons.mpr ⟨zfl11_74, List.forall_mem_cons.mpr ⟨zfl11_77, fun _ h => nomatch h⟩⟩⟩⟩⟩⟩⟩⟩⟩⟩⟩⟩⟩⟩⟩⟩⟩⟩⟩⟩⟩⟩⟩⟩⟩
def zFLb_7 : List (Nat × Nat × Nat × Nat) := [(11, 80, 11, 36), (11, 83, 11, 37), (11, 86, 11, 38), (11, 89, 11, 39), (11, 92, 11, 40), (11, 95, 11, 41), (11, 98, 11, 42), (11, 101, 11, 44), (11, 104, 11, 46), (11, 107, 11, 47), (11, 110, 11, 48), (11, 113, 11, 49), (11, 116, 11, 50), (11, 119, 11, 51), (11, 122, 11, 52), (11, 125, 11, 53), (11, 128, 11, 54), (11, 131, 11, 0), (11, 134, 11, 1), (11, 137, 11, 2), (11, 140, 11, 4), (11, 147, 11, 5), (11, 150, 11, 6), (11, 184, 11, 7), (11, 238, 11, 19)]
theorem zFLb_7_ok : ∀ q ∈ zFLb_7, zFl (zcn q.1) q.2.1 q.2.2.1 q.2.2.2 := List.forall_mem_cons.mpr ⟨zfl11_80, List.forall_mem_cons.mpr ⟨zfl11_83, List.forall_mem_cons.mpr ⟨zfl11_86, List.forall_mem_cons.mpr ⟨zfl11_89, List.forall_mem_cons.mpr ⟨zfl11_92, List.forall_mem_cons.mpr ⟨zfl11_95, List.forall_mem_cons.mpr ⟨zfl11_98, List.forall_mem_cons.mpr ⟨zfl11_101, List.forall_mem_cons.mpr ⟨zfl11_104, List.forall_mem_cons.mpr ⟨zfl11_107, List.forall_mem_cons.mpr ⟨zfl11_110, List.forall_mem_cons.mpr ⟨zfl11_113, List.forall_mem_cons.mpr ⟨zfl11_116, List.forall_mem_cons.mpr ⟨zfl11_119, List.forall_mem_cons.mpr ⟨zfl11_122, List.forall_mem_cons.mpr ⟨zfl11_125, List.forall_mem_cons.mpr ⟨zfl11_128, List.forall_mem_cons.mpr ⟨zfl11_131, List.forall_mem_cons.mpr ⟨zfl11_134, List.forall_mem_cons.mpr ⟨zfl11_137, List.forall_mem_cons.mpr ⟨zfl11_140, List.forall_mem_cons.mpr ⟨zfl11_147, List.forall_mem_cons.mpr ⟨zfl11_150, List.forall_mem_cons.mpr ⟨zfl11_184, List.forall_mem_cons.mpr ⟨zfl11_238, fun _ h => nomatch h⟩⟩⟩⟩⟩⟩⟩⟩⟩⟩⟩⟩⟩⟩⟩⟩⟩⟩⟩⟩⟩⟩⟩⟩⟩
def zFLb_8 : List (Nat × Nat × Nat × Nat) := [(11, 241, 11, 28), (11, 244, 11, 29), (11, 259, 11, 27), (11, 334, 11, 33), (11, 346, 11, 34), (11, 349, 11, 35), (11, 375, 11, 43), (11, 393, 11, 56), (11, 398, 11, 57), (11, 405, 11, 55), (11, 408, 11, 58), (11, 411, 11, 59), (11, 417, 11, 45), (12, 15, 8, 14), (12, 27, 8, 0), (12, 31, 8, 15), (12, 38, 8, 1)]
theorem zFLb_8_ok : ∀ q ∈ zFLb_8, zFl (zcn q.1) q.2.1 q.2.2.1 q.2.2.2 := List.forall_mem_cons.mpr ⟨zfl11_241, List.forall_mem_cons.mpr ⟨zfl11_244, List.forall_mem_cons.mpr ⟨zfl11_259, List.forall_mem_cons.mpr ⟨zfl11_334, List.forall_mem_cons.mpr ⟨zfl11_346, List.forall_mem_cons.mpr ⟨zfl11_349, List.forall_mem_cons.mpr ⟨zfl11_375, List.forall_mem_cons.mpr ⟨zfl11_393, List.forall_mem_cons.mpr ⟨zfl11_398, List.forall_mem_cons.mpr ⟨zfl11_405, List.forall_mem_cons.mpr ⟨zfl11_408, List.forall_mem_cons.mpr ⟨zfl11_411, List.forall_mem_cons.mpr ⟨zfl11_417, List.forall_mem_cons.mpr ⟨zfl12_15, List.forall_mem_cons.mpr ⟨zfl12_27, List.forall_mem_cons.mpr ⟨zfl12_31, List.forall_mem_cons.mpr ⟨zfl12_38, fun _ h => nomatch h⟩⟩⟩⟩⟩⟩⟩⟩⟩⟩⟩⟩⟩⟩⟩⟩⟩
def zFLb : List (Nat × Nat × Nat × Nat) := zFLb_0 ++ (zFLb_1 ++ (zFLb_2 ++ (zFLb_3 ++ (zFLb_4 ++ (zFLb_5 ++ (zFLb_6 ++ (zFLb_7 ++ (zFLb_8))))))))
theorem zFLb_ok : ∀ q ∈ zFLb, zFl (zcn q.1) q.2.1 q.2.2.1 q.2.2.2 := List.forall_mem_append.mpr ⟨zFLb_0_ok, List.forall_mem_append.mpr ⟨zFLb_1_ok, List.forall_mem_append.mpr ⟨zFLb_2_ok, List.forall_mem_append.mpr ⟨zFLb_3_ok, List.forall_mem_append.mpr ⟨zFLb_4_ok, List.forall_mem_append.mpr ⟨zFLb_5_ok, List.forall_mem_append.mpr ⟨zFLb_6_ok, List.forall_mem_append.mpr ⟨zFLb_7_ok, zFLb_8_ok⟩⟩⟩⟩⟩⟩⟩⟩
theorem znl10_20 : ∃ r : vw_C, zcl[8]? = some r ∧ Cond.classLink (zcn 10) 20 r.1 ∈ zGW ∧ Cond.instantiable r.1 r.2.2 ∈ zGW ∧ Cond.initialized r.1 ∈ zGW := ⟨_, rfl, zwd37, zwd38, zwd2⟩
theorem znl10_30 : ∃ r : vw_C, zcl[4]? = some r ∧ Cond.classLink (zcn 10) 30 r.1 ∈ zGW ∧ Cond.instantiable r.1 r.2.2 ∈ zGW ∧ Cond.initialized r.1 ∈ zGW := ⟨_, rfl, zwd158, zwd159, zwd3⟩
theorem znl10_37 : ∃ r : vw_C, zcl[0]? = some r ∧ Cond.classLink (zcn 10) 37 r.1 ∈ zGW ∧ Cond.instantiable r.1 r.2.2 ∈ zGW ∧ Cond.initialized r.1 ∈ zGW := ⟨_, rfl, zwd185, zwd186, zwd4⟩
theorem znl10_44 : ∃ r : vw_C, zcl[6]? = some r ∧ Cond.classLink (zcn 10) 44 r.1 ∈ zGW ∧ Cond.instantiable r.1 r.2.2 ∈ zGW ∧ Cond.initialized r.1 ∈ zGW := ⟨_, rfl, zwd206, zwd207, zwd5⟩
theorem znl10_51 : ∃ r : vw_C, zcl[5]? = some r ∧ Cond.classLink (zcn 10) 51 r.1 ∈ zGW ∧ Cond.instantiable r.1 r.2.2 ∈ zGW ∧ Cond.initialized r.1 ∈ zGW := ⟨_, rfl, zwd224, zwd225, zwd6⟩
theorem znl10_58 : ∃ r : vw_C, zcl[1]? = some r ∧ Cond.classLink (zcn 10) 58 r.1 ∈ zGW ∧ Cond.instantiable r.1 r.2.2 ∈ zGW ∧ Cond.initialized r.1 ∈ zGW := ⟨_, rfl, zwd242, zwd243, zwd7⟩
theorem znl10_65 : ∃ r : vw_C, zcl[3]? = some r ∧ Cond.classLink (zcn 10) 65 r.1 ∈ zGW ∧ Cond.instantiable r.1 r.2.2 ∈ zGW ∧ Cond.initialized r.1 ∈ zGW := ⟨_, rfl, zwd274, zwd275, zwd8⟩
theorem znl10_72 : ∃ r : vw_C, zcl[9]? = some r ∧ Cond.classLink (zcn 10) 72 r.1 ∈ zGW ∧ Cond.instantiable r.1 r.2.2 ∈ zGW ∧ Cond.initialized r.1 ∈ zGW := ⟨_, rfl, zwd302, zwd303, zwd9⟩
theorem znl10_79 : ∃ r : vw_C, zcl[7]? = some r ∧ Cond.classLink (zcn 10) 79 r.1 ∈ zGW ∧ Cond.instantiable r.1 r.2.2 ∈ zGW ∧ Cond.initialized r.1 ∈ zGW := ⟨_, rfl, zwd342, zwd343, zwd10⟩
theorem znl10_86 : ∃ r : vw_C, zcl[2]? = some r ∧ Cond.classLink (zcn 10) 86 r.1 ∈ zGW ∧ Cond.instantiable r.1 r.2.2 ∈ zGW ∧ Cond.initialized r.1 ∈ zGW := ⟨_, rfl, zwd370, zwd371, zwd11⟩
theorem znl13_8 : ∃ r : vw_C, zcl[10]? = some r ∧ Cond.classLink (zcn 13) 8 r.1 ∈ zGW ∧ Cond.instantiable r.1 r.2.2 ∈ zGW ∧ Cond.initialized r.1 ∈ zGW := ⟨_, rfl, zwd29, zwd30, zwd1⟩
theorem znl13_121 : ∃ r : vw_C, zcl[11]? = some r ∧ Cond.classLink (zcn 13) 121 r.1 ∈ zGW ∧ Cond.instantiable r.1 r.2.2 ∈ zGW ∧ Cond.initialized r.1 ∈ zGW := ⟨_, rfl, zwd1366, zwd1367, zwd12⟩
def zNLb_0 : List (Nat × Nat × Nat) := [(10, 20, 8), (10, 30, 4), (10, 37, 0), (10, 44, 6), (10, 51, 5), (10, 58, 1), (10, 65, 3), (10, 72, 9), (10, 79, 7), (10, 86, 2), (13, 8, 10), (13, 121, 11)]
theorem zNLb_0_ok : ∀ q ∈ zNLb_0, ∃ r : vw_C, zcl[q.2.2]? = some r ∧ Cond.classLink (zcn q.1) q.2.1 r.1 ∈ zGW ∧ Cond.instantiable r.1 r.2.2 ∈ zGW ∧ Cond.initialized r.1 ∈ zGW := List.forall_mem_cons.mpr ⟨znl10_20, List.forall_mem_cons.mpr ⟨znl10_30, List.forall_mem_cons.mpr ⟨znl10_37, List.forall_mem_cons.mpr ⟨znl10_44, List.forall_mem_cons.mpr ⟨znl10_51, List.forall_mem_cons.mpr ⟨znl10_58, List.forall_mem_cons.mpr ⟨znl10_65, List.forall_mem_cons.mpr ⟨znl10_72, List.forall_mem_cons.mpr ⟨znl10_79, List.forall_mem_cons.mpr ⟨znl10_86, List.forall_mem_cons.mpr ⟨znl13_8, List.forall_mem_cons.mpr ⟨znl13_121, fun _ h => nomatch h⟩⟩⟩⟩⟩⟩⟩⟩⟩⟩⟩⟩
def zNLb : List (Nat × Nat × Nat) := zNLb_0
theorem zNLb_ok : ∀ q ∈ zNLb, ∃ r : vw_C, zcl[q.2.2]? = some r ∧ Cond.classLink (zcn q.1) q.2.1 r.1 ∈ zGW ∧ Cond.instantiable r.1 r.2.2 ∈ zGW ∧ Cond.initialized r.1 ∈ zGW := zNLb_0_ok
theorem zvl0_25 : Cond.methodLink (zcn 0) 25 (zy (zP 25)) ∈ zGW ∧ Cond.instanceMethod (zy (zP 25)) ∈ zGW ∧ Cond.selects (zy (zP 25)).cls (zy (zP 25)) (zy (zP 25)) ∈ zGW ∧ ∀ r : vw_C, zcl[zown (zP 25)]? = some r → r.1 = (zy (zP 25)).cls := ⟨zwd819, zwd820, zwd821, fun r hr => by cases hr; rfl⟩
theorem zvl0_37 : Cond.methodLink (zcn 0) 37 (zy (zP 23)) ∈ zGW ∧ Cond.instanceMethod (zy (zP 23)) ∈ zGW ∧ Cond.selects (zy (zP 23)).cls (zy (zP 23)) (zy (zP 23)) ∈ zGW ∧ ∀ r : vw_C, zcl[zown (zP 23)]? = some r → r.1 = (zy (zP 23)).cls := ⟨zwd825, zwd826, zwd827, fun r hr => by cases hr; rfl⟩
theorem zvl0_41 : Cond.methodLink (zcn 0) 41 (zy (zP 24)) ∈ zGW ∧ Cond.instanceMethod (zy (zP 24)) ∈ zGW ∧ Cond.selects (zy (zP 24)).cls (zy (zP 24)) (zy (zP 24)) ∈ zGW ∧ ∀ r : vw_C, zcl[zown (zP 24)]? = some r → r.1 = (zy (zP 24)).cls := ⟨zwd830, zwd831, zwd832, fun r hr => by cases hr; rfl⟩
theorem zse_81 : Cond.selects (zy (zP 81)).cls (zy (zP 81)) (zy (zP 81)) ∈ zGW := zse (zpr2 (i := 13) rfl)
theorem zvl1_53 : Cond.methodLink (zcn 1) 53 (zy (zP 81)) ∈ zGW ∧ Cond.instanceMethod (zy (zP 81)) ∈ zGW ∧ Cond.selects (zy (zP 81)).cls (zy (zP 81)) (zy (zP 81)) ∈ zGW ∧ ∀ r : vw_C, zcl[zown (zP 81)]? = some r → r.1 = (zy (zP 81)).cls := ⟨zwd1048, zwd1050, zse_81, fun r hr => by cases hr; rfl⟩
theorem zse_82 : Cond.selects (zy (zP 82)).cls (zy (zP 82)) (zy (zP 82)) ∈ zGW := zse (zpr2 (i := 15) rfl)
theorem zvl1_56 : Cond.methodLink (zcn 1) 56 (zy (zP 82)) ∈ zGW ∧ Cond.instanceMethod (zy (zP 82)) ∈ zGW ∧ Cond.selects (zy (zP 82)).cls (zy (zP 82)) (zy (zP 82)) ∈ zGW ∧ ∀ r : vw_C, zcl[zown (zP 82)]? = some r → r.1 = (zy (zP 82)).cls := ⟨zwd1059, zwd1061, zse_82, fun r hr => by cases hr; rfl⟩
theorem zse_100 : Cond.selects (zy (zP 100)).cls (zy (zP 100)) (zy (zP 100)) ∈ zGW := zse (zpr3 (i := 0) rfl)
theorem zvl1_69 : Cond.methodLink (zcn 1) 69 (zy (zP 100)) ∈ zGW ∧ Cond.instanceMethod (zy (zP 100)) ∈ zGW ∧ Cond.selects (zy (zP 100)).cls (zy (zP 100)) (zy (zP 100)) ∈ zGW ∧ ∀ r : vw_C, zcl[zown (zP 100)]? = some r → r.1 = (zy (zP 100)).cls := ⟨zwd1086, zwd1088, zse_100, fun r hr => by cases hr; rfl⟩
theorem zse_78 : Cond.selects (zy (zP 78)).cls (zy (zP 78)) (zy (zP 78)) ∈ zGW := zse (zpr2 (i := 14) rfl)
theorem zvl1_73 : Cond.methodLink (zcn 1) 73 (zy (zP 78)) ∈ zGW ∧ Cond.instanceMethod (zy (zP 78)) ∈ zGW ∧ Cond.selects (zy (zP 78)).cls (zy (zP 78)) (zy (zP 78)) ∈ zGW ∧ ∀ r : vw_C, zcl[zown (zP 78)]? = some r → r.1 = (zy (zP 78)).cls := ⟨zwd1052, zwd1054, zse_78, fun r hr => by cases hr; rfl⟩
theorem zse_98 : Cond.selects (zy (zP 98)).cls (zy (zP 98)) (zy (zP 98)) ∈ zGW := zse (zpr3 (i := 1) rfl)
theorem zvl1_76 : Cond.methodLink (zcn 1) 76 (zy (zP 98)) ∈ zGW ∧ Cond.instanceMethod (zy (zP 98)) ∈ zGW ∧ Cond.selects (zy (zP 98)).cls (zy (zP 98)) (zy (zP 98)) ∈ zGW ∧ ∀ r : vw_C, zcl[zown (zP 98)]? = some r → r.1 = (zy (zP 98)).cls := ⟨zwd1090, zwd1092, zse_98, fun r hr => by cases hr; rfl⟩
theorem zvl1_86 : Cond.methodLink (zcn 1) 86 (zy (zP 44)) ∈ zGW ∧ Cond.instanceMethod (zy (zP 44)) ∈ zGW ∧ Cond.selects (zy (zP 44)).cls (zy (zP 44)) (zy (zP 44)) ∈ zGW ∧ ∀ r : vw_C, zcl[zown (zP 44)]? = some r → r.1 = (zy (zP 44)).cls := ⟨zwd1349, zwd908, zwd909, fun r hr => by cases hr; rfl⟩
theorem zvl1_92 : Cond.methodLink (zcn 1) 92 (zy (zP 61)) ∈ zGW ∧ Cond.instanceMethod (zy (zP 61)) ∈ zGW ∧ Cond.selects (zy (zP 61)).cls (zy (zP 61)) (zy (zP 61)) ∈ zGW ∧ ∀ r : vw_C, zcl[zown (zP 61)]? = some r → r.1 = (zy (zP 61)).cls := ⟨zwd1350, zwd933, zwd934, fun r hr => by cases hr; rfl⟩
theorem zvl1_118 : Cond.methodLink (zcn 1) 118 (zy (zP 32)) ∈ zGW ∧ Cond.instanceMethod (zy (zP 32)) ∈ zGW ∧ Cond.selects (zy (zP 32)).cls (zy (zP 32)) (zy (zP 32)) ∈ zGW ∧ ∀ r : vw_C, zcl[zown (zP 32)]? = some r → r.1 = (zy (zP 32)).cls := ⟨zwd1030, zwd850, zwd851, fun r hr => by cases hr; rfl⟩
theorem zse_57 : Cond.selects (zy (zP 57)).cls (zy (zP 57)) (zy (zP 57)) ∈ zGW := zse (zpr3 (i := 2) rfl)
theorem zvl3_34 : Cond.methodLink (zcn 3) 34 (zy (zP 57)) ∈ zGW ∧ Cond.instanceMethod (zy (zP 57)) ∈ zGW ∧ Cond.selects (zy (zP 57)).cls (zy (zP 57)) (zy (zP 57)) ∈ zGW ∧ ∀ r : vw_C, zcl[zown (zP 57)]? = some r → r.1 = (zy (zP 57)).cls := ⟨zwd1106, zwd1108, zse_57, fun r hr => by cases hr; rfl⟩
theorem zse_137 : Cond.selects (zy (zP 137)).cls (zy (zP 137)) (zy (zP 137)) ∈ zGW := zse (zpr3 (i := 3) rfl)
theorem zvl3_38 : Cond.methodLink (zcn 3) 38 (zy (zP 137)) ∈ zGW ∧ Cond.instanceMethod (zy (zP 137)) ∈ zGW ∧ Cond.selects (zy (zP 137)).cls (zy (zP 137)) (zy (zP 137)) ∈ zGW ∧ ∀ r : vw_C, zcl[zown (zP 137)]? = some r → r.1 = (zy (zP 137)).cls := ⟨zwd1110, zwd1112, zse_137, fun r hr => by cases hr; rfl⟩
theorem zse_135 : Cond.selects (zy (zP 135)).cls (zy (zP 135)) (zy (zP 135)) ∈ zGW := zse (zpr3 (i := 6) rfl)
theorem zvl3_42 : Cond.methodLink (zcn 3) 42 (zy (zP 135)) ∈ zGW ∧ Cond.instanceMethod (zy (zP 135)) ∈ zGW ∧ Cond.selects (zy (zP 135)).cls (zy (zP 135)) (zy (zP 135)) ∈ zGW ∧ ∀ r : vw_C, zcl[zown (zP 135)]? = some r → r.1 = (zy (zP 135)).cls := ⟨zwd1124, zwd1126, zse_135, fun r hr => by cases hr; rfl⟩
theorem zse_56 : Cond.selects (zy (zP 56)).cls (zy (zP 56)) (zy (zP 56)) ∈ zGW := zse (zpr3 (i := 7) rfl)
theorem zvl3_46 : Cond.methodLink (zcn 3) 46 (zy (zP 56)) ∈ zGW ∧ Cond.instanceMethod (zy (zP 56)) ∈ zGW ∧ Cond.selects (zy (zP 56)).cls (zy (zP 56)) (zy (zP 56)) ∈ zGW ∧ ∀ r : vw_C, zcl[zown (zP 56)]? = some r → r.1 = (zy (zP 56)).cls := ⟨zwd1128, zwd1130, zse_56, fun r hr => by cases hr; rfl⟩
theorem zse_133 : Cond.selects (zy (zP 133)).cls (zy (zP 133)) (zy (zP 133)) ∈ zGW := zse (zpr3 (i := 9) rfl)
theorem zvl3_50 : Cond.methodLink (zcn 3) 50 (zy (zP 133)) ∈ zGW ∧ Cond.instanceMethod (zy (zP 133)) ∈ zGW ∧ Cond.selects (zy (zP 133)).cls (zy (zP 133)) (zy (zP 133)) ∈ zGW ∧ ∀ r : vw_C, zcl[zown (zP 133)]? = some r → r.1 = (zy (zP 133)).cls := ⟨zwd1137, zwd1139, zse_133, fun r hr => by cases hr; rfl⟩
theorem zse_134 : Cond.selects (zy (zP 134)).cls (zy (zP 134)) (zy (zP 134)) ∈ zGW := zse (zpr3 (i := 10) rfl)
theorem zvl3_54 : Cond.methodLink (zcn 3) 54 (zy (zP 134)) ∈ zGW ∧ Cond.instanceMethod (zy (zP 134)) ∈ zGW ∧ Cond.selects (zy (zP 134)).cls (zy (zP 134)) (zy (zP 134)) ∈ zGW ∧ ∀ r : vw_C, zcl[zown (zP 134)]? = some r → r.1 = (zy (zP 134)).cls := ⟨zwd1142, zwd1144, zse_134, fun r hr => by cases hr; rfl⟩
theorem zse_138 : Cond.selects (zy (zP 138)).cls (zy (zP 138)) (zy (zP 138)) ∈ zGW := zse (zpr3 (i := 11) rfl)
theorem zvl3_58 : Cond.methodLink (zcn 3) 58 (zy (zP 138)) ∈ zGW ∧ Cond.instanceMethod (zy (zP 138)) ∈ zGW ∧ Cond.selects (zy (zP 138)).cls (zy (zP 138)) (zy (zP 138)) ∈ zGW ∧ ∀ r : vw_C, zcl[zown (zP 138)]? = some r → r.1 = (zy (zP 138)).cls := ⟨zwd1146, zwd1148, zse_138, fun r hr => by cases hr; rfl⟩
theorem zse_58 : Cond.selects (zy (zP 58)).cls (zy (zP 58)) (zy (zP 58)) ∈ zGW := zse (zpr3 (i := 4) rfl)
theorem zvl3_86 : Cond.methodLink (zcn 3) 86 (zy (zP 58)) ∈ zGW ∧ Cond.instanceMethod (zy (zP 58)) ∈ zGW ∧ Cond.selects (zy (zP 58)).cls (zy (zP 58)) (zy (zP 58)) ∈ zGW ∧ ∀ r : vw_C, zcl[zown (zP 58)]? = some r → r.1 = (zy (zP 58)).cls := ⟨zwd1114, zwd1116, zse_58, fun r hr => by cases hr; rfl⟩
theorem zvl3_89 : Cond.methodLink (zcn 3) 89 (zy (zP 44)) ∈ zGW ∧ Cond.instanceMethod (zy (zP 44)) ∈ zGW ∧ Cond.selects (zy (zP 44)).cls (zy (zP 44)) (zy (zP 44)) ∈ zGW ∧ ∀ r : vw_C, zcl[zown (zP 44)]? = some r → r.1 = (zy (zP 44)).cls := ⟨zwd1161, zwd908, zwd909, fun r hr => by cases hr; rfl⟩
theorem zvl3_95 : Cond.methodLink (zcn 3) 95 (zy (zP 61)) ∈ zGW ∧ Cond.instanceMethod (zy (zP 61)) ∈ zGW ∧ Cond.selects (zy (zP 61)).cls (zy (zP 61)) (zy (zP 61)) ∈ zGW ∧ ∀ r : vw_C, zcl[zown (zP 61)]? = some r → r.1 = (zy (zP 61)).cls := ⟨zwd1162, zwd933, zwd934, fun r hr => by cases hr; rfl⟩
theorem zse_60 : Cond.selects (zy (zP 60)).cls (zy (zP 60)) (zy (zP 60)) ∈ zGW := zse (zpr3 (i := 12) rfl)
theorem zvl3_99 : Cond.methodLink (zcn 3) 99 (zy (zP 60)) ∈ zGW ∧ Cond.instanceMethod (zy (zP 60)) ∈ zGW ∧ Cond.selects (zy (zP 60)).cls (zy (zP 60)) (zy (zP 60)) ∈ zGW ∧ ∀ r : vw_C, zcl[zown (zP 60)]? = some r → r.1 = (zy (zP 60)).cls := ⟨zwd1163, zwd1165, zse_60, fun r hr => by cases hr; rfl⟩
theorem zse_136 : Cond.selects (zy (zP 136)).cls (zy (zP 136)) (zy (zP 136)) ∈ zGW := zse (zpr3 (i := 5) rfl)
theorem zvl3_114 : Cond.methodLink (zcn 3) 114 (zy (zP 136)) ∈ zGW ∧ Cond.instanceMethod (zy (zP 136)) ∈ zGW ∧ Cond.selects (zy (zP 136)).cls (zy (zP 136)) (zy (zP 136)) ∈ zGW ∧ ∀ r : vw_C, zcl[zown (zP 136)]? = some r → r.1 = (zy (zP 136)).cls := ⟨zwd1120, zwd1122, zse_136, fun r hr => by cases hr; rfl⟩
theorem zse_55 : Cond.selects (zy (zP 55)).cls (zy (zP 55)) (zy (zP 55)) ∈ zGW := zse (zpr3 (i := 8) rfl)
theorem zvl3_118 : Cond.methodLink (zcn 3) 118 (zy (zP 55)) ∈ zGW ∧ Cond.instanceMethod (zy (zP 55)) ∈ zGW ∧ Cond.selects (zy (zP 55)).cls (zy (zP 55)) (zy (zP 55)) ∈ zGW ∧ ∀ r : vw_C, zcl[zown (zP 55)]? = some r → r.1 = (zy (zP 55)).cls := ⟨zwd1132, zwd1134, zse_55, fun r hr => by cases hr; rfl⟩
theorem zvl4_37 : Cond.methodLink (zcn 4) 37 (zy (zP 189)) ∈ zGW ∧ Cond.instanceMethod (zy (zP 189)) ∈ zGW ∧ Cond.selects (zy (zP 189)).cls (zy (zP 189)) (zy (zP 189)) ∈ zGW ∧ ∀ r : vw_C, zcl[zown (zP 189)]? = some r → r.1 = (zy (zP 189)).cls := ⟨zwd559, zwd560, zwd561, fun r hr => by cases hr; rfl⟩
theorem zse_170 : Cond.selects (zy (zP 170)).cls (zy (zP 170)) (zy (zP 170)) ∈ zGW := zse (zpr1 (i := 2) rfl)
theorem zvl4_42 : Cond.methodLink (zcn 4) 42 (zy (zP 170)) ∈ zGW ∧ Cond.instanceMethod (zy (zP 170)) ∈ zGW ∧ Cond.selects (zy (zP 170)).cls (zy (zP 170)) (zy (zP 170)) ∈ zGW ∧ ∀ r : vw_C, zcl[zown (zP 170)]? = some r → r.1 = (zy (zP 170)).cls := ⟨zwd566, zwd568, zse_170, fun r hr => by cases hr; rfl⟩
theorem zvl4_45 : Cond.methodLink (zcn 4) 45 (zy (zP 193)) ∈ zGW ∧ Cond.instanceMethod (zy (zP 193)) ∈ zGW ∧ Cond.selects (zy (zP 193)).cls (zy (zP 193)) (zy (zP 193)) ∈ zGW ∧ ∀ r : vw_C, zcl[zown (zP 193)]? = some r → r.1 = (zy (zP 193)).cls := ⟨zwd570, zwd571, zwd572, fun r hr => by cases hr; rfl⟩
theorem zse_187 : Cond.selects (zy (zP 187)).cls (zy (zP 187)) (zy (zP 187)) ∈ zGW := zse (zpr1 (i := 5) rfl)
theorem zvl4_48 : Cond.methodLink (zcn 4) 48 (zy (zP 187)) ∈ zGW ∧ Cond.instanceMethod (zy (zP 187)) ∈ zGW ∧ Cond.selects (zy (zP 187)).cls (zy (zP 187)) (zy (zP 187)) ∈ zGW ∧ ∀ r : vw_C, zcl[zown (zP 187)]? = some r → r.1 = (zy (zP 187)).cls := ⟨zwd593, zwd595, zse_187, fun r hr => by cases hr; rfl⟩
theorem zse_169 : Cond.selects (zy (zP 169)).cls (zy (zP 169)) (zy (zP 169)) ∈ zGW := zse (zpr1 (i := 6) rfl)
theorem zvl4_52 : Cond.methodLink (zcn 4) 52 (zy (zP 169)) ∈ zGW ∧ Cond.instanceMethod (zy (zP 169)) ∈ zGW ∧ Cond.selects (zy (zP 169)).cls (zy (zP 169)) (zy (zP 169)) ∈ zGW ∧ ∀ r : vw_C, zcl[zown (zP 169)]? = some r → r.1 = (zy (zP 169)).cls := ⟨zwd597, zwd599, zse_169, fun r hr => by cases hr; rfl⟩
theorem zse_171 : Cond.selects (zy (zP 171)).cls (zy (zP 171)) (zy (zP 171)) ∈ zGW := zse (zpr1 (i := 8) rfl)
theorem zvl4_56 : Cond.methodLink (zcn 4) 56 (zy (zP 171)) ∈ zGW ∧ Cond.instanceMethod (zy (zP 171)) ∈ zGW ∧ Cond.selects (zy (zP 171)).cls (zy (zP 171)) (zy (zP 171)) ∈ zGW ∧ ∀ r : vw_C, zcl[zown (zP 171)]? = some r → r.1 = (zy (zP 171)).cls := ⟨zwd666, zwd668, zse_171, fun r hr => by cases hr; rfl⟩
theorem zvl4_60 : Cond.methodLink (zcn 4) 60 (zy (zP 186)) ∈ zGW ∧ Cond.instanceMethod (zy (zP 186)) ∈ zGW ∧ Cond.selects (zy (zP 186)).cls (zy (zP 186)) (zy (zP 186)) ∈ zGW ∧ ∀ r : vw_C, zcl[zown (zP 186)]? = some r → r.1 = (zy (zP 186)).cls := ⟨zwd670, zwd671, zwd672, fun r hr => by cases hr; rfl⟩
theorem zse_185 : Cond.selects (zy (zP 185)).cls (zy (zP 185)) (zy (zP 185)) ∈ zGW := zse (zpr1 (i := 9) rfl)
theorem zvl4_64 : Cond.methodLink (zcn 4) 64 (zy (zP 185)) ∈ zGW ∧ Cond.instanceMethod (zy (zP 185)) ∈ zGW ∧ Cond.selects (zy (zP 185)).cls (zy (zP 185)) (zy (zP 185)) ∈ zGW ∧ ∀ r : vw_C, zcl[zown (zP 185)]? = some r → r.1 = (zy (zP 185)).cls := ⟨zwd680, zwd682, zse_185, fun r hr => by cases hr; rfl⟩
theorem zse_172 : Cond.selects (zy (zP 172)).cls (zy (zP 172)) (zy (zP 172)) ∈ zGW := zse (zpr2 (i := 1) rfl)
theorem zvl4_67 : Cond.methodLink (zcn 4) 67 (zy (zP 172)) ∈ zGW ∧ Cond.instanceMethod (zy (zP 172)) ∈ zGW ∧ Cond.selects (zy (zP 172)).cls (zy (zP 172)) (zy (zP 172)) ∈ zGW ∧ ∀ r : vw_C, zcl[zown (zP 172)]? = some r → r.1 = (zy (zP 172)).cls := ⟨zwd737, zwd739, zse_172, fun r hr => by cases hr; rfl⟩
theorem zse_178 : Cond.selects (zy (zP 178)).cls (zy (zP 178)) (zy (zP 178)) ∈ zGW := zse (zpr1 (i := 10) rfl)
theorem zvl4_71 : Cond.methodLink (zcn 4) 71 (zy (zP 178)) ∈ zGW ∧ Cond.instanceMethod (zy (zP 178)) ∈ zGW ∧ Cond.selects (zy (zP 178)).cls (zy (zP 178)) (zy (zP 178)) ∈ zGW ∧ ∀ r : vw_C, zcl[zown (zP 178)]? = some r → r.1 = (zy (zP 178)).cls := ⟨zwd684, zwd686, zse_178, fun r hr => by cases hr; rfl⟩
theorem zse_184 : Cond.selects (zy (zP 184)).cls (zy (zP 184)) (zy (zP 184)) ∈ zGW := zse (zpr1 (i := 12) rfl)
theorem zvl4_75 : Cond.methodLink (zcn 4) 75 (zy (zP 184)) ∈ zGW ∧ Cond.instanceMethod (zy (zP 184)) ∈ zGW ∧ Cond.selects (zy (zP 184)).cls (zy (zP 184)) (zy (zP 184)) ∈ zGW ∧ ∀ r : vw_C, zcl[zown (zP 184)]? = some r → r.1 = (zy (zP 184)).cls := ⟨zwd703, zwd705, zse_184, fun r hr => by cases hr; rfl⟩
theorem zse_179 : Cond.selects (zy (zP 179)).cls (zy (zP 179)) (zy (zP 179)) ∈ zGW := zse (zpr1 (i := 13) rfl)
theorem zvl4_78 : Cond.methodLink (zcn 4) 78 (zy (zP 179)) ∈ zGW ∧ Cond.instanceMethod (zy (zP 179)) ∈ zGW ∧ Cond.selects (zy (zP 179)).cls (zy (zP 179)) (zy (zP 179)) ∈ zGW ∧ ∀ r : vw_C, zcl[zown (zP 179)]? = some r → r.1 = (zy (zP 179)).cls := ⟨zwd711, zwd713, zse_179, fun r hr => by cases hr; rfl⟩
theorem zse_175 : Cond.selects (zy (zP 175)).cls (zy (zP 175)) (zy (zP 175)) ∈ zGW := zse (zpr1 (i := 14) rfl)
theorem zvl4_81 : Cond.methodLink (zcn 4) 81 (zy (zP 175)) ∈ zGW ∧ Cond.instanceMethod (zy (zP 175)) ∈ zGW ∧ Cond.selects (zy (zP 175)).cls (zy (zP 175)) (zy (zP 175)) ∈ zGW ∧ ∀ r : vw_C, zcl[zown (zP 175)]? = some r → r.1 = (zy (zP 175)).cls := ⟨zwd716, zwd718, zse_175, fun r hr => by cases hr; rfl⟩
theorem zse_182 : Cond.selects (zy (zP 182)).cls (zy (zP 182)) (zy (zP 182)) ∈ zGW := zse (zpr1 (i := 15) rfl)
theorem zvl4_84 : Cond.methodLink (zcn 4) 84 (zy (zP 182)) ∈ zGW ∧ Cond.instanceMethod (zy (zP 182)) ∈ zGW ∧ Cond.selects (zy (zP 182)).cls (zy (zP 182)) (zy (zP 182)) ∈ zGW ∧ ∀ r : vw_C, zcl[zown (zP 182)]? = some r → r.1 = (zy (zP 182)).cls := ⟨zwd720, zwd722, zse_182, fun r hr => by cases hr; rfl⟩
theorem zse_180 : Cond.selects (zy (zP 180)).cls (zy (zP 180)) (zy (zP 180)) ∈ zGW := zse (zpr2 (i := 0) rfl)
theorem zvl4_94 : Cond.methodLink (zcn 4) 94 (zy (zP 180)) ∈ zGW ∧ Cond.instanceMethod (zy (zP 180)) ∈ zGW ∧ Cond.selects (zy (zP 180)).cls (zy (zP 180)) (zy (zP 180)) ∈ zGW ∧ ∀ r : vw_C, zcl[zown (zP 180)]? = some r → r.1 = (zy (zP 180)).cls := ⟨zwd728, zwd730, zse_180, fun r hr => by cases hr; rfl⟩
theorem zse_174 : Cond.selects (zy (zP 174)).cls (zy (zP 174)) (zy (zP 174)) ∈ zGW := zse (zpr1 (i := 11) rfl)
theorem zvl4_98 : Cond.methodLink (zcn 4) 98 (zy (zP 174)) ∈ zGW ∧ Cond.instanceMethod (zy (zP 174)) ∈ zGW ∧ Cond.selects (zy (zP 174)).cls (zy (zP 174)) (zy (zP 174)) ∈ zGW ∧ ∀ r : vw_C, zcl[zown (zP 174)]? = some r → r.1 = (zy (zP 174)).cls := ⟨zwd688, zwd690, zse_174, fun r hr => by cases hr; rfl⟩
theorem zvl4_101 : Cond.methodLink (zcn 4) 101 (zy (zP 177)) ∈ zGW ∧ Cond.instanceMethod (zy (zP 177)) ∈ zGW ∧ Cond.selects (zy (zP 177)).cls (zy (zP 177)) (zy (zP 177)) ∈ zGW ∧ ∀ r : vw_C, zcl[zown (zP 177)]? = some r → r.1 = (zy (zP 177)).cls := ⟨zwd695, zwd696, zwd697, fun r hr => by cases hr; rfl⟩
theorem zvl4_104 : Cond.methodLink (zcn 4) 104 (zy (zP 176)) ∈ zGW ∧ Cond.instanceMethod (zy (zP 176)) ∈ zGW ∧ Cond.selects (zy (zP 176)).cls (zy (zP 176)) (zy (zP 176)) ∈ zGW ∧ ∀ r : vw_C, zcl[zown (zP 176)]? = some r → r.1 = (zy (zP 176)).cls := ⟨zwd699, zwd700, zwd701, fun r hr => by cases hr; rfl⟩
theorem zvl4_111 : Cond.methodLink (zcn 4) 111 (zy (zP 183)) ∈ zGW ∧ Cond.instanceMethod (zy (zP 183)) ∈ zGW ∧ Cond.selects (zy (zP 183)).cls (zy (zP 183)) (zy (zP 183)) ∈ zGW ∧ ∀ r : vw_C, zcl[zown (zP 183)]? = some r → r.1 = (zy (zP 183)).cls := ⟨zwd707, zwd708, zwd709, fun r hr => by cases hr; rfl⟩
theorem zvl4_124 : Cond.methodLink (zcn 4) 124 (zy (zP 33)) ∈ zGW ∧ Cond.instanceMethod (zy (zP 33)) ∈ zGW ∧ Cond.selects (zy (zP 33)).cls (zy (zP 33)) (zy (zP 33)) ∈ zGW ∧ ∀ r : vw_C, zcl[zown (zP 33)]? = some r → r.1 = (zy (zP 33)).cls := ⟨zwd732, zwd733, zwd734, fun r hr => by cases hr; rfl⟩
theorem zvl4_134 : Cond.methodLink (zcn 4) 134 (zy (zP 181)) ∈ zGW ∧ Cond.instanceMethod (zy (zP 181)) ∈ zGW ∧ Cond.selects (zy (zP 181)).cls (zy (zP 181)) (zy (zP 181)) ∈ zGW ∧ ∀ r : vw_C, zcl[zown (zP 181)]? = some r → r.1 = (zy (zP 181)).cls := ⟨zwd724, zwd725, zwd726, fun r hr => by cases hr; rfl⟩
theorem zse_168 : Cond.selects (zy (zP 168)).cls (zy (zP 168)) (zy (zP 168)) ∈ zGW := zse (zpr1 (i := 7) rfl)
theorem zvl4_147 : Cond.methodLink (zcn 4) 147 (zy (zP 168)) ∈ zGW ∧ Cond.instanceMethod (zy (zP 168)) ∈ zGW ∧ Cond.selects (zy (zP 168)).cls (zy (zP 168)) (zy (zP 168)) ∈ zGW ∧ ∀ r : vw_C, zcl[zown (zP 168)]? = some r → r.1 = (zy (zP 168)).cls := ⟨zwd614, zwd616, zse_168, fun r hr => by cases hr; rfl⟩
theorem zse_40 : Cond.selects (zy (zP 40)).cls (zy (zP 40)) (zy (zP 40)) ∈ zGW := zse (zpr2 (i := 9) rfl)
theorem zvl5_40 : Cond.methodLink (zcn 5) 40 (zy (zP 40)) ∈ zGW ∧ Cond.instanceMethod (zy (zP 40)) ∈ zGW ∧ Cond.selects (zy (zP 40)).cls (zy (zP 40)) (zy (zP 40)) ∈ zGW ∧ ∀ r : vw_C, zcl[zown (zP 40)]? = some r → r.1 = (zy (zP 40)).cls := ⟨zwd913, zwd915, zse_40, fun r hr => by cases hr; rfl⟩
theorem zse_43 : Cond.selects (zy (zP 43)).cls (zy (zP 43)) (zy (zP 43)) ∈ zGW := zse (zpr2 (i := 10) rfl)
theorem zvl5_46 : Cond.methodLink (zcn 5) 46 (zy (zP 43)) ∈ zGW ∧ Cond.instanceMethod (zy (zP 43)) ∈ zGW ∧ Cond.selects (zy (zP 43)).cls (zy (zP 43)) (zy (zP 43)) ∈ zGW ∧ ∀ r : vw_C, zcl[zown (zP 43)]? = some r → r.1 = (zy (zP 43)).cls := ⟨zwd918, zwd920, zse_43, fun r hr => by cases hr; rfl⟩
theorem zse_46 : Cond.selects (zy (zP 46)).cls (zy (zP 46)) (zy (zP 46)) ∈ zGW := zse (zpr2 (i := 11) rfl)
theorem zvl5_69 : Cond.methodLink (zcn 5) 69 (zy (zP 46)) ∈ zGW ∧ Cond.instanceMethod (zy (zP 46)) ∈ zGW ∧ Cond.selects (zy (zP 46)).cls (zy (zP 46)) (zy (zP 46)) ∈ zGW ∧ ∀ r : vw_C, zcl[zown (zP 46)]? = some r → r.1 = (zy (zP 46)).cls := ⟨zwd936, zwd938, zse_46, fun r hr => by cases hr; rfl⟩
theorem zse_45 : Cond.selects (zy (zP 45)).cls (zy (zP 45)) (zy (zP 45)) ∈ zGW := zse (zpr2 (i := 12) rfl)
theorem zvl5_72 : Cond.methodLink (zcn 5) 72 (zy (zP 45)) ∈ zGW ∧ Cond.instanceMethod (zy (zP 45)) ∈ zGW ∧ Cond.selects (zy (zP 45)).cls (zy (zP 45)) (zy (zP 45)) ∈ zGW ∧ ∀ r : vw_C, zcl[zown (zP 45)]? = some r → r.1 = (zy (zP 45)).cls := ⟨zwd940, zwd942, zse_45, fun r hr => by cases hr; rfl⟩
theorem zse_69 : Cond.selects (zy (zP 69)).cls (zy (zP 69)) (zy (zP 69)) ∈ zGW := zse (zpr4 (i := 3) rfl)
theorem zvl7_54 : Cond.methodLink (zcn 7) 54 (zy (zP 69)) ∈ zGW ∧ Cond.instanceMethod (zy (zP 69)) ∈ zGW ∧ Cond.selects (zy (zP 69)).cls (zy (zP 69)) (zy (zP 69)) ∈ zGW ∧ ∀ r : vw_C, zcl[zown (zP 69)]? = some r → r.1 = (zy (zP 69)).cls := ⟨zwd1268, zwd1270, zse_69, fun r hr => by cases hr; rfl⟩
theorem zse_66 : Cond.selects (zy (zP 66)).cls (zy (zP 66)) (zy (zP 66)) ∈ zGW := zse (zpr4 (i := 4) rfl)
theorem zvl7_58 : Cond.methodLink (zcn 7) 58 (zy (zP 66)) ∈ zGW ∧ Cond.instanceMethod (zy (zP 66)) ∈ zGW ∧ Cond.selects (zy (zP 66)).cls (zy (zP 66)) (zy (zP 66)) ∈ zGW ∧ ∀ r : vw_C, zcl[zown (zP 66)]? = some r → r.1 = (zy (zP 66)).cls := ⟨zwd1278, zwd1280, zse_66, fun r hr => by cases hr; rfl⟩
theorem zvl7_75 : Cond.methodLink (zcn 7) 75 (zy (zP 70)) ∈ zGW ∧ Cond.instanceMethod (zy (zP 70)) ∈ zGW ∧ Cond.selects (zy (zP 70)).cls (zy (zP 70)) (zy (zP 70)) ∈ zGW ∧ ∀ r : vw_C, zcl[zown (zP 70)]? = some r → r.1 = (zy (zP 70)).cls := ⟨zwd1314, zwd1262, zwd1263, fun r hr => by cases hr; rfl⟩
theorem zse_155 : Cond.selects (zy (zP 155)).cls (zy (zP 155)) (zy (zP 155)) ∈ zGW := zse (zpr4 (i := 5) rfl)
theorem zvl7_79 : Cond.methodLink (zcn 7) 79 (zy (zP 155)) ∈ zGW ∧ Cond.instanceMethod (zy (zP 155)) ∈ zGW ∧ Cond.selects (zy (zP 155)).cls (zy (zP 155)) (zy (zP 155)) ∈ zGW ∧ ∀ r : vw_C, zcl[zown (zP 155)]? = some r → r.1 = (zy (zP 155)).cls := ⟨zwd1315, zwd1317, zse_155, fun r hr => by cases hr; rfl⟩
theorem zse_153 : Cond.selects (zy (zP 153)).cls (zy (zP 153)) (zy (zP 153)) ∈ zGW := zse (zpr4 (i := 6) rfl)
theorem zvl7_83 : Cond.methodLink (zcn 7) 83 (zy (zP 153)) ∈ zGW ∧ Cond.instanceMethod (zy (zP 153)) ∈ zGW ∧ Cond.selects (zy (zP 153)).cls (zy (zP 153)) (zy (zP 153)) ∈ zGW ∧ ∀ r : vw_C, zcl[zown (zP 153)]? = some r → r.1 = (zy (zP 153)).cls := ⟨zwd1319, zwd1321, zse_153, fun r hr => by cases hr; rfl⟩
theorem zse_152 : Cond.selects (zy (zP 152)).cls (zy (zP 152)) (zy (zP 152)) ∈ zGW := zse (zpr4 (i := 7) rfl)
theorem zvl7_86 : Cond.methodLink (zcn 7) 86 (zy (zP 152)) ∈ zGW ∧ Cond.instanceMethod (zy (zP 152)) ∈ zGW ∧ Cond.selects (zy (zP 152)).cls (zy (zP 152)) (zy (zP 152)) ∈ zGW ∧ ∀ r : vw_C, zcl[zown (zP 152)]? = some r → r.1 = (zy (zP 152)).cls := ⟨zwd1323, zwd1325, zse_152, fun r hr => by cases hr; rfl⟩
theorem zse_154 : Cond.selects (zy (zP 154)).cls (zy (zP 154)) (zy (zP 154)) ∈ zGW := zse (zpr4 (i := 8) rfl)
theorem zvl7_89 : Cond.methodLink (zcn 7) 89 (zy (zP 154)) ∈ zGW ∧ Cond.instanceMethod (zy (zP 154)) ∈ zGW ∧ Cond.selects (zy (zP 154)).cls (zy (zP 154)) (zy (zP 154)) ∈ zGW ∧ ∀ r : vw_C, zcl[zown (zP 154)]? = some r → r.1 = (zy (zP 154)).cls := ⟨zwd1327, zwd1329, zse_154, fun r hr => by cases hr; rfl⟩
theorem zse_192 : Cond.selects (zy (zP 192)).cls (zy (zP 192)) (zy (zP 192)) ∈ zGW := zse (zpr1 (i := 3) rfl)
theorem zvl8_92 : Cond.methodLink (zcn 8) 92 (zy (zP 192)) ∈ zGW ∧ Cond.instanceMethod (zy (zP 192)) ∈ zGW ∧ Cond.selects (zy (zP 192)).cls (zy (zP 192)) (zy (zP 192)) ∈ zGW ∧ ∀ r : vw_C, zcl[zown (zP 192)]? = some r → r.1 = (zy (zP 192)).cls := ⟨zwd577, zwd579, zse_192, fun r hr => by cases hr; rfl⟩
theorem zse_190 : Cond.selects (zy (zP 190)).cls (zy (zP 190)) (zy (zP 190)) ∈ zGW := zse (zpr1 (i := 4) rfl)
theorem zvl8_96 : Cond.methodLink (zcn 8) 96 (zy (zP 190)) ∈ zGW ∧ Cond.instanceMethod (zy (zP 190)) ∈ zGW ∧ Cond.selects (zy (zP 190)).cls (zy (zP 190)) (zy (zP 190)) ∈ zGW ∧ ∀ r : vw_C, zcl[zown (zP 190)]? = some r → r.1 = (zy (zP 190)).cls := ⟨zwd585, zwd587, zse_190, fun r hr => by cases hr; rfl⟩
theorem zvl8_99 : Cond.methodLink (zcn 8) 99 (zy (zP 191)) ∈ zGW ∧ Cond.instanceMethod (zy (zP 191)) ∈ zGW ∧ Cond.selects (zy (zP 191)).cls (zy (zP 191)) (zy (zP 191)) ∈ zGW ∧ ∀ r : vw_C, zcl[zown (zP 191)]? = some r → r.1 = (zy (zP 191)).cls := ⟨zwd581, zwd582, zwd583, fun r hr => by cases hr; rfl⟩
theorem zvl9_51 : Cond.methodLink (zcn 9) 51 (zy (zP 44)) ∈ zGW ∧ Cond.instanceMethod (zy (zP 44)) ∈ zGW ∧ Cond.selects (zy (zP 44)).cls (zy (zP 44)) (zy (zP 44)) ∈ zGW ∧ ∀ r : vw_C, zcl[zown (zP 44)]? = some r → r.1 = (zy (zP 44)).cls := ⟨zwd1184, zwd908, zwd909, fun r hr => by cases hr; rfl⟩
theorem zvl9_57 : Cond.methodLink (zcn 9) 57 (zy (zP 47)) ∈ zGW ∧ Cond.instanceMethod (zy (zP 47)) ∈ zGW ∧ Cond.selects (zy (zP 47)).cls (zy (zP 47)) (zy (zP 47)) ∈ zGW ∧ ∀ r : vw_C, zcl[zown (zP 47)]? = some r → r.1 = (zy (zP 47)).cls := ⟨zwd1185, zwd952, zwd953, fun r hr => by cases hr; rfl⟩
theorem zvl9_70 : Cond.methodLink (zcn 9) 70 (zy (zP 109)) ∈ zGW ∧ Cond.instanceMethod (zy (zP 109)) ∈ zGW ∧ Cond.selects (zy (zP 109)).cls (zy (zP 109)) (zy (zP 109)) ∈ zGW ∧ ∀ r : vw_C, zcl[zown (zP 109)]? = some r → r.1 = (zy (zP 109)).cls := ⟨zwd1191, zwd1192, zwd1193, fun r hr => by cases hr; rfl⟩
theorem zse_114 : Cond.selects (zy (zP 114)).cls (zy (zP 114)) (zy (zP 114)) ∈ zGW := zse (zpr3 (i := 14) rfl)
theorem zvl9_74 : Cond.methodLink (zcn 9) 74 (zy (zP 114)) ∈ zGW ∧ Cond.instanceMethod (zy (zP 114)) ∈ zGW ∧ Cond.selects (zy (zP 114)).cls (zy (zP 114)) (zy (zP 114)) ∈ zGW ∧ ∀ r : vw_C, zcl[zown (zP 114)]? = some r → r.1 = (zy (zP 114)).cls := ⟨zwd1195, zwd1197, zse_114, fun r hr => by cases hr; rfl⟩
theorem zse_113 : Cond.selects (zy (zP 113)).cls (zy (zP 113)) (zy (zP 113)) ∈ zGW := zse (zpr4 (i := 0) rfl)
theorem zvl9_78 : Cond.methodLink (zcn 9) 78 (zy (zP 113)) ∈ zGW ∧ Cond.instanceMethod (zy (zP 113)) ∈ zGW ∧ Cond.selects (zy (zP 113)).cls (zy (zP 113)) (zy (zP 113)) ∈ zGW ∧ ∀ r : vw_C, zcl[zown (zP 113)]? = some r → r.1 = (zy (zP 113)).cls := ⟨zwd1203, zwd1205, zse_113, fun r hr => by cases hr; rfl⟩
theorem zse_112 : Cond.selects (zy (zP 112)).cls (zy (zP 112)) (zy (zP 112)) ∈ zGW := zse (zpr3 (i := 15) rfl)
theorem zvl9_84 : Cond.methodLink (zcn 9) 84 (zy (zP 112)) ∈ zGW ∧ Cond.instanceMethod (zy (zP 112)) ∈ zGW ∧ Cond.selects (zy (zP 112)).cls (zy (zP 112)) (zy (zP 112)) ∈ zGW ∧ ∀ r : vw_C, zcl[zown (zP 112)]? = some r → r.1 = (zy (zP 112)).cls := ⟨zwd1199, zwd1201, zse_112, fun r hr => by cases hr; rfl⟩
theorem zse_110 : Cond.selects (zy (zP 110)).cls (zy (zP 110)) (zy (zP 110)) ∈ zGW := zse (zpr4 (i := 1) rfl)
theorem zvl9_94 : Cond.methodLink (zcn 9) 94 (zy (zP 110)) ∈ zGW ∧ Cond.instanceMethod (zy (zP 110)) ∈ zGW ∧ Cond.selects (zy (zP 110)).cls (zy (zP 110)) (zy (zP 110)) ∈ zGW ∧ ∀ r : vw_C, zcl[zown (zP 110)]? = some r → r.1 = (zy (zP 110)).cls := ⟨zwd1208, zwd1210, zse_110, fun r hr => by cases hr; rfl⟩
theorem zse_111 : Cond.selects (zy (zP 111)).cls (zy (zP 111)) (zy (zP 111)) ∈ zGW := zse (zpr4 (i := 2) rfl)
theorem zvl9_98 : Cond.methodLink (zcn 9) 98 (zy (zP 111)) ∈ zGW ∧ Cond.instanceMethod (zy (zP 111)) ∈ zGW ∧ Cond.selects (zy (zP 111)).cls (zy (zP 111)) (zy (zP 111)) ∈ zGW ∧ ∀ r : vw_C, zcl[zown (zP 111)]? = some r → r.1 = (zy (zP 111)).cls := ⟨zwd1212, zwd1214, zse_111, fun r hr => by cases hr; rfl⟩
theorem zse_48 : Cond.selects (zy (zP 48)).cls (zy (zP 48)) (zy (zP 48)) ∈ zGW := zse (zpr4 (i := 9) rfl)
theorem zvl9_108 : Cond.methodLink (zcn 9) 108 (zy (zP 48)) ∈ zGW ∧ Cond.instanceMethod (zy (zP 48)) ∈ zGW ∧ Cond.selects (zy (zP 48)).cls (zy (zP 48)) (zy (zP 48)) ∈ zGW ∧ ∀ r : vw_C, zcl[zown (zP 48)]? = some r → r.1 = (zy (zP 48)).cls := ⟨zwd1362, zwd1364, zse_48, fun r hr => by cases hr; rfl⟩
theorem zse_13 : Cond.selects (zy (zP 13)).cls (zy (zP 13)) (zy (zP 13)) ∈ zGW := zse (zpr1 (i := 0) rfl)
theorem zvl10_93 : Cond.methodLink (zcn 10) 93 (zy (zP 13)) ∈ zGW ∧ Cond.instanceMethod (zy (zP 13)) ∈ zGW ∧ Cond.selects (zy (zP 13)).cls (zy (zP 13)) (zy (zP 13)) ∈ zGW ∧ ∀ r : vw_C, zcl[zown (zP 13)]? = some r → r.1 = (zy (zP 13)).cls := ⟨zwd437, zwd439, zse_13, fun r hr => by cases hr; rfl⟩
theorem zvl10_104 : Cond.methodLink (zcn 10) 104 (zy (zP 194)) ∈ zGW ∧ Cond.instanceMethod (zy (zP 194)) ∈ zGW ∧ Cond.selects (zy (zP 194)).cls (zy (zP 194)) (zy (zP 194)) ∈ zGW ∧ ∀ r : vw_C, zcl[zown (zP 194)]? = some r → r.1 = (zy (zP 194)).cls := ⟨zwd552, zwd553, zwd554, fun r hr => by cases hr; rfl⟩
theorem zse_29 : Cond.selects (zy (zP 29)).cls (zy (zP 29)) (zy (zP 29)) ∈ zGW := zse (zpr2 (i := 2) rfl)
theorem zvl10_146 : Cond.methodLink (zcn 10) 146 (zy (zP 29)) ∈ zGW ∧ Cond.instanceMethod (zy (zP 29)) ∈ zGW ∧ Cond.selects (zy (zP 29)).cls (zy (zP 29)) (zy (zP 29)) ∈ zGW ∧ ∀ r : vw_C, zcl[zown (zP 29)]? = some r → r.1 = (zy (zP 29)).cls := ⟨zwd758, zwd760, zse_29, fun r hr => by cases hr; rfl⟩
theorem zse_39 : Cond.selects (zy (zP 39)).cls (zy (zP 39)) (zy (zP 39)) ∈ zGW := zse (zpr2 (i := 3) rfl)
theorem zvl10_149 : Cond.methodLink (zcn 10) 149 (zy (zP 39)) ∈ zGW ∧ Cond.instanceMethod (zy (zP 39)) ∈ zGW ∧ Cond.selects (zy (zP 39)).cls (zy (zP 39)) (zy (zP 39)) ∈ zGW ∧ ∀ r : vw_C, zcl[zown (zP 39)]? = some r → r.1 = (zy (zP 39)).cls := ⟨zwd778, zwd780, zse_39, fun r hr => by cases hr; rfl⟩
theorem zvl10_162 : Cond.methodLink (zcn 10) 162 (zy (zP 119)) ∈ zGW ∧ Cond.instanceMethod (zy (zP 119)) ∈ zGW ∧ Cond.selects (zy (zP 119)).cls (zy (zP 119)) (zy (zP 119)) ∈ zGW ∧ ∀ r : vw_C, zcl[zown (zP 119)]? = some r → r.1 = (zy (zP 119)).cls := ⟨zwd782, zwd783, zwd784, fun r hr => by cases hr; rfl⟩
theorem zse_120 : Cond.selects (zy (zP 120)).cls (zy (zP 120)) (zy (zP 120)) ∈ zGW := zse (zpr2 (i := 4) rfl)
theorem zvl10_166 : Cond.methodLink (zcn 10) 166 (zy (zP 120)) ∈ zGW ∧ Cond.instanceMethod (zy (zP 120)) ∈ zGW ∧ Cond.selects (zy (zP 120)).cls (zy (zP 120)) (zy (zP 120)) ∈ zGW ∧ ∀ r : vw_C, zcl[zown (zP 120)]? = some r → r.1 = (zy (zP 120)).cls := ⟨zwd793, zwd795, zse_120, fun r hr => by cases hr; rfl⟩
theorem zvl10_169 : Cond.methodLink (zcn 10) 169 (zy (zP 191)) ∈ zGW ∧ Cond.instanceMethod (zy (zP 191)) ∈ zGW ∧ Cond.selects (zy (zP 191)).cls (zy (zP 191)) (zy (zP 191)) ∈ zGW ∧ ∀ r : vw_C, zcl[zown (zP 191)]? = some r → r.1 = (zy (zP 191)).cls := ⟨zwd798, zwd582, zwd583, fun r hr => by cases hr; rfl⟩
theorem zse_28 : Cond.selects (zy (zP 28)).cls (zy (zP 28)) (zy (zP 28)) ∈ zGW := zse (zpr2 (i := 5) rfl)
theorem zvl10_173 : Cond.methodLink (zcn 10) 173 (zy (zP 28)) ∈ zGW ∧ Cond.instanceMethod (zy (zP 28)) ∈ zGW ∧ Cond.selects (zy (zP 28)).cls (zy (zP 28)) (zy (zP 28)) ∈ zGW ∧ ∀ r : vw_C, zcl[zown (zP 28)]? = some r → r.1 = (zy (zP 28)).cls := ⟨zwd806, zwd808, zse_28, fun r hr => by cases hr; rfl⟩
theorem zse_34 : Cond.selects (zy (zP 34)).cls (zy (zP 34)) (zy (zP 34)) ∈ zGW := zse (zpr2 (i := 7) rfl)
theorem zvl10_184 : Cond.methodLink (zcn 10) 184 (zy (zP 34)) ∈ zGW ∧ Cond.instanceMethod (zy (zP 34)) ∈ zGW ∧ Cond.selects (zy (zP 34)).cls (zy (zP 34)) (zy (zP 34)) ∈ zGW ∧ ∀ r : vw_C, zcl[zown (zP 34)]? = some r → r.1 = (zy (zP 34)).cls := ⟨zwd843, zwd845, zse_34, fun r hr => by cases hr; rfl⟩
theorem zse_21 : Cond.selects (zy (zP 21)).cls (zy (zP 21)) (zy (zP 21)) ∈ zGW := zse (zpr2 (i := 6) rfl)
theorem zvl10_188 : Cond.methodLink (zcn 10) 188 (zy (zP 21)) ∈ zGW ∧ Cond.instanceMethod (zy (zP 21)) ∈ zGW ∧ Cond.selects (zy (zP 21)).cls (zy (zP 21)) (zy (zP 21)) ∈ zGW ∧ ∀ r : vw_C, zcl[zown (zP 21)]? = some r → r.1 = (zy (zP 21)).cls := ⟨zwd810, zwd812, zse_21, fun r hr => by cases hr; rfl⟩
theorem zvl10_191 : Cond.methodLink (zcn 10) 191 (zy (zP 30)) ∈ zGW ∧ Cond.instanceMethod (zy (zP 30)) ∈ zGW ∧ Cond.selects (zy (zP 30)).cls (zy (zP 30)) (zy (zP 30)) ∈ zGW ∧ ∀ r : vw_C, zcl[zown (zP 30)]? = some r → r.1 = (zy (zP 30)).cls := ⟨zwd854, zwd855, zwd856, fun r hr => by cases hr; rfl⟩
theorem zvl10_195 : Cond.methodLink (zcn 10) 195 (zy (zP 32)) ∈ zGW ∧ Cond.instanceMethod (zy (zP 32)) ∈ zGW ∧ Cond.selects (zy (zP 32)).cls (zy (zP 32)) (zy (zP 32)) ∈ zGW ∧ ∀ r : vw_C, zcl[zown (zP 32)]? = some r → r.1 = (zy (zP 32)).cls := ⟨zwd849, zwd850, zwd851, fun r hr => by cases hr; rfl⟩
theorem zse_53 : Cond.selects (zy (zP 53)).cls (zy (zP 53)) (zy (zP 53)) ∈ zGW := zse (zpr2 (i := 8) rfl)
theorem zvl10_199 : Cond.methodLink (zcn 10) 199 (zy (zP 53)) ∈ zGW ∧ Cond.instanceMethod (zy (zP 53)) ∈ zGW ∧ Cond.selects (zy (zP 53)).cls (zy (zP 53)) (zy (zP 53)) ∈ zGW ∧ ∀ r : vw_C, zcl[zown (zP 53)]? = some r → r.1 = (zy (zP 53)).cls := ⟨zwd887, zwd889, zse_53, fun r hr => by cases hr; rfl⟩
theorem zvl10_202 : Cond.methodLink (zcn 10) 202 (zy (zP 44)) ∈ zGW ∧ Cond.instanceMethod (zy (zP 44)) ∈ zGW ∧ Cond.selects (zy (zP 44)).cls (zy (zP 44)) (zy (zP 44)) ∈ zGW ∧ ∀ r : vw_C, zcl[zown (zP 44)]? = some r → r.1 = (zy (zP 44)).cls := ⟨zwd907, zwd908, zwd909, fun r hr => by cases hr; rfl⟩
theorem zvl10_206 : Cond.methodLink (zcn 10) 206 (zy (zP 61)) ∈ zGW ∧ Cond.instanceMethod (zy (zP 61)) ∈ zGW ∧ Cond.selects (zy (zP 61)).cls (zy (zP 61)) (zy (zP 61)) ∈ zGW ∧ ∀ r : vw_C, zcl[zown (zP 61)]? = some r → r.1 = (zy (zP 61)).cls := ⟨zwd932, zwd933, zwd934, fun r hr => by cases hr; rfl⟩
theorem zvl10_210 : Cond.methodLink (zcn 10) 210 (zy (zP 47)) ∈ zGW ∧ Cond.instanceMethod (zy (zP 47)) ∈ zGW ∧ Cond.selects (zy (zP 47)).cls (zy (zP 47)) (zy (zP 47)) ∈ zGW ∧ ∀ r : vw_C, zcl[zown (zP 47)]? = some r → r.1 = (zy (zP 47)).cls := ⟨zwd951, zwd952, zwd953, fun r hr => by cases hr; rfl⟩
theorem zvl10_256 : Cond.methodLink (zcn 10) 256 (zy (zP 27)) ∈ zGW ∧ Cond.instanceMethod (zy (zP 27)) ∈ zGW ∧ Cond.selects (zy (zP 27)).cls (zy (zP 27)) (zy (zP 27)) ∈ zGW ∧ ∀ r : vw_C, zcl[zown (zP 27)]? = some r → r.1 = (zy (zP 27)).cls := ⟨zwd815, zwd816, zwd817, fun r hr => by cases hr; rfl⟩
theorem zvl10_263 : Cond.methodLink (zcn 10) 263 (zy (zP 75)) ∈ zGW ∧ Cond.instanceMethod (zy (zP 75)) ∈ zGW ∧ Cond.selects (zy (zP 75)).cls (zy (zP 75)) (zy (zP 75)) ∈ zGW ∧ ∀ r : vw_C, zcl[zown (zP 75)]? = some r → r.1 = (zy (zP 75)).cls := ⟨zwd1023, zwd1024, zwd1025, fun r hr => by cases hr; rfl⟩
theorem zvl10_279 : Cond.methodLink (zcn 10) 279 (zy (zP 83)) ∈ zGW ∧ Cond.instanceMethod (zy (zP 83)) ∈ zGW ∧ Cond.selects (zy (zP 83)).cls (zy (zP 83)) (zy (zP 83)) ∈ zGW ∧ ∀ r : vw_C, zcl[zown (zP 83)]? = some r → r.1 = (zy (zP 83)).cls := ⟨zwd1044, zwd1045, zwd1046, fun r hr => by cases hr; rfl⟩
theorem zvl10_288 : Cond.methodLink (zcn 10) 288 (zy (zP 84)) ∈ zGW ∧ Cond.instanceMethod (zy (zP 84)) ∈ zGW ∧ Cond.selects (zy (zP 84)).cls (zy (zP 84)) (zy (zP 84)) ∈ zGW ∧ ∀ r : vw_C, zcl[zown (zP 84)]? = some r → r.1 = (zy (zP 84)).cls := ⟨zwd1070, zwd1071, zwd1072, fun r hr => by cases hr; rfl⟩
theorem zvl10_292 : Cond.methodLink (zcn 10) 292 (zy (zP 101)) ∈ zGW ∧ Cond.instanceMethod (zy (zP 101)) ∈ zGW ∧ Cond.selects (zy (zP 101)).cls (zy (zP 101)) (zy (zP 101)) ∈ zGW ∧ ∀ r : vw_C, zcl[zown (zP 101)]? = some r → r.1 = (zy (zP 101)).cls := ⟨zwd1081, zwd1082, zwd1083, fun r hr => by cases hr; rfl⟩
theorem zvl10_295 : Cond.methodLink (zcn 10) 295 (zy (zP 139)) ∈ zGW ∧ Cond.instanceMethod (zy (zP 139)) ∈ zGW ∧ Cond.selects (zy (zP 139)).cls (zy (zP 139)) (zy (zP 139)) ∈ zGW ∧ ∀ r : vw_C, zcl[zown (zP 139)]? = some r → r.1 = (zy (zP 139)).cls := ⟨zwd1102, zwd1103, zwd1104, fun r hr => by cases hr; rfl⟩
theorem zvl10_298 : Cond.methodLink (zcn 10) 298 (zy (zP 62)) ∈ zGW ∧ Cond.instanceMethod (zy (zP 62)) ∈ zGW ∧ Cond.selects (zy (zP 62)).cls (zy (zP 62)) (zy (zP 62)) ∈ zGW ∧ ∀ r : vw_C, zcl[zown (zP 62)]? = some r → r.1 = (zy (zP 62)).cls := ⟨zwd1157, zwd1158, zwd1159, fun r hr => by cases hr; rfl⟩
theorem zse_116 : Cond.selects (zy (zP 116)).cls (zy (zP 116)) (zy (zP 116)) ∈ zGW := zse (zpr3 (i := 13) rfl)
theorem zvl10_304 : Cond.methodLink (zcn 10) 304 (zy (zP 116)) ∈ zGW ∧ Cond.instanceMethod (zy (zP 116)) ∈ zGW ∧ Cond.selects (zy (zP 116)).cls (zy (zP 116)) (zy (zP 116)) ∈ zGW ∧ ∀ r : vw_C, zcl[zown (zP 116)]? = some r → r.1 = (zy (zP 116)).cls := ⟨zwd1176, zwd1178, zse_116, fun r hr => by cases hr; rfl⟩
theorem zvl10_313 : Cond.methodLink (zcn 10) 313 (zy (zP 109)) ∈ zGW ∧ Cond.instanceMethod (zy (zP 109)) ∈ zGW ∧ Cond.selects (zy (zP 109)).cls (zy (zP 109)) (zy (zP 109)) ∈ zGW ∧ ∀ r : vw_C, zcl[zown (zP 109)]? = some r → r.1 = (zy (zP 109)).cls := ⟨zwd1223, zwd1192, zwd1193, fun r hr => by cases hr; rfl⟩
theorem zvl10_317 : Cond.methodLink (zcn 10) 317 (zy (zP 198)) ∈ zGW ∧ Cond.instanceMethod (zy (zP 198)) ∈ zGW ∧ Cond.selects (zy (zP 198)).cls (zy (zP 198)) (zy (zP 198)) ∈ zGW ∧ ∀ r : vw_C, zcl[zown (zP 198)]? = some r → r.1 = (zy (zP 198)).cls := ⟨zwd1224, zwd1225, zwd1226, fun r hr => by cases hr; rfl⟩
theorem zvl10_320 : Cond.methodLink (zcn 10) 320 (zy (zP 197)) ∈ zGW ∧ Cond.instanceMethod (zy (zP 197)) ∈ zGW ∧ Cond.selects (zy (zP 197)).cls (zy (zP 197)) (zy (zP 197)) ∈ zGW ∧ ∀ r : vw_C, zcl[zown (zP 197)]? = some r → r.1 = (zy (zP 197)).cls := ⟨zwd1228, zwd1229, zwd1230, fun r hr => by cases hr; rfl⟩
theorem zvl10_323 : Cond.methodLink (zcn 10) 323 (zy (zP 88)) ∈ zGW ∧ Cond.instanceMethod (zy (zP 88)) ∈ zGW ∧ Cond.selects (zy (zP 88)).cls (zy (zP 88)) (zy (zP 88)) ∈ zGW ∧ ∀ r : vw_C, zcl[zown (zP 88)]? = some r → r.1 = (zy (zP 88)).cls := ⟨zwd1180, zwd1181, zwd1182, fun r hr => by cases hr; rfl⟩
theorem zvl10_327 : Cond.methodLink (zcn 10) 327 (zy (zP 87)) ∈ zGW ∧ Cond.instanceMethod (zy (zP 87)) ∈ zGW ∧ Cond.selects (zy (zP 87)).cls (zy (zP 87)) (zy (zP 87)) ∈ zGW ∧ ∀ r : vw_C, zcl[zown (zP 87)]? = some r → r.1 = (zy (zP 87)).cls := ⟨zwd1239, zwd1240, zwd1241, fun r hr => by cases hr; rfl⟩
theorem zvl10_330 : Cond.methodLink (zcn 10) 330 (zy (zP 159)) ∈ zGW ∧ Cond.instanceMethod (zy (zP 159)) ∈ zGW ∧ Cond.selects (zy (zP 159)).cls (zy (zP 159)) (zy (zP 159)) ∈ zGW ∧ ∀ r : vw_C, zcl[zown (zP 159)]? = some r → r.1 = (zy (zP 159)).cls := ⟨zwd1250, zwd1251, zwd1252, fun r hr => by cases hr; rfl⟩
theorem zvl10_333 : Cond.methodLink (zcn 10) 333 (zy (zP 70)) ∈ zGW ∧ Cond.instanceMethod (zy (zP 70)) ∈ zGW ∧ Cond.selects (zy (zP 70)).cls (zy (zP 70)) (zy (zP 70)) ∈ zGW ∧ ∀ r : vw_C, zcl[zown (zP 70)]? = some r → r.1 = (zy (zP 70)).cls := ⟨zwd1261, zwd1262, zwd1263, fun r hr => by cases hr; rfl⟩
theorem zvl10_336 : Cond.methodLink (zcn 10) 336 (zy (zP 65)) ∈ zGW ∧ Cond.instanceMethod (zy (zP 65)) ∈ zGW ∧ Cond.selects (zy (zP 65)).cls (zy (zP 65)) (zy (zP 65)) ∈ zGW ∧ ∀ r : vw_C, zcl[zown (zP 65)]? = some r → r.1 = (zy (zP 65)).cls := ⟨zwd1283, zwd1284, zwd1285, fun r hr => by cases hr; rfl⟩
theorem zvl10_343 : Cond.methodLink (zcn 10) 343 (zy (zP 156)) ∈ zGW ∧ Cond.instanceMethod (zy (zP 156)) ∈ zGW ∧ Cond.selects (zy (zP 156)).cls (zy (zP 156)) (zy (zP 156)) ∈ zGW ∧ ∀ r : vw_C, zcl[zown (zP 156)]? = some r → r.1 = (zy (zP 156)).cls := ⟨zwd1310, zwd1311, zwd1312, fun r hr => by cases hr; rfl⟩
theorem zvl10_349 : Cond.methodLink (zcn 10) 349 (zy (zP 106)) ∈ zGW ∧ Cond.instanceMethod (zy (zP 106)) ∈ zGW ∧ Cond.selects (zy (zP 106)).cls (zy (zP 106)) (zy (zP 106)) ∈ zGW ∧ ∀ r : vw_C, zcl[zown (zP 106)]? = some r → r.1 = (zy (zP 106)).cls := ⟨zwd1345, zwd1346, zwd1347, fun r hr => by cases hr; rfl⟩
theorem zvl10_353 : Cond.methodLink (zcn 10) 353 (zy (zP 50)) ∈ zGW ∧ Cond.instanceMethod (zy (zP 50)) ∈ zGW ∧ Cond.selects (zy (zP 50)).cls (zy (zP 50)) (zy (zP 50)) ∈ zGW ∧ ∀ r : vw_C, zcl[zown (zP 50)]? = some r → r.1 = (zy (zP 50)).cls := ⟨zwd1358, zwd1359, zwd1360, fun r hr => by cases hr; rfl⟩
theorem zvl10_360 : Cond.methodLink (zcn 10) 360 (zy (zP 16)) ∈ zGW ∧ Cond.instanceMethod (zy (zP 16)) ∈ zGW ∧ Cond.selects (zy (zP 16)).cls (zy (zP 16)) (zy (zP 16)) ∈ zGW ∧ ∀ r : vw_C, zcl[zown (zP 16)]? = some r → r.1 = (zy (zP 16)).cls := ⟨zwd457, zwd458, zwd459, fun r hr => by cases hr; rfl⟩
theorem zvl10_364 : Cond.methodLink (zcn 10) 364 (zy (zP 19)) ∈ zGW ∧ Cond.instanceMethod (zy (zP 19)) ∈ zGW ∧ Cond.selects (zy (zP 19)).cls (zy (zP 19)) (zy (zP 19)) ∈ zGW ∧ ∀ r : vw_C, zcl[zown (zP 19)]? = some r → r.1 = (zy (zP 19)).cls := ⟨zwd468, zwd469, zwd470, fun r hr => by cases hr; rfl⟩
theorem zvl10_381 : Cond.methodLink (zcn 10) 381 (zy (zP 115)) ∈ zGW ∧ Cond.instanceMethod (zy (zP 115)) ∈ zGW ∧ Cond.selects (zy (zP 115)).cls (zy (zP 115)) (zy (zP 115)) ∈ zGW ∧ ∀ r : vw_C, zcl[zown (zP 115)]? = some r → r.1 = (zy (zP 115)).cls := ⟨zwd1187, zwd1188, zwd1189, fun r hr => by cases hr; rfl⟩
theorem zvl10_384 : Cond.methodLink (zcn 10) 384 (zy (zP 33)) ∈ zGW ∧ Cond.instanceMethod (zy (zP 33)) ∈ zGW ∧ Cond.selects (zy (zP 33)).cls (zy (zP 33)) (zy (zP 33)) ∈ zGW ∧ ∀ r : vw_C, zcl[zown (zP 33)]? = some r → r.1 = (zy (zP 33)).cls := ⟨zwd847, zwd733, zwd734, fun r hr => by cases hr; rfl⟩
theorem zse_290 : Cond.selects (zy (zP 290)).cls (zy (zP 290)) (zy (zP 290)) ∈ zGW := zse (zpr4 (i := 12) rfl)
theorem zvl11_143 : Cond.methodLink (zcn 11) 143 (zy (zP 290)) ∈ zGW ∧ Cond.instanceMethod (zy (zP 290)) ∈ zGW ∧ Cond.selects (zy (zP 290)).cls (zy (zP 290)) (zy (zP 290)) ∈ zGW ∧ ∀ r : vw_C, zcl[zown (zP 290)]? = some r → r.1 = (zy (zP 290)).cls := ⟨zwd1578, zwd1580, zse_290, fun r hr => by cases hr; rfl⟩
theorem zse_291 : Cond.selects (zy (zP 291)).cls (zy (zP 291)) (zy (zP 291)) ∈ zGW := zse (zpr4 (i := 11) rfl)
theorem zvl11_153 : Cond.methodLink (zcn 11) 153 (zy (zP 291)) ∈ zGW ∧ Cond.instanceMethod (zy (zP 291)) ∈ zGW ∧ Cond.selects (zy (zP 291)).cls (zy (zP 291)) (zy (zP 291)) ∈ zGW ∧ ∀ r : vw_C, zcl[zown (zP 291)]? = some r → r.1 = (zy (zP 291)).cls := ⟨zwd1574, zwd1576, zse_291, fun r hr => by cases hr; rfl⟩
theorem zse_292 : Cond.selects (zy (zP 292)).cls (zy (zP 292)) (zy (zP 292)) ∈ zGW := zse (zpr5 (i := 1) rfl)
theorem zvl11_160 : Cond.methodLink (zcn 11) 160 (zy (zP 292)) ∈ zGW ∧ Cond.instanceMethod (zy (zP 292)) ∈ zGW ∧ Cond.selects (zy (zP 292)).cls (zy (zP 292)) (zy (zP 292)) ∈ zGW ∧ ∀ r : vw_C, zcl[zown (zP 292)]? = some r → r.1 = (zy (zP 292)).cls := ⟨zwd1601, zwd1603, zse_292, fun r hr => by cases hr; rfl⟩
theorem zse_295 : Cond.selects (zy (zP 295)).cls (zy (zP 295)) (zy (zP 295)) ∈ zGW := zse (zpr5 (i := 0) rfl)
theorem zvl11_169 : Cond.methodLink (zcn 11) 169 (zy (zP 295)) ∈ zGW ∧ Cond.instanceMethod (zy (zP 295)) ∈ zGW ∧ Cond.selects (zy (zP 295)).cls (zy (zP 295)) (zy (zP 295)) ∈ zGW ∧ ∀ r : vw_C, zcl[zown (zP 295)]? = some r → r.1 = (zy (zP 295)).cls := ⟨zwd1594, zwd1596, zse_295, fun r hr => by cases hr; rfl⟩
theorem zse_296 : Cond.selects (zy (zP 296)).cls (zy (zP 296)) (zy (zP 296)) ∈ zGW := zse (zpr4 (i := 15) rfl)
theorem zvl11_177 : Cond.methodLink (zcn 11) 177 (zy (zP 296)) ∈ zGW ∧ Cond.instanceMethod (zy (zP 296)) ∈ zGW ∧ Cond.selects (zy (zP 296)).cls (zy (zP 296)) (zy (zP 296)) ∈ zGW ∧ ∀ r : vw_C, zcl[zown (zP 296)]? = some r → r.1 = (zy (zP 296)).cls := ⟨zwd1590, zwd1592, zse_296, fun r hr => by cases hr; rfl⟩
theorem zse_297 : Cond.selects (zy (zP 297)).cls (zy (zP 297)) (zy (zP 297)) ∈ zGW := zse (zpr4 (i := 14) rfl)
theorem zvl11_181 : Cond.methodLink (zcn 11) 181 (zy (zP 297)) ∈ zGW ∧ Cond.instanceMethod (zy (zP 297)) ∈ zGW ∧ Cond.selects (zy (zP 297)).cls (zy (zP 297)) (zy (zP 297)) ∈ zGW ∧ ∀ r : vw_C, zcl[zown (zP 297)]? = some r → r.1 = (zy (zP 297)).cls := ⟨zwd1586, zwd1588, zse_297, fun r hr => by cases hr; rfl⟩
theorem zse_307 : Cond.selects (zy (zP 307)).cls (zy (zP 307)) (zy (zP 307)) ∈ zGW := zse (zpr5 (i := 2) rfl)
theorem zvl11_190 : Cond.methodLink (zcn 11) 190 (zy (zP 307)) ∈ zGW ∧ Cond.instanceMethod (zy (zP 307)) ∈ zGW ∧ Cond.selects (zy (zP 307)).cls (zy (zP 307)) (zy (zP 307)) ∈ zGW ∧ ∀ r : vw_C, zcl[zown (zP 307)]? = some r → r.1 = (zy (zP 307)).cls := ⟨zwd1608, zwd1610, zse_307, fun r hr => by cases hr; rfl⟩
theorem zse_301 : Cond.selects (zy (zP 301)).cls (zy (zP 301)) (zy (zP 301)) ∈ zGW := zse (zpr5 (i := 3) rfl)
theorem zvl11_193 : Cond.methodLink (zcn 11) 193 (zy (zP 301)) ∈ zGW ∧ Cond.instanceMethod (zy (zP 301)) ∈ zGW ∧ Cond.selects (zy (zP 301)).cls (zy (zP 301)) (zy (zP 301)) ∈ zGW ∧ ∀ r : vw_C, zcl[zown (zP 301)]? = some r → r.1 = (zy (zP 301)).cls := ⟨zwd1612, zwd1614, zse_301, fun r hr => by cases hr; rfl⟩
theorem zse_305 : Cond.selects (zy (zP 305)).cls (zy (zP 305)) (zy (zP 305)) ∈ zGW := zse (zpr5 (i := 5) rfl)
theorem zvl11_196 : Cond.methodLink (zcn 11) 196 (zy (zP 305)) ∈ zGW ∧ Cond.instanceMethod (zy (zP 305)) ∈ zGW ∧ Cond.selects (zy (zP 305)).cls (zy (zP 305)) (zy (zP 305)) ∈ zGW ∧ ∀ r : vw_C, zcl[zown (zP 305)]? = some r → r.1 = (zy (zP 305)).cls := ⟨zwd1624, zwd1626, zse_305, fun r hr => by cases hr; rfl⟩
theorem zse_302 : Cond.selects (zy (zP 302)).cls (zy (zP 302)) (zy (zP 302)) ∈ zGW := zse (zpr5 (i := 7) rfl)
theorem zvl11_199 : Cond.methodLink (zcn 11) 199 (zy (zP 302)) ∈ zGW ∧ Cond.instanceMethod (zy (zP 302)) ∈ zGW ∧ Cond.selects (zy (zP 302)).cls (zy (zP 302)) (zy (zP 302)) ∈ zGW ∧ ∀ r : vw_C, zcl[zown (zP 302)]? = some r → r.1 = (zy (zP 302)).cls := ⟨zwd1632, zwd1634, zse_302, fun r hr => by cases hr; rfl⟩
theorem zse_306 : Cond.selects (zy (zP 306)).cls (zy (zP 306)) (zy (zP 306)) ∈ zGW := zse (zpr5 (i := 8) rfl)
theorem zvl11_202 : Cond.methodLink (zcn 11) 202 (zy (zP 306)) ∈ zGW ∧ Cond.instanceMethod (zy (zP 306)) ∈ zGW ∧ Cond.selects (zy (zP 306)).cls (zy (zP 306)) (zy (zP 306)) ∈ zGW ∧ ∀ r : vw_C, zcl[zown (zP 306)]? = some r → r.1 = (zy (zP 306)).cls := ⟨zwd1636, zwd1638, zse_306, fun r hr => by cases hr; rfl⟩
theorem zse_300 : Cond.selects (zy (zP 300)).cls (zy (zP 300)) (zy (zP 300)) ∈ zGW := zse (zpr5 (i := 9) rfl)
theorem zvl11_206 : Cond.methodLink (zcn 11) 206 (zy (zP 300)) ∈ zGW ∧ Cond.instanceMethod (zy (zP 300)) ∈ zGW ∧ Cond.selects (zy (zP 300)).cls (zy (zP 300)) (zy (zP 300)) ∈ zGW ∧ ∀ r : vw_C, zcl[zown (zP 300)]? = some r → r.1 = (zy (zP 300)).cls := ⟨zwd1643, zwd1645, zse_300, fun r hr => by cases hr; rfl⟩
theorem zse_304 : Cond.selects (zy (zP 304)).cls (zy (zP 304)) (zy (zP 304)) ∈ zGW := zse (zpr5 (i := 10) rfl)
theorem zvl11_209 : Cond.methodLink (zcn 11) 209 (zy (zP 304)) ∈ zGW ∧ Cond.instanceMethod (zy (zP 304)) ∈ zGW ∧ Cond.selects (zy (zP 304)).cls (zy (zP 304)) (zy (zP 304)) ∈ zGW ∧ ∀ r : vw_C, zcl[zown (zP 304)]? = some r → r.1 = (zy (zP 304)).cls := ⟨zwd1647, zwd1649, zse_304, fun r hr => by cases hr; rfl⟩
theorem zse_293 : Cond.selects (zy (zP 293)).cls (zy (zP 293)) (zy (zP 293)) ∈ zGW := zse (zpr5 (i := 11) rfl)
theorem zvl11_212 : Cond.methodLink (zcn 11) 212 (zy (zP 293)) ∈ zGW ∧ Cond.instanceMethod (zy (zP 293)) ∈ zGW ∧ Cond.selects (zy (zP 293)).cls (zy (zP 293)) (zy (zP 293)) ∈ zGW ∧ ∀ r : vw_C, zcl[zown (zP 293)]? = some r → r.1 = (zy (zP 293)).cls := ⟨zwd1651, zwd1653, zse_293, fun r hr => by cases hr; rfl⟩
theorem zse_299 : Cond.selects (zy (zP 299)).cls (zy (zP 299)) (zy (zP 299)) ∈ zGW := zse (zpr5 (i := 4) rfl)
theorem zvl11_216 : Cond.methodLink (zcn 11) 216 (zy (zP 299)) ∈ zGW ∧ Cond.instanceMethod (zy (zP 299)) ∈ zGW ∧ Cond.selects (zy (zP 299)).cls (zy (zP 299)) (zy (zP 299)) ∈ zGW ∧ ∀ r : vw_C, zcl[zown (zP 299)]? = some r → r.1 = (zy (zP 299)).cls := ⟨zwd1616, zwd1618, zse_299, fun r hr => by cases hr; rfl⟩
theorem zse_303 : Cond.selects (zy (zP 303)).cls (zy (zP 303)) (zy (zP 303)) ∈ zGW := zse (zpr5 (i := 6) rfl)
theorem zvl11_220 : Cond.methodLink (zcn 11) 220 (zy (zP 303)) ∈ zGW ∧ Cond.instanceMethod (zy (zP 303)) ∈ zGW ∧ Cond.selects (zy (zP 303)).cls (zy (zP 303)) (zy (zP 303)) ∈ zGW ∧ ∀ r : vw_C, zcl[zown (zP 303)]? = some r → r.1 = (zy (zP 303)).cls := ⟨zwd1628, zwd1630, zse_303, fun r hr => by cases hr; rfl⟩
theorem zse_207 : Cond.selects (zy (zP 207)).cls (zy (zP 207)) (zy (zP 207)) ∈ zGW := zse (zpr4 (i := 10) rfl)
theorem zvl11_227 : Cond.methodLink (zcn 11) 227 (zy (zP 207)) ∈ zGW ∧ Cond.instanceMethod (zy (zP 207)) ∈ zGW ∧ Cond.selects (zy (zP 207)).cls (zy (zP 207)) (zy (zP 207)) ∈ zGW ∧ ∀ r : vw_C, zcl[zown (zP 207)]? = some r → r.1 = (zy (zP 207)).cls := ⟨zwd1570, zwd1572, zse_207, fun r hr => by cases hr; rfl⟩
theorem zse_308 : Cond.selects (zy (zP 308)).cls (zy (zP 308)) (zy (zP 308)) ∈ zGW := zse (zpr4 (i := 13) rfl)
theorem zvl11_231 : Cond.methodLink (zcn 11) 231 (zy (zP 308)) ∈ zGW ∧ Cond.instanceMethod (zy (zP 308)) ∈ zGW ∧ Cond.selects (zy (zP 308)).cls (zy (zP 308)) (zy (zP 308)) ∈ zGW ∧ ∀ r : vw_C, zcl[zown (zP 308)]? = some r → r.1 = (zy (zP 308)).cls := ⟨zwd1582, zwd1584, zse_308, fun r hr => by cases hr; rfl⟩
theorem zse_310 : Cond.selects (zy (zP 310)).cls (zy (zP 310)) (zy (zP 310)) ∈ zGW := zse (zpr5 (i := 12) rfl)
theorem zvl11_247 : Cond.methodLink (zcn 11) 247 (zy (zP 310)) ∈ zGW ∧ Cond.instanceMethod (zy (zP 310)) ∈ zGW ∧ Cond.selects (zy (zP 310)).cls (zy (zP 310)) (zy (zP 310)) ∈ zGW ∧ ∀ r : vw_C, zcl[zown (zP 310)]? = some r → r.1 = (zy (zP 310)).cls := ⟨zwd1658, zwd1660, zse_310, fun r hr => by cases hr; rfl⟩
theorem zse_216 : Cond.selects (zy (zP 216)).cls (zy (zP 216)) (zy (zP 216)) ∈ zGW := zse (zpr5 (i := 15) rfl)
theorem zvl11_250 : Cond.methodLink (zcn 11) 250 (zy (zP 216)) ∈ zGW ∧ Cond.instanceMethod (zy (zP 216)) ∈ zGW ∧ Cond.selects (zy (zP 216)).cls (zy (zP 216)) (zy (zP 216)) ∈ zGW ∧ ∀ r : vw_C, zcl[zown (zP 216)]? = some r → r.1 = (zy (zP 216)).cls := ⟨zwd1670, zwd1672, zse_216, fun r hr => by cases hr; rfl⟩
theorem zse_215 : Cond.selects (zy (zP 215)).cls (zy (zP 215)) (zy (zP 215)) ∈ zGW := zse (zpr6 (i := 0) rfl)
theorem zvl11_253 : Cond.methodLink (zcn 11) 253 (zy (zP 215)) ∈ zGW ∧ Cond.instanceMethod (zy (zP 215)) ∈ zGW ∧ Cond.selects (zy (zP 215)).cls (zy (zP 215)) (zy (zP 215)) ∈ zGW ∧ ∀ r : vw_C, zcl[zown (zP 215)]? = some r → r.1 = (zy (zP 215)).cls := ⟨zwd1674, zwd1676, zse_215, fun r hr => by cases hr; rfl⟩
theorem zse_217 : Cond.selects (zy (zP 217)).cls (zy (zP 217)) (zy (zP 217)) ∈ zGW := zse (zpr6 (i := 1) rfl)
theorem zvl11_256 : Cond.methodLink (zcn 11) 256 (zy (zP 217)) ∈ zGW ∧ Cond.instanceMethod (zy (zP 217)) ∈ zGW ∧ Cond.selects (zy (zP 217)).cls (zy (zP 217)) (zy (zP 217)) ∈ zGW ∧ ∀ r : vw_C, zcl[zown (zP 217)]? = some r → r.1 = (zy (zP 217)).cls := ⟨zwd1678, zwd1680, zse_217, fun r hr => by cases hr; rfl⟩
theorem zse_214 : Cond.selects (zy (zP 214)).cls (zy (zP 214)) (zy (zP 214)) ∈ zGW := zse (zpr5 (i := 13) rfl)
theorem zvl11_262 : Cond.methodLink (zcn 11) 262 (zy (zP 214)) ∈ zGW ∧ Cond.instanceMethod (zy (zP 214)) ∈ zGW ∧ Cond.selects (zy (zP 214)).cls (zy (zP 214)) (zy (zP 214)) ∈ zGW ∧ ∀ r : vw_C, zcl[zown (zP 214)]? = some r → r.1 = (zy (zP 214)).cls := ⟨zwd1662, zwd1664, zse_214, fun r hr => by cases hr; rfl⟩
theorem zse_218 : Cond.selects (zy (zP 218)).cls (zy (zP 218)) (zy (zP 218)) ∈ zGW := zse (zpr5 (i := 14) rfl)
theorem zvl11_265 : Cond.methodLink (zcn 11) 265 (zy (zP 218)) ∈ zGW ∧ Cond.instanceMethod (zy (zP 218)) ∈ zGW ∧ Cond.selects (zy (zP 218)).cls (zy (zP 218)) (zy (zP 218)) ∈ zGW ∧ ∀ r : vw_C, zcl[zown (zP 218)]? = some r → r.1 = (zy (zP 218)).cls := ⟨zwd1666, zwd1668, zse_218, fun r hr => by cases hr; rfl⟩
theorem zse_205 : Cond.selects (zy (zP 205)).cls (zy (zP 205)) (zy (zP 205)) ∈ zGW := zse (zpr6 (i := 2) rfl)
theorem zvl11_268 : Cond.methodLink (zcn 11) 268 (zy (zP 205)) ∈ zGW ∧ Cond.instanceMethod (zy (zP 205)) ∈ zGW ∧ Cond.selects (zy (zP 205)).cls (zy (zP 205)) (zy (zP 205)) ∈ zGW ∧ ∀ r : vw_C, zcl[zown (zP 205)]? = some r → r.1 = (zy (zP 205)).cls := ⟨zwd1694, zwd1696, zse_205, fun r hr => by cases hr; rfl⟩
theorem zse_219 : Cond.selects (zy (zP 219)).cls (zy (zP 219)) (zy (zP 219)) ∈ zGW := zse (zpr6 (i := 5) rfl)
theorem zvl11_271 : Cond.methodLink (zcn 11) 271 (zy (zP 219)) ∈ zGW ∧ Cond.instanceMethod (zy (zP 219)) ∈ zGW ∧ Cond.selects (zy (zP 219)).cls (zy (zP 219)) (zy (zP 219)) ∈ zGW ∧ ∀ r : vw_C, zcl[zown (zP 219)]? = some r → r.1 = (zy (zP 219)).cls := ⟨zwd1714, zwd1716, zse_219, fun r hr => by cases hr; rfl⟩
theorem zse_221 : Cond.selects (zy (zP 221)).cls (zy (zP 221)) (zy (zP 221)) ∈ zGW := zse (zpr6 (i := 4) rfl)
theorem zvl11_275 : Cond.methodLink (zcn 11) 275 (zy (zP 221)) ∈ zGW ∧ Cond.instanceMethod (zy (zP 221)) ∈ zGW ∧ Cond.selects (zy (zP 221)).cls (zy (zP 221)) (zy (zP 221)) ∈ zGW ∧ ∀ r : vw_C, zcl[zown (zP 221)]? = some r → r.1 = (zy (zP 221)).cls := ⟨zwd1710, zwd1712, zse_221, fun r hr => by cases hr; rfl⟩
theorem zse_220 : Cond.selects (zy (zP 220)).cls (zy (zP 220)) (zy (zP 220)) ∈ zGW := zse (zpr6 (i := 11) rfl)
theorem zvl11_278 : Cond.methodLink (zcn 11) 278 (zy (zP 220)) ∈ zGW ∧ Cond.instanceMethod (zy (zP 220)) ∈ zGW ∧ Cond.selects (zy (zP 220)).cls (zy (zP 220)) (zy (zP 220)) ∈ zGW ∧ ∀ r : vw_C, zcl[zown (zP 220)]? = some r → r.1 = (zy (zP 220)).cls := ⟨zwd1758, zwd1760, zse_220, fun r hr => by cases hr; rfl⟩
theorem zse_212 : Cond.selects (zy (zP 212)).cls (zy (zP 212)) (zy (zP 212)) ∈ zGW := zse (zpr6 (i := 3) rfl)
theorem zvl11_281 : Cond.methodLink (zcn 11) 281 (zy (zP 212)) ∈ zGW ∧ Cond.instanceMethod (zy (zP 212)) ∈ zGW ∧ Cond.selects (zy (zP 212)).cls (zy (zP 212)) (zy (zP 212)) ∈ zGW ∧ ∀ r : vw_C, zcl[zown (zP 212)]? = some r → r.1 = (zy (zP 212)).cls := ⟨zwd1706, zwd1708, zse_212, fun r hr => by cases hr; rfl⟩
theorem zse_206 : Cond.selects (zy (zP 206)).cls (zy (zP 206)) (zy (zP 206)) ∈ zGW := zse (zpr6 (i := 7) rfl)
theorem zvl11_284 : Cond.methodLink (zcn 11) 284 (zy (zP 206)) ∈ zGW ∧ Cond.instanceMethod (zy (zP 206)) ∈ zGW ∧ Cond.selects (zy (zP 206)).cls (zy (zP 206)) (zy (zP 206)) ∈ zGW ∧ ∀ r : vw_C, zcl[zown (zP 206)]? = some r → r.1 = (zy (zP 206)).cls := ⟨zwd1726, zwd1728, zse_206, fun r hr => by cases hr; rfl⟩
theorem zse_208 : Cond.selects (zy (zP 208)).cls (zy (zP 208)) (zy (zP 208)) ∈ zGW := zse (zpr6 (i := 8) rfl)
theorem zvl11_287 : Cond.methodLink (zcn 11) 287 (zy (zP 208)) ∈ zGW ∧ Cond.instanceMethod (zy (zP 208)) ∈ zGW ∧ Cond.selects (zy (zP 208)).cls (zy (zP 208)) (zy (zP 208)) ∈ zGW ∧ ∀ r : vw_C, zcl[zown (zP 208)]? = some r → r.1 = (zy (zP 208)).cls := ⟨zwd1730, zwd1732, zse_208, fun r hr => by cases hr; rfl⟩
theorem zse_210 : Cond.selects (zy (zP 210)).cls (zy (zP 210)) (zy (zP 210)) ∈ zGW := zse (zpr6 (i := 6) rfl)
theorem zvl11_290 : Cond.methodLink (zcn 11) 290 (zy (zP 210)) ∈ zGW ∧ Cond.instanceMethod (zy (zP 210)) ∈ zGW ∧ Cond.selects (zy (zP 210)).cls (zy (zP 210)) (zy (zP 210)) ∈ zGW ∧ ∀ r : vw_C, zcl[zown (zP 210)]? = some r → r.1 = (zy (zP 210)).cls := ⟨zwd1722, zwd1724, zse_210, fun r hr => by cases hr; rfl⟩
theorem zse_225 : Cond.selects (zy (zP 225)).cls (zy (zP 225)) (zy (zP 225)) ∈ zGW := zse (zpr6 (i := 14) rfl)
theorem zvl11_295 : Cond.methodLink (zcn 11) 295 (zy (zP 225)) ∈ zGW ∧ Cond.instanceMethod (zy (zP 225)) ∈ zGW ∧ Cond.selects (zy (zP 225)).cls (zy (zP 225)) (zy (zP 225)) ∈ zGW ∧ ∀ r : vw_C, zcl[zown (zP 225)]? = some r → r.1 = (zy (zP 225)).cls := ⟨zwd1771, zwd1773, zse_225, fun r hr => by cases hr; rfl⟩
theorem zse_224 : Cond.selects (zy (zP 224)).cls (zy (zP 224)) (zy (zP 224)) ∈ zGW := zse (zpr6 (i := 15) rfl)
theorem zvl11_298 : Cond.methodLink (zcn 11) 298 (zy (zP 224)) ∈ zGW ∧ Cond.instanceMethod (zy (zP 224)) ∈ zGW ∧ Cond.selects (zy (zP 224)).cls (zy (zP 224)) (zy (zP 224)) ∈ zGW ∧ ∀ r : vw_C, zcl[zown (zP 224)]? = some r → r.1 = (zy (zP 224)).cls := ⟨zwd1775, zwd1777, zse_224, fun r hr => by cases hr; rfl⟩
theorem zse_227 : Cond.selects (zy (zP 227)).cls (zy (zP 227)) (zy (zP 227)) ∈ zGW := zse (zpr6 (i := 13) rfl)
theorem zvl11_301 : Cond.methodLink (zcn 11) 301 (zy (zP 227)) ∈ zGW ∧ Cond.instanceMethod (zy (zP 227)) ∈ zGW ∧ Cond.selects (zy (zP 227)).cls (zy (zP 227)) (zy (zP 227)) ∈ zGW ∧ ∀ r : vw_C, zcl[zown (zP 227)]? = some r → r.1 = (zy (zP 227)).cls := ⟨zwd1766, zwd1768, zse_227, fun r hr => by cases hr; rfl⟩
theorem zse_223 : Cond.selects (zy (zP 223)).cls (zy (zP 223)) (zy (zP 223)) ∈ zGW := zse (zpr7 (i := 0) rfl)
theorem zvl11_304 : Cond.methodLink (zcn 11) 304 (zy (zP 223)) ∈ zGW ∧ Cond.instanceMethod (zy (zP 223)) ∈ zGW ∧ Cond.selects (zy (zP 223)).cls (zy (zP 223)) (zy (zP 223)) ∈ zGW ∧ ∀ r : vw_C, zcl[zown (zP 223)]? = some r → r.1 = (zy (zP 223)).cls := ⟨zwd1779, zwd1781, zse_223, fun r hr => by cases hr; rfl⟩
theorem zse_230 : Cond.selects (zy (zP 230)).cls (zy (zP 230)) (zy (zP 230)) ∈ zGW := zse (zpr6 (i := 9) rfl)
theorem zvl11_307 : Cond.methodLink (zcn 11) 307 (zy (zP 230)) ∈ zGW ∧ Cond.instanceMethod (zy (zP 230)) ∈ zGW ∧ Cond.selects (zy (zP 230)).cls (zy (zP 230)) (zy (zP 230)) ∈ zGW ∧ ∀ r : vw_C, zcl[zown (zP 230)]? = some r → r.1 = (zy (zP 230)).cls := ⟨zwd1750, zwd1752, zse_230, fun r hr => by cases hr; rfl⟩
theorem zse_222 : Cond.selects (zy (zP 222)).cls (zy (zP 222)) (zy (zP 222)) ∈ zGW := zse (zpr6 (i := 10) rfl)
theorem zvl11_310 : Cond.methodLink (zcn 11) 310 (zy (zP 222)) ∈ zGW ∧ Cond.instanceMethod (zy (zP 222)) ∈ zGW ∧ Cond.selects (zy (zP 222)).cls (zy (zP 222)) (zy (zP 222)) ∈ zGW ∧ ∀ r : vw_C, zcl[zown (zP 222)]? = some r → r.1 = (zy (zP 222)).cls := ⟨zwd1754, zwd1756, zse_222, fun r hr => by cases hr; rfl⟩
theorem zse_228 : Cond.selects (zy (zP 228)).cls (zy (zP 228)) (zy (zP 228)) ∈ zGW := zse (zpr6 (i := 12) rfl)
theorem zvl11_313 : Cond.methodLink (zcn 11) 313 (zy (zP 228)) ∈ zGW ∧ Cond.instanceMethod (zy (zP 228)) ∈ zGW ∧ Cond.selects (zy (zP 228)).cls (zy (zP 228)) (zy (zP 228)) ∈ zGW ∧ ∀ r : vw_C, zcl[zown (zP 228)]? = some r → r.1 = (zy (zP 228)).cls := ⟨zwd1762, zwd1764, zse_228, fun r hr => by cases hr; rfl⟩
theorem zse_226 : Cond.selects (zy (zP 226)).cls (zy (zP 226)) (zy (zP 226)) ∈ zGW := zse (zpr7 (i := 1) rfl)
theorem zvl11_316 : Cond.methodLink (zcn 11) 316 (zy (zP 226)) ∈ zGW ∧ Cond.instanceMethod (zy (zP 226)) ∈ zGW ∧ Cond.selects (zy (zP 226)).cls (zy (zP 226)) (zy (zP 226)) ∈ zGW ∧ ∀ r : vw_C, zcl[zown (zP 226)]? = some r → r.1 = (zy (zP 226)).cls := ⟨zwd1787, zwd1789, zse_226, fun r hr => by cases hr; rfl⟩
theorem zse_243 : Cond.selects (zy (zP 243)).cls (zy (zP 243)) (zy (zP 243)) ∈ zGW := zse (zpr7 (i := 3) rfl)
theorem zvl11_319 : Cond.methodLink (zcn 11) 319 (zy (zP 243)) ∈ zGW ∧ Cond.instanceMethod (zy (zP 243)) ∈ zGW ∧ Cond.selects (zy (zP 243)).cls (zy (zP 243)) (zy (zP 243)) ∈ zGW ∧ ∀ r : vw_C, zcl[zown (zP 243)]? = some r → r.1 = (zy (zP 243)).cls := ⟨zwd1799, zwd1801, zse_243, fun r hr => by cases hr; rfl⟩
theorem zse_242 : Cond.selects (zy (zP 242)).cls (zy (zP 242)) (zy (zP 242)) ∈ zGW := zse (zpr7 (i := 2) rfl)
theorem zvl11_322 : Cond.methodLink (zcn 11) 322 (zy (zP 242)) ∈ zGW ∧ Cond.instanceMethod (zy (zP 242)) ∈ zGW ∧ Cond.selects (zy (zP 242)).cls (zy (zP 242)) (zy (zP 242)) ∈ zGW ∧ ∀ r : vw_C, zcl[zown (zP 242)]? = some r → r.1 = (zy (zP 242)).cls := ⟨zwd1795, zwd1797, zse_242, fun r hr => by cases hr; rfl⟩
theorem zse_273 : Cond.selects (zy (zP 273)).cls (zy (zP 273)) (zy (zP 273)) ∈ zGW := zse (zpr7 (i := 4) rfl)
theorem zvl11_325 : Cond.methodLink (zcn 11) 325 (zy (zP 273)) ∈ zGW ∧ Cond.instanceMethod (zy (zP 273)) ∈ zGW ∧ Cond.selects (zy (zP 273)).cls (zy (zP 273)) (zy (zP 273)) ∈ zGW ∧ ∀ r : vw_C, zcl[zown (zP 273)]? = some r → r.1 = (zy (zP 273)).cls := ⟨zwd1803, zwd1805, zse_273, fun r hr => by cases hr; rfl⟩
theorem zse_271 : Cond.selects (zy (zP 271)).cls (zy (zP 271)) (zy (zP 271)) ∈ zGW := zse (zpr7 (i := 5) rfl)
theorem zvl11_328 : Cond.methodLink (zcn 11) 328 (zy (zP 271)) ∈ zGW ∧ Cond.instanceMethod (zy (zP 271)) ∈ zGW ∧ Cond.selects (zy (zP 271)).cls (zy (zP 271)) (zy (zP 271)) ∈ zGW ∧ ∀ r : vw_C, zcl[zown (zP 271)]? = some r → r.1 = (zy (zP 271)).cls := ⟨zwd1811, zwd1813, zse_271, fun r hr => by cases hr; rfl⟩
theorem zse_244 : Cond.selects (zy (zP 244)).cls (zy (zP 244)) (zy (zP 244)) ∈ zGW := zse (zpr7 (i := 6) rfl)
theorem zvl11_331 : Cond.methodLink (zcn 11) 331 (zy (zP 244)) ∈ zGW ∧ Cond.instanceMethod (zy (zP 244)) ∈ zGW ∧ Cond.selects (zy (zP 244)).cls (zy (zP 244)) (zy (zP 244)) ∈ zGW ∧ ∀ r : vw_C, zcl[zown (zP 244)]? = some r → r.1 = (zy (zP 244)).cls := ⟨zwd1823, zwd1825, zse_244, fun r hr => by cases hr; rfl⟩
theorem zse_236 : Cond.selects (zy (zP 236)).cls (zy (zP 236)) (zy (zP 236)) ∈ zGW := zse (zpr7 (i := 8) rfl)
theorem zvl11_337 : Cond.methodLink (zcn 11) 337 (zy (zP 236)) ∈ zGW ∧ Cond.instanceMethod (zy (zP 236)) ∈ zGW ∧ Cond.selects (zy (zP 236)).cls (zy (zP 236)) (zy (zP 236)) ∈ zGW ∧ ∀ r : vw_C, zcl[zown (zP 236)]? = some r → r.1 = (zy (zP 236)).cls := ⟨zwd1843, zwd1845, zse_236, fun r hr => by cases hr; rfl⟩
theorem zse_237 : Cond.selects (zy (zP 237)).cls (zy (zP 237)) (zy (zP 237)) ∈ zGW := zse (zpr7 (i := 9) rfl)
theorem zvl11_340 : Cond.methodLink (zcn 11) 340 (zy (zP 237)) ∈ zGW ∧ Cond.instanceMethod (zy (zP 237)) ∈ zGW ∧ Cond.selects (zy (zP 237)).cls (zy (zP 237)) (zy (zP 237)) ∈ zGW ∧ ∀ r : vw_C, zcl[zown (zP 237)]? = some r → r.1 = (zy (zP 237)).cls := ⟨zwd1847, zwd1849, zse_237, fun r hr => by cases hr; rfl⟩
theorem zse_238 : Cond.selects (zy (zP 238)).cls (zy (zP 238)) (zy (zP 238)) ∈ zGW := zse (zpr7 (i := 7) rfl)
theorem zvl11_343 : Cond.methodLink (zcn 11) 343 (zy (zP 238)) ∈ zGW ∧ Cond.instanceMethod (zy (zP 238)) ∈ zGW ∧ Cond.selects (zy (zP 238)).cls (zy (zP 238)) (zy (zP 238)) ∈ zGW ∧ ∀ r : vw_C, zcl[zown (zP 238)]? = some r → r.1 = (zy (zP 238)).cls := ⟨zwd1839, zwd1841, zse_238, fun r hr => by cases hr; rfl⟩
theorem zse_240 : Cond.selects (zy (zP 240)).cls (zy (zP 240)) (zy (zP 240)) ∈ zGW := zse (zpr7 (i := 11) rfl)
theorem zvl11_352 : Cond.methodLink (zcn 11) 352 (zy (zP 240)) ∈ zGW ∧ Cond.instanceMethod (zy (zP 240)) ∈ zGW ∧ Cond.selects (zy (zP 240)).cls (zy (zP 240)) (zy (zP 240)) ∈ zGW ∧ ∀ r : vw_C, zcl[zown (zP 240)]? = some r → r.1 = (zy (zP 240)).cls := ⟨zwd1859, zwd1861, zse_240, fun r hr => by cases hr; rfl⟩
theorem zse_241 : Cond.selects (zy (zP 241)).cls (zy (zP 241)) (zy (zP 241)) ∈ zGW := zse (zpr7 (i := 12) rfl)
theorem zvl11_355 : Cond.methodLink (zcn 11) 355 (zy (zP 241)) ∈ zGW ∧ Cond.instanceMethod (zy (zP 241)) ∈ zGW ∧ Cond.selects (zy (zP 241)).cls (zy (zP 241)) (zy (zP 241)) ∈ zGW ∧ ∀ r : vw_C, zcl[zown (zP 241)]? = some r → r.1 = (zy (zP 241)).cls := ⟨zwd1863, zwd1865, zse_241, fun r hr => by cases hr; rfl⟩
theorem zse_245 : Cond.selects (zy (zP 245)).cls (zy (zP 245)) (zy (zP 245)) ∈ zGW := zse (zpr7 (i := 13) rfl)
theorem zvl11_358 : Cond.methodLink (zcn 11) 358 (zy (zP 245)) ∈ zGW ∧ Cond.instanceMethod (zy (zP 245)) ∈ zGW ∧ Cond.selects (zy (zP 245)).cls (zy (zP 245)) (zy (zP 245)) ∈ zGW ∧ ∀ r : vw_C, zcl[zown (zP 245)]? = some r → r.1 = (zy (zP 245)).cls := ⟨zwd1867, zwd1869, zse_245, fun r hr => by cases hr; rfl⟩
theorem zse_246 : Cond.selects (zy (zP 246)).cls (zy (zP 246)) (zy (zP 246)) ∈ zGW := zse (zpr7 (i := 10) rfl)
theorem zvl11_362 : Cond.methodLink (zcn 11) 362 (zy (zP 246)) ∈ zGW ∧ Cond.instanceMethod (zy (zP 246)) ∈ zGW ∧ Cond.selects (zy (zP 246)).cls (zy (zP 246)) (zy (zP 246)) ∈ zGW ∧ ∀ r : vw_C, zcl[zown (zP 246)]? = some r → r.1 = (zy (zP 246)).cls := ⟨zwd1855, zwd1857, zse_246, fun r hr => by cases hr; rfl⟩
theorem zse_277 : Cond.selects (zy (zP 277)).cls (zy (zP 277)) (zy (zP 277)) ∈ zGW := zse (zpr7 (i := 14) rfl)
theorem zvl11_366 : Cond.methodLink (zcn 11) 366 (zy (zP 277)) ∈ zGW ∧ Cond.instanceMethod (zy (zP 277)) ∈ zGW ∧ Cond.selects (zy (zP 277)).cls (zy (zP 277)) (zy (zP 277)) ∈ zGW ∧ ∀ r : vw_C, zcl[zown (zP 277)]? = some r → r.1 = (zy (zP 277)).cls := ⟨zwd1883, zwd1885, zse_277, fun r hr => by cases hr; rfl⟩
theorem zse_278 : Cond.selects (zy (zP 278)).cls (zy (zP 278)) (zy (zP 278)) ∈ zGW := zse (zpr7 (i := 15) rfl)
theorem zvl11_369 : Cond.methodLink (zcn 11) 369 (zy (zP 278)) ∈ zGW ∧ Cond.instanceMethod (zy (zP 278)) ∈ zGW ∧ Cond.selects (zy (zP 278)).cls (zy (zP 278)) (zy (zP 278)) ∈ zGW ∧ ∀ r : vw_C, zcl[zown (zP 278)]? = some r → r.1 = (zy (zP 278)).cls := ⟨zwd1887, zwd1889, zse_278, fun r hr => by cases hr; rfl⟩
theorem zse_249 : Cond.selects (zy (zP 249)).cls (zy (zP 249)) (zy (zP 249)) ∈ zGW := zse (zpr8 (i := 1) rfl)
theorem zvl11_372 : Cond.methodLink (zcn 11) 372 (zy (zP 249)) ∈ zGW ∧ Cond.instanceMethod (zy (zP 249)) ∈ zGW ∧ Cond.selects (zy (zP 249)).cls (zy (zP 249)) (zy (zP 249)) ∈ zGW ∧ ∀ r : vw_C, zcl[zown (zP 249)]? = some r → r.1 = (zy (zP 249)).cls := ⟨zwd1903, zwd1905, zse_249, fun r hr => by cases hr; rfl⟩
theorem zse_260 : Cond.selects (zy (zP 260)).cls (zy (zP 260)) (zy (zP 260)) ∈ zGW := zse (zpr8 (i := 2) rfl)
theorem zvl11_378 : Cond.methodLink (zcn 11) 378 (zy (zP 260)) ∈ zGW ∧ Cond.instanceMethod (zy (zP 260)) ∈ zGW ∧ Cond.selects (zy (zP 260)).cls (zy (zP 260)) (zy (zP 260)) ∈ zGW ∧ ∀ r : vw_C, zcl[zown (zP 260)]? = some r → r.1 = (zy (zP 260)).cls := ⟨zwd1907, zwd1909, zse_260, fun r hr => by cases hr; rfl⟩
theorem zse_262 : Cond.selects (zy (zP 262)).cls (zy (zP 262)) (zy (zP 262)) ∈ zGW := zse (zpr8 (i := 3) rfl)
theorem zvl11_381 : Cond.methodLink (zcn 11) 381 (zy (zP 262)) ∈ zGW ∧ Cond.instanceMethod (zy (zP 262)) ∈ zGW ∧ Cond.selects (zy (zP 262)).cls (zy (zP 262)) (zy (zP 262)) ∈ zGW ∧ ∀ r : vw_C, zcl[zown (zP 262)]? = some r → r.1 = (zy (zP 262)).cls := ⟨zwd1911, zwd1913, zse_262, fun r hr => by cases hr; rfl⟩
theorem zse_261 : Cond.selects (zy (zP 261)).cls (zy (zP 261)) (zy (zP 261)) ∈ zGW := zse (zpr8 (i := 4) rfl)
theorem zvl11_384 : Cond.methodLink (zcn 11) 384 (zy (zP 261)) ∈ zGW ∧ Cond.instanceMethod (zy (zP 261)) ∈ zGW ∧ Cond.selects (zy (zP 261)).cls (zy (zP 261)) (zy (zP 261)) ∈ zGW ∧ ∀ r : vw_C, zcl[zown (zP 261)]? = some r → r.1 = (zy (zP 261)).cls := ⟨zwd1915, zwd1917, zse_261, fun r hr => by cases hr; rfl⟩
theorem zse_263 : Cond.selects (zy (zP 263)).cls (zy (zP 263)) (zy (zP 263)) ∈ zGW := zse (zpr8 (i := 0) rfl)
theorem zvl11_387 : Cond.methodLink (zcn 11) 387 (zy (zP 263)) ∈ zGW ∧ Cond.instanceMethod (zy (zP 263)) ∈ zGW ∧ Cond.selects (zy (zP 263)).cls (zy (zP 263)) (zy (zP 263)) ∈ zGW ∧ ∀ r : vw_C, zcl[zown (zP 263)]? = some r → r.1 = (zy (zP 263)).cls := ⟨zwd1899, zwd1901, zse_263, fun r hr => by cases hr; rfl⟩
theorem zse_234 : Cond.selects (zy (zP 234)).cls (zy (zP 234)) (zy (zP 234)) ∈ zGW := zse (zpr8 (i := 5) rfl)
theorem zvl11_390 : Cond.methodLink (zcn 11) 390 (zy (zP 234)) ∈ zGW ∧ Cond.instanceMethod (zy (zP 234)) ∈ zGW ∧ Cond.selects (zy (zP 234)).cls (zy (zP 234)) (zy (zP 234)) ∈ zGW ∧ ∀ r : vw_C, zcl[zown (zP 234)]? = some r → r.1 = (zy (zP 234)).cls := ⟨zwd1939, zwd1941, zse_234, fun r hr => by cases hr; rfl⟩
theorem zse_233 : Cond.selects (zy (zP 233)).cls (zy (zP 233)) (zy (zP 233)) ∈ zGW := zse (zpr8 (i := 6) rfl)
theorem zvl11_402 : Cond.methodLink (zcn 11) 402 (zy (zP 233)) ∈ zGW ∧ Cond.instanceMethod (zy (zP 233)) ∈ zGW ∧ Cond.selects (zy (zP 233)).cls (zy (zP 233)) (zy (zP 233)) ∈ zGW ∧ ∀ r : vw_C, zcl[zown (zP 233)]? = some r → r.1 = (zy (zP 233)).cls := ⟨zwd1943, zwd1945, zse_233, fun r hr => by cases hr; rfl⟩
theorem zse_258 : Cond.selects (zy (zP 258)).cls (zy (zP 258)) (zy (zP 258)) ∈ zGW := zse (zpr8 (i := 7) rfl)
theorem zvl11_414 : Cond.methodLink (zcn 11) 414 (zy (zP 258)) ∈ zGW ∧ Cond.instanceMethod (zy (zP 258)) ∈ zGW ∧ Cond.selects (zy (zP 258)).cls (zy (zP 258)) (zy (zP 258)) ∈ zGW ∧ ∀ r : vw_C, zcl[zown (zP 258)]? = some r → r.1 = (zy (zP 258)).cls := ⟨zwd1964, zwd1966, zse_258, fun r hr => by cases hr; rfl⟩
theorem zse_265 : Cond.selects (zy (zP 265)).cls (zy (zP 265)) (zy (zP 265)) ∈ zGW := zse (zpr8 (i := 9) rfl)
theorem zvl11_420 : Cond.methodLink (zcn 11) 420 (zy (zP 265)) ∈ zGW ∧ Cond.instanceMethod (zy (zP 265)) ∈ zGW ∧ Cond.selects (zy (zP 265)).cls (zy (zP 265)) (zy (zP 265)) ∈ zGW ∧ ∀ r : vw_C, zcl[zown (zP 265)]? = some r → r.1 = (zy (zP 265)).cls := ⟨zwd1980, zwd1982, zse_265, fun r hr => by cases hr; rfl⟩
theorem zse_266 : Cond.selects (zy (zP 266)).cls (zy (zP 266)) (zy (zP 266)) ∈ zGW := zse (zpr8 (i := 8) rfl)
theorem zvl11_424 : Cond.methodLink (zcn 11) 424 (zy (zP 266)) ∈ zGW ∧ Cond.instanceMethod (zy (zP 266)) ∈ zGW ∧ Cond.selects (zy (zP 266)).cls (zy (zP 266)) (zy (zP 266)) ∈ zGW ∧ ∀ r : vw_C, zcl[zown (zP 266)]? = some r → r.1 = (zy (zP 266)).cls := ⟨zwd1976, zwd1978, zse_266, fun r hr => by cases hr; rfl⟩
theorem zvl13_7 : Cond.methodLink (zcn 13) 7 (zy (zP 195)) ∈ zGW ∧ Cond.instanceMethod (zy (zP 195)) ∈ zGW ∧ Cond.selects (zy (zP 195)).cls (zy (zP 195)) (zy (zP 195)) ∈ zGW ∧ ∀ r : vw_C, zcl[zown (zP 195)]? = some r → r.1 = (zy (zP 195)).cls := ⟨zwd480, zwd481, zwd482, fun r hr => by cases hr; rfl⟩
theorem zvl13_15 : Cond.methodLink (zcn 13) 15 (zy (zP 164)) ∈ zGW ∧ Cond.instanceMethod (zy (zP 164)) ∈ zGW ∧ Cond.selects (zy (zP 164)).cls (zy (zP 164)) (zy (zP 164)) ∈ zGW ∧ ∀ r : vw_C, zcl[zown (zP 164)]? = some r → r.1 = (zy (zP 164)).cls := ⟨zwd744, zwd745, zwd746, fun r hr => by cases hr; rfl⟩
theorem zvl13_18 : Cond.methodLink (zcn 13) 18 (zy (zP 150)) ∈ zGW ∧ Cond.instanceMethod (zy (zP 150)) ∈ zGW ∧ Cond.selects (zy (zP 150)).cls (zy (zP 150)) (zy (zP 150)) ∈ zGW ∧ ∀ r : vw_C, zcl[zown (zP 150)]? = some r → r.1 = (zy (zP 150)).cls := ⟨zwd754, zwd755, zwd756, fun r hr => by cases hr; rfl⟩
theorem zvl13_24 : Cond.methodLink (zcn 13) 24 (zy (zP 201)) ∈ zGW ∧ Cond.instanceMethod (zy (zP 201)) ∈ zGW ∧ Cond.selects (zy (zP 201)).cls (zy (zP 201)) (zy (zP 201)) ∈ zGW ∧ ∀ r : vw_C, zcl[zown (zP 201)]? = some r → r.1 = (zy (zP 201)).cls := ⟨zwd789, zwd790, zwd791, fun r hr => by cases hr; rfl⟩
theorem zvl13_27 : Cond.methodLink (zcn 13) 27 (zy (zP 121)) ∈ zGW ∧ Cond.instanceMethod (zy (zP 121)) ∈ zGW ∧ Cond.selects (zy (zP 121)).cls (zy (zP 121)) (zy (zP 121)) ∈ zGW ∧ ∀ r : vw_C, zcl[zown (zP 121)]? = some r → r.1 = (zy (zP 121)).cls := ⟨zwd802, zwd803, zwd804, fun r hr => by cases hr; rfl⟩
theorem zvl13_31 : Cond.methodLink (zcn 13) 31 (zy (zP 142)) ∈ zGW ∧ Cond.instanceMethod (zy (zP 142)) ∈ zGW ∧ Cond.selects (zy (zP 142)).cls (zy (zP 142)) (zy (zP 142)) ∈ zGW ∧ ∀ r : vw_C, zcl[zown (zP 142)]? = some r → r.1 = (zy (zP 142)).cls := ⟨zwd839, zwd840, zwd841, fun r hr => by cases hr; rfl⟩
theorem zvl13_35 : Cond.methodLink (zcn 13) 35 (zy (zP 35)) ∈ zGW ∧ Cond.instanceMethod (zy (zP 35)) ∈ zGW ∧ Cond.selects (zy (zP 35)).cls (zy (zP 35)) (zy (zP 35)) ∈ zGW ∧ ∀ r : vw_C, zcl[zown (zP 35)]? = some r → r.1 = (zy (zP 35)).cls := ⟨zwd861, zwd862, zwd863, fun r hr => by cases hr; rfl⟩
theorem zvl13_38 : Cond.methodLink (zcn 13) 38 (zy (zP 37)) ∈ zGW ∧ Cond.instanceMethod (zy (zP 37)) ∈ zGW ∧ Cond.selects (zy (zP 37)).cls (zy (zP 37)) (zy (zP 37)) ∈ zGW ∧ ∀ r : vw_C, zcl[zown (zP 37)]? = some r → r.1 = (zy (zP 37)).cls := ⟨zwd868, zwd869, zwd870, fun r hr => by cases hr; rfl⟩
theorem zvl13_41 : Cond.methodLink (zcn 13) 41 (zy (zP 146)) ∈ zGW ∧ Cond.instanceMethod (zy (zP 146)) ∈ zGW ∧ Cond.selects (zy (zP 146)).cls (zy (zP 146)) (zy (zP 146)) ∈ zGW ∧ ∀ r : vw_C, zcl[zown (zP 146)]? = some r → r.1 = (zy (zP 146)).cls := ⟨zwd875, zwd876, zwd877, fun r hr => by cases hr; rfl⟩
theorem zvl13_45 : Cond.methodLink (zcn 13) 45 (zy (zP 131)) ∈ zGW ∧ Cond.instanceMethod (zy (zP 131)) ∈ zGW ∧ Cond.selects (zy (zP 131)).cls (zy (zP 131)) (zy (zP 131)) ∈ zGW ∧ ∀ r : vw_C, zcl[zown (zP 131)]? = some r → r.1 = (zy (zP 131)).cls := ⟨zwd883, zwd884, zwd885, fun r hr => by cases hr; rfl⟩
theorem zvl13_51 : Cond.methodLink (zcn 13) 51 (zy (zP 148)) ∈ zGW ∧ Cond.instanceMethod (zy (zP 148)) ∈ zGW ∧ Cond.selects (zy (zP 148)).cls (zy (zP 148)) (zy (zP 148)) ∈ zGW ∧ ∀ r : vw_C, zcl[zown (zP 148)]? = some r → r.1 = (zy (zP 148)).cls := ⟨zwd947, zwd948, zwd949, fun r hr => by cases hr; rfl⟩
theorem zvl13_55 : Cond.methodLink (zcn 13) 55 (zy (zP 129)) ∈ zGW ∧ Cond.instanceMethod (zy (zP 129)) ∈ zGW ∧ Cond.selects (zy (zP 129)).cls (zy (zP 129)) (zy (zP 129)) ∈ zGW ∧ ∀ r : vw_C, zcl[zown (zP 129)]? = some r → r.1 = (zy (zP 129)).cls := ⟨zwd958, zwd959, zwd960, fun r hr => by cases hr; rfl⟩
theorem zvl13_58 : Cond.methodLink (zcn 13) 58 (zy (zP 126)) ∈ zGW ∧ Cond.instanceMethod (zy (zP 126)) ∈ zGW ∧ Cond.selects (zy (zP 126)).cls (zy (zP 126)) (zy (zP 126)) ∈ zGW ∧ ∀ r : vw_C, zcl[zown (zP 126)]? = some r → r.1 = (zy (zP 126)).cls := ⟨zwd977, zwd978, zwd979, fun r hr => by cases hr; rfl⟩
theorem zvl13_61 : Cond.methodLink (zcn 13) 61 (zy (zP 162)) ∈ zGW ∧ Cond.instanceMethod (zy (zP 162)) ∈ zGW ∧ Cond.selects (zy (zP 162)).cls (zy (zP 162)) (zy (zP 162)) ∈ zGW ∧ ∀ r : vw_C, zcl[zown (zP 162)]? = some r → r.1 = (zy (zP 162)).cls := ⟨zwd993, zwd994, zwd995, fun r hr => by cases hr; rfl⟩
theorem zvl13_64 : Cond.methodLink (zcn 13) 64 (zy (zP 123)) ∈ zGW ∧ Cond.instanceMethod (zy (zP 123)) ∈ zGW ∧ Cond.selects (zy (zP 123)).cls (zy (zP 123)) (zy (zP 123)) ∈ zGW ∧ ∀ r : vw_C, zcl[zown (zP 123)]? = some r → r.1 = (zy (zP 123)).cls := ⟨zwd1001, zwd1002, zwd1003, fun r hr => by cases hr; rfl⟩
theorem zvl13_67 : Cond.methodLink (zcn 13) 67 (zy (zP 144)) ∈ zGW ∧ Cond.instanceMethod (zy (zP 144)) ∈ zGW ∧ Cond.selects (zy (zP 144)).cls (zy (zP 144)) (zy (zP 144)) ∈ zGW ∧ ∀ r : vw_C, zcl[zown (zP 144)]? = some r → r.1 = (zy (zP 144)).cls := ⟨zwd1012, zwd1013, zwd1014, fun r hr => by cases hr; rfl⟩
theorem zvl13_71 : Cond.methodLink (zcn 13) 71 (zy (zP 76)) ∈ zGW ∧ Cond.instanceMethod (zy (zP 76)) ∈ zGW ∧ Cond.selects (zy (zP 76)).cls (zy (zP 76)) (zy (zP 76)) ∈ zGW ∧ ∀ r : vw_C, zcl[zown (zP 76)]? = some r → r.1 = (zy (zP 76)).cls := ⟨zwd1019, zwd1020, zwd1021, fun r hr => by cases hr; rfl⟩
theorem zvl13_74 : Cond.methodLink (zcn 13) 74 (zy (zP 104)) ∈ zGW ∧ Cond.instanceMethod (zy (zP 104)) ∈ zGW ∧ Cond.selects (zy (zP 104)).cls (zy (zP 104)) (zy (zP 104)) ∈ zGW ∧ ∀ r : vw_C, zcl[zown (zP 104)]? = some r → r.1 = (zy (zP 104)).cls := ⟨zwd1037, zwd1038, zwd1039, fun r hr => by cases hr; rfl⟩
theorem zvl13_77 : Cond.methodLink (zcn 13) 77 (zy (zP 85)) ∈ zGW ∧ Cond.instanceMethod (zy (zP 85)) ∈ zGW ∧ Cond.selects (zy (zP 85)).cls (zy (zP 85)) (zy (zP 85)) ∈ zGW ∧ ∀ r : vw_C, zcl[zown (zP 85)]? = some r → r.1 = (zy (zP 85)).cls := ⟨zwd1066, zwd1067, zwd1068, fun r hr => by cases hr; rfl⟩
theorem zvl13_80 : Cond.methodLink (zcn 13) 80 (zy (zP 102)) ∈ zGW ∧ Cond.instanceMethod (zy (zP 102)) ∈ zGW ∧ Cond.selects (zy (zP 102)).cls (zy (zP 102)) (zy (zP 102)) ∈ zGW ∧ ∀ r : vw_C, zcl[zown (zP 102)]? = some r → r.1 = (zy (zP 102)).cls := ⟨zwd1077, zwd1078, zwd1079, fun r hr => by cases hr; rfl⟩
theorem zvl13_83 : Cond.methodLink (zcn 13) 83 (zy (zP 140)) ∈ zGW ∧ Cond.instanceMethod (zy (zP 140)) ∈ zGW ∧ Cond.selects (zy (zP 140)).cls (zy (zP 140)) (zy (zP 140)) ∈ zGW ∧ ∀ r : vw_C, zcl[zown (zP 140)]? = some r → r.1 = (zy (zP 140)).cls := ⟨zwd1098, zwd1099, zwd1100, fun r hr => by cases hr; rfl⟩
theorem zvl13_86 : Cond.methodLink (zcn 13) 86 (zy (zP 63)) ∈ zGW ∧ Cond.instanceMethod (zy (zP 63)) ∈ zGW ∧ Cond.selects (zy (zP 63)).cls (zy (zP 63)) (zy (zP 63)) ∈ zGW ∧ ∀ r : vw_C, zcl[zown (zP 63)]? = some r → r.1 = (zy (zP 63)).cls := ⟨zwd1153, zwd1154, zwd1155, fun r hr => by cases hr; rfl⟩
theorem zvl13_89 : Cond.methodLink (zcn 13) 89 (zy (zP 117)) ∈ zGW ∧ Cond.instanceMethod (zy (zP 117)) ∈ zGW ∧ Cond.selects (zy (zP 117)).cls (zy (zP 117)) (zy (zP 117)) ∈ zGW ∧ ∀ r : vw_C, zcl[zown (zP 117)]? = some r → r.1 = (zy (zP 117)).cls := ⟨zwd1171, zwd1172, zwd1173, fun r hr => by cases hr; rfl⟩
theorem zvl13_92 : Cond.methodLink (zcn 13) 92 (zy (zP 199)) ∈ zGW ∧ Cond.instanceMethod (zy (zP 199)) ∈ zGW ∧ Cond.selects (zy (zP 199)).cls (zy (zP 199)) (zy (zP 199)) ∈ zGW ∧ ∀ r : vw_C, zcl[zown (zP 199)]? = some r → r.1 = (zy (zP 199)).cls := ⟨zwd1219, zwd1220, zwd1221, fun r hr => by cases hr; rfl⟩
theorem zvl13_95 : Cond.methodLink (zcn 13) 95 (zy (zP 89)) ∈ zGW ∧ Cond.instanceMethod (zy (zP 89)) ∈ zGW ∧ Cond.selects (zy (zP 89)).cls (zy (zP 89)) (zy (zP 89)) ∈ zGW ∧ ∀ r : vw_C, zcl[zown (zP 89)]? = some r → r.1 = (zy (zP 89)).cls := ⟨zwd1235, zwd1236, zwd1237, fun r hr => by cases hr; rfl⟩
theorem zvl13_98 : Cond.methodLink (zcn 13) 98 (zy (zP 160)) ∈ zGW ∧ Cond.instanceMethod (zy (zP 160)) ∈ zGW ∧ Cond.selects (zy (zP 160)).cls (zy (zP 160)) (zy (zP 160)) ∈ zGW ∧ ∀ r : vw_C, zcl[zown (zP 160)]? = some r → r.1 = (zy (zP 160)).cls := ⟨zwd1246, zwd1247, zwd1248, fun r hr => by cases hr; rfl⟩
theorem zvl13_101 : Cond.methodLink (zcn 13) 101 (zy (zP 71)) ∈ zGW ∧ Cond.instanceMethod (zy (zP 71)) ∈ zGW ∧ Cond.selects (zy (zP 71)).cls (zy (zP 71)) (zy (zP 71)) ∈ zGW ∧ ∀ r : vw_C, zcl[zown (zP 71)]? = some r → r.1 = (zy (zP 71)).cls := ⟨zwd1257, zwd1258, zwd1259, fun r hr => by cases hr; rfl⟩
theorem zvl13_105 : Cond.methodLink (zcn 13) 105 (zy (zP 94)) ∈ zGW ∧ Cond.instanceMethod (zy (zP 94)) ∈ zGW ∧ Cond.selects (zy (zP 94)).cls (zy (zP 94)) (zy (zP 94)) ∈ zGW ∧ ∀ r : vw_C, zcl[zown (zP 94)]? = some r → r.1 = (zy (zP 94)).cls := ⟨zwd1290, zwd1291, zwd1292, fun r hr => by cases hr; rfl⟩
theorem zvl13_108 : Cond.methodLink (zcn 13) 108 (zy (zP 157)) ∈ zGW ∧ Cond.instanceMethod (zy (zP 157)) ∈ zGW ∧ Cond.selects (zy (zP 157)).cls (zy (zP 157)) (zy (zP 157)) ∈ zGW ∧ ∀ r : vw_C, zcl[zown (zP 157)]? = some r → r.1 = (zy (zP 157)).cls := ⟨zwd1306, zwd1307, zwd1308, fun r hr => by cases hr; rfl⟩
theorem zvl13_111 : Cond.methodLink (zcn 13) 111 (zy (zP 96)) ∈ zGW ∧ Cond.instanceMethod (zy (zP 96)) ∈ zGW ∧ Cond.selects (zy (zP 96)).cls (zy (zP 96)) (zy (zP 96)) ∈ zGW ∧ ∀ r : vw_C, zcl[zown (zP 96)]? = some r → r.1 = (zy (zP 96)).cls := ⟨zwd1334, zwd1335, zwd1336, fun r hr => by cases hr; rfl⟩
theorem zvl13_114 : Cond.methodLink (zcn 13) 114 (zy (zP 107)) ∈ zGW ∧ Cond.instanceMethod (zy (zP 107)) ∈ zGW ∧ Cond.selects (zy (zP 107)).cls (zy (zP 107)) (zy (zP 107)) ∈ zGW ∧ ∀ r : vw_C, zcl[zown (zP 107)]? = some r → r.1 = (zy (zP 107)).cls := ⟨zwd1341, zwd1342, zwd1343, fun r hr => by cases hr; rfl⟩
theorem zvl13_117 : Cond.methodLink (zcn 13) 117 (zy (zP 51)) ∈ zGW ∧ Cond.instanceMethod (zy (zP 51)) ∈ zGW ∧ Cond.selects (zy (zP 51)).cls (zy (zP 51)) (zy (zP 51)) ∈ zGW ∧ ∀ r : vw_C, zcl[zown (zP 51)]? = some r → r.1 = (zy (zP 51)).cls := ⟨zwd1354, zwd1355, zwd1356, fun r hr => by cases hr; rfl⟩
theorem zvl13_124 : Cond.methodLink (zcn 13) 124 (zy (zP 14)) ∈ zGW ∧ Cond.instanceMethod (zy (zP 14)) ∈ zGW ∧ Cond.selects (zy (zP 14)).cls (zy (zP 14)) (zy (zP 14)) ∈ zGW ∧ ∀ r : vw_C, zcl[zown (zP 14)]? = some r → r.1 = (zy (zP 14)).cls := ⟨zwd433, zwd434, zwd435, fun r hr => by cases hr; rfl⟩
theorem zvl13_128 : Cond.methodLink (zcn 13) 128 (zy (zP 255)) ∈ zGW ∧ Cond.instanceMethod (zy (zP 255)) ∈ zGW ∧ Cond.selects (zy (zP 255)).cls (zy (zP 255)) (zy (zP 255)) ∈ zGW ∧ ∀ r : vw_C, zcl[zown (zP 255)]? = some r → r.1 = (zy (zP 255)).cls := ⟨zwd1559, zwd1560, zwd1561, fun r hr => by cases hr; rfl⟩
theorem zvl13_134 : Cond.methodLink (zcn 13) 134 (zy (zP 311)) ∈ zGW ∧ Cond.instanceMethod (zy (zP 311)) ∈ zGW ∧ Cond.selects (zy (zP 311)).cls (zy (zP 311)) (zy (zP 311)) ∈ zGW ∧ ∀ r : vw_C, zcl[zown (zP 311)]? = some r → r.1 = (zy (zP 311)).cls := ⟨zwd1563, zwd1564, zwd1565, fun r hr => by cases hr; rfl⟩
theorem zvl13_135 : Cond.methodLink (zcn 13) 135 (zy (zP 287)) ∈ zGW ∧ Cond.instanceMethod (zy (zP 287)) ∈ zGW ∧ Cond.selects (zy (zP 287)).cls (zy (zP 287)) (zy (zP 287)) ∈ zGW ∧ ∀ r : vw_C, zcl[zown (zP 287)]? = some r → r.1 = (zy (zP 287)).cls := ⟨zwd1555, zwd1556, zwd1557, fun r hr => by cases hr; rfl⟩
theorem zvl13_139 : Cond.methodLink (zcn 13) 139 (zy (zP 12)) ∈ zGW ∧ Cond.instanceMethod (zy (zP 12)) ∈ zGW ∧ Cond.selects (zy (zP 12)).cls (zy (zP 12)) (zy (zP 12)) ∈ zGW ∧ ∀ r : vw_C, zcl[zown (zP 12)]? = some r → r.1 = (zy (zP 12)).cls := ⟨zwd441, zwd442, zwd443, fun r hr => by cases hr; rfl⟩
theorem zvl13_142 : Cond.methodLink (zcn 13) 142 (zy (zP 254)) ∈ zGW ∧ Cond.instanceMethod (zy (zP 254)) ∈ zGW ∧ Cond.selects (zy (zP 254)).cls (zy (zP 254)) (zy (zP 254)) ∈ zGW ∧ ∀ r : vw_C, zcl[zown (zP 254)]? = some r → r.1 = (zy (zP 254)).cls := ⟨zwd1682, zwd1683, zwd1684, fun r hr => by cases hr; rfl⟩
theorem zvl13_145 : Cond.methodLink (zcn 13) 145 (zy (zP 289)) ∈ zGW ∧ Cond.instanceMethod (zy (zP 289)) ∈ zGW ∧ Cond.selects (zy (zP 289)).cls (zy (zP 289)) (zy (zP 289)) ∈ zGW ∧ ∀ r : vw_C, zcl[zown (zP 289)]? = some r → r.1 = (zy (zP 289)).cls := ⟨zwd1686, zwd1687, zwd1688, fun r hr => by cases hr; rfl⟩
theorem zvl13_149 : Cond.methodLink (zcn 13) 149 (zy (zP 284)) ∈ zGW ∧ Cond.instanceMethod (zy (zP 284)) ∈ zGW ∧ Cond.selects (zy (zP 284)).cls (zy (zP 284)) (zy (zP 284)) ∈ zGW ∧ ∀ r : vw_C, zcl[zown (zP 284)]? = some r → r.1 = (zy (zP 284)).cls := ⟨zwd1690, zwd1691, zwd1692, fun r hr => by cases hr; rfl⟩
theorem zvl13_152 : Cond.methodLink (zcn 13) 152 (zy (zP 313)) ∈ zGW ∧ Cond.instanceMethod (zy (zP 313)) ∈ zGW ∧ Cond.selects (zy (zP 313)).cls (zy (zP 313)) (zy (zP 313)) ∈ zGW ∧ ∀ r : vw_C, zcl[zown (zP 313)]? = some r → r.1 = (zy (zP 313)).cls := ⟨zwd1698, zwd1699, zwd1700, fun r hr => by cases hr; rfl⟩
theorem zvl13_156 : Cond.methodLink (zcn 13) 156 (zy (zP 269)) ∈ zGW ∧ Cond.instanceMethod (zy (zP 269)) ∈ zGW ∧ Cond.selects (zy (zP 269)).cls (zy (zP 269)) (zy (zP 269)) ∈ zGW ∧ ∀ r : vw_C, zcl[zown (zP 269)]? = some r → r.1 = (zy (zP 269)).cls := ⟨zwd1702, zwd1703, zwd1704, fun r hr => by cases hr; rfl⟩
theorem zvl13_160 : Cond.methodLink (zcn 13) 160 (zy (zP 280)) ∈ zGW ∧ Cond.instanceMethod (zy (zP 280)) ∈ zGW ∧ Cond.selects (zy (zP 280)).cls (zy (zP 280)) (zy (zP 280)) ∈ zGW ∧ ∀ r : vw_C, zcl[zown (zP 280)]? = some r → r.1 = (zy (zP 280)).cls := ⟨zwd1718, zwd1719, zwd1720, fun r hr => by cases hr; rfl⟩
theorem zvl13_163 : Cond.methodLink (zcn 13) 163 (zy (zP 211)) ∈ zGW ∧ Cond.instanceMethod (zy (zP 211)) ∈ zGW ∧ Cond.selects (zy (zP 211)).cls (zy (zP 211)) (zy (zP 211)) ∈ zGW ∧ ∀ r : vw_C, zcl[zown (zP 211)]? = some r → r.1 = (zy (zP 211)).cls := ⟨zwd1734, zwd1735, zwd1736, fun r hr => by cases hr; rfl⟩
theorem zvl13_166 : Cond.methodLink (zcn 13) 166 (zy (zP 213)) ∈ zGW ∧ Cond.instanceMethod (zy (zP 213)) ∈ zGW ∧ Cond.selects (zy (zP 213)).cls (zy (zP 213)) (zy (zP 213)) ∈ zGW ∧ ∀ r : vw_C, zcl[zown (zP 213)]? = some r → r.1 = (zy (zP 213)).cls := ⟨zwd1738, zwd1739, zwd1740, fun r hr => by cases hr; rfl⟩
theorem zvl13_170 : Cond.methodLink (zcn 13) 170 (zy (zP 282)) ∈ zGW ∧ Cond.instanceMethod (zy (zP 282)) ∈ zGW ∧ Cond.selects (zy (zP 282)).cls (zy (zP 282)) (zy (zP 282)) ∈ zGW ∧ ∀ r : vw_C, zcl[zown (zP 282)]? = some r → r.1 = (zy (zP 282)).cls := ⟨zwd1742, zwd1743, zwd1744, fun r hr => by cases hr; rfl⟩
theorem zvl13_173 : Cond.methodLink (zcn 13) 173 (zy (zP 276)) ∈ zGW ∧ Cond.instanceMethod (zy (zP 276)) ∈ zGW ∧ Cond.selects (zy (zP 276)).cls (zy (zP 276)) (zy (zP 276)) ∈ zGW ∧ ∀ r : vw_C, zcl[zown (zP 276)]? = some r → r.1 = (zy (zP 276)).cls := ⟨zwd1746, zwd1747, zwd1748, fun r hr => by cases hr; rfl⟩
theorem zvl13_176 : Cond.methodLink (zcn 13) 176 (zy (zP 283)) ∈ zGW ∧ Cond.instanceMethod (zy (zP 283)) ∈ zGW ∧ Cond.selects (zy (zP 283)).cls (zy (zP 283)) (zy (zP 283)) ∈ zGW ∧ ∀ r : vw_C, zcl[zown (zP 283)]? = some r → r.1 = (zy (zP 283)).cls := ⟨zwd1783, zwd1784, zwd1785, fun r hr => by cases hr; rfl⟩
theorem zvl13_179 : Cond.methodLink (zcn 13) 179 (zy (zP 274)) ∈ zGW ∧ Cond.instanceMethod (zy (zP 274)) ∈ zGW ∧ Cond.selects (zy (zP 274)).cls (zy (zP 274)) (zy (zP 274)) ∈ zGW ∧ ∀ r : vw_C, zcl[zown (zP 274)]? = some r → r.1 = (zy (zP 274)).cls := ⟨zwd1791, zwd1792, zwd1793, fun r hr => by cases hr; rfl⟩
theorem zvl13_182 : Cond.methodLink (zcn 13) 182 (zy (zP 272)) ∈ zGW ∧ Cond.instanceMethod (zy (zP 272)) ∈ zGW ∧ Cond.selects (zy (zP 272)).cls (zy (zP 272)) (zy (zP 272)) ∈ zGW ∧ ∀ r : vw_C, zcl[zown (zP 272)]? = some r → r.1 = (zy (zP 272)).cls := ⟨zwd1807, zwd1808, zwd1809, fun r hr => by cases hr; rfl⟩
theorem zvl13_185 : Cond.methodLink (zcn 13) 185 (zy (zP 288)) ∈ zGW ∧ Cond.instanceMethod (zy (zP 288)) ∈ zGW ∧ Cond.selects (zy (zP 288)).cls (zy (zP 288)) (zy (zP 288)) ∈ zGW ∧ ∀ r : vw_C, zcl[zown (zP 288)]? = some r → r.1 = (zy (zP 288)).cls := ⟨zwd1815, zwd1816, zwd1817, fun r hr => by cases hr; rfl⟩
theorem zvl13_188 : Cond.methodLink (zcn 13) 188 (zy (zP 270)) ∈ zGW ∧ Cond.instanceMethod (zy (zP 270)) ∈ zGW ∧ Cond.selects (zy (zP 270)).cls (zy (zP 270)) (zy (zP 270)) ∈ zGW ∧ ∀ r : vw_C, zcl[zown (zP 270)]? = some r → r.1 = (zy (zP 270)).cls := ⟨zwd1819, zwd1820, zwd1821, fun r hr => by cases hr; rfl⟩
theorem zvl13_192 : Cond.methodLink (zcn 13) 192 (zy (zP 281)) ∈ zGW ∧ Cond.instanceMethod (zy (zP 281)) ∈ zGW ∧ Cond.selects (zy (zP 281)).cls (zy (zP 281)) (zy (zP 281)) ∈ zGW ∧ ∀ r : vw_C, zcl[zown (zP 281)]? = some r → r.1 = (zy (zP 281)).cls := ⟨zwd1827, zwd1828, zwd1829, fun r hr => by cases hr; rfl⟩
theorem zvl13_193 : Cond.methodLink (zcn 13) 193 (zy (zP 18)) ∈ zGW ∧ Cond.instanceMethod (zy (zP 18)) ∈ zGW ∧ Cond.selects (zy (zP 18)).cls (zy (zP 18)) (zy (zP 18)) ∈ zGW ∧ ∀ r : vw_C, zcl[zown (zP 18)]? = some r → r.1 = (zy (zP 18)).cls := ⟨zwd445, zwd446, zwd447, fun r hr => by cases hr; rfl⟩
theorem zvl13_196 : Cond.methodLink (zcn 13) 196 (zy (zP 268)) ∈ zGW ∧ Cond.instanceMethod (zy (zP 268)) ∈ zGW ∧ Cond.selects (zy (zP 268)).cls (zy (zP 268)) (zy (zP 268)) ∈ zGW ∧ ∀ r : vw_C, zcl[zown (zP 268)]? = some r → r.1 = (zy (zP 268)).cls := ⟨zwd1831, zwd1832, zwd1833, fun r hr => by cases hr; rfl⟩
theorem zvl13_199 : Cond.methodLink (zcn 13) 199 (zy (zP 239)) ∈ zGW ∧ Cond.instanceMethod (zy (zP 239)) ∈ zGW ∧ Cond.selects (zy (zP 239)).cls (zy (zP 239)) (zy (zP 239)) ∈ zGW ∧ ∀ r : vw_C, zcl[zown (zP 239)]? = some r → r.1 = (zy (zP 239)).cls := ⟨zwd1835, zwd1836, zwd1837, fun r hr => by cases hr; rfl⟩
theorem zvl13_202 : Cond.methodLink (zcn 13) 202 (zy (zP 256)) ∈ zGW ∧ Cond.instanceMethod (zy (zP 256)) ∈ zGW ∧ Cond.selects (zy (zP 256)).cls (zy (zP 256)) (zy (zP 256)) ∈ zGW ∧ ∀ r : vw_C, zcl[zown (zP 256)]? = some r → r.1 = (zy (zP 256)).cls := ⟨zwd1851, zwd1852, zwd1853, fun r hr => by cases hr; rfl⟩
theorem zvl13_205 : Cond.methodLink (zcn 13) 205 (zy (zP 247)) ∈ zGW ∧ Cond.instanceMethod (zy (zP 247)) ∈ zGW ∧ Cond.selects (zy (zP 247)).cls (zy (zP 247)) (zy (zP 247)) ∈ zGW ∧ ∀ r : vw_C, zcl[zown (zP 247)]? = some r → r.1 = (zy (zP 247)).cls := ⟨zwd1871, zwd1872, zwd1873, fun r hr => by cases hr; rfl⟩
theorem zvl13_208 : Cond.methodLink (zcn 13) 208 (zy (zP 253)) ∈ zGW ∧ Cond.instanceMethod (zy (zP 253)) ∈ zGW ∧ Cond.selects (zy (zP 253)).cls (zy (zP 253)) (zy (zP 253)) ∈ zGW ∧ ∀ r : vw_C, zcl[zown (zP 253)]? = some r → r.1 = (zy (zP 253)).cls := ⟨zwd1875, zwd1876, zwd1877, fun r hr => by cases hr; rfl⟩
theorem zvl13_211 : Cond.methodLink (zcn 13) 211 (zy (zP 279)) ∈ zGW ∧ Cond.instanceMethod (zy (zP 279)) ∈ zGW ∧ Cond.selects (zy (zP 279)).cls (zy (zP 279)) (zy (zP 279)) ∈ zGW ∧ ∀ r : vw_C, zcl[zown (zP 279)]? = some r → r.1 = (zy (zP 279)).cls := ⟨zwd1879, zwd1880, zwd1881, fun r hr => by cases hr; rfl⟩
theorem zvl13_214 : Cond.methodLink (zcn 13) 214 (zy (zP 232)) ∈ zGW ∧ Cond.instanceMethod (zy (zP 232)) ∈ zGW ∧ Cond.selects (zy (zP 232)).cls (zy (zP 232)) (zy (zP 232)) ∈ zGW ∧ ∀ r : vw_C, zcl[zown (zP 232)]? = some r → r.1 = (zy (zP 232)).cls := ⟨zwd1891, zwd1892, zwd1893, fun r hr => by cases hr; rfl⟩
theorem zvl13_217 : Cond.methodLink (zcn 13) 217 (zy (zP 264)) ∈ zGW ∧ Cond.instanceMethod (zy (zP 264)) ∈ zGW ∧ Cond.selects (zy (zP 264)).cls (zy (zP 264)) (zy (zP 264)) ∈ zGW ∧ ∀ r : vw_C, zcl[zown (zP 264)]? = some r → r.1 = (zy (zP 264)).cls := ⟨zwd1895, zwd1896, zwd1897, fun r hr => by cases hr; rfl⟩
theorem zvl13_220 : Cond.methodLink (zcn 13) 220 (zy (zP 312)) ∈ zGW ∧ Cond.instanceMethod (zy (zP 312)) ∈ zGW ∧ Cond.selects (zy (zP 312)).cls (zy (zP 312)) (zy (zP 312)) ∈ zGW ∧ ∀ r : vw_C, zcl[zown (zP 312)]? = some r → r.1 = (zy (zP 312)).cls := ⟨zwd1919, zwd1920, zwd1921, fun r hr => by cases hr; rfl⟩
theorem zvl13_223 : Cond.methodLink (zcn 13) 223 (zy (zP 250)) ∈ zGW ∧ Cond.instanceMethod (zy (zP 250)) ∈ zGW ∧ Cond.selects (zy (zP 250)).cls (zy (zP 250)) (zy (zP 250)) ∈ zGW ∧ ∀ r : vw_C, zcl[zown (zP 250)]? = some r → r.1 = (zy (zP 250)).cls := ⟨zwd1923, zwd1924, zwd1925, fun r hr => by cases hr; rfl⟩
theorem zvl13_226 : Cond.methodLink (zcn 13) 226 (zy (zP 286)) ∈ zGW ∧ Cond.instanceMethod (zy (zP 286)) ∈ zGW ∧ Cond.selects (zy (zP 286)).cls (zy (zP 286)) (zy (zP 286)) ∈ zGW ∧ ∀ r : vw_C, zcl[zown (zP 286)]? = some r → r.1 = (zy (zP 286)).cls := ⟨zwd1927, zwd1928, zwd1929, fun r hr => by cases hr; rfl⟩
theorem zvl13_227 : Cond.methodLink (zcn 13) 227 (zy (zP 15)) ∈ zGW ∧ Cond.instanceMethod (zy (zP 15)) ∈ zGW ∧ Cond.selects (zy (zP 15)).cls (zy (zP 15)) (zy (zP 15)) ∈ zGW ∧ ∀ r : vw_C, zcl[zown (zP 15)]? = some r → r.1 = (zy (zP 15)).cls := ⟨zwd449, zwd450, zwd451, fun r hr => by cases hr; rfl⟩
theorem zvl13_230 : Cond.methodLink (zcn 13) 230 (zy (zP 257)) ∈ zGW ∧ Cond.instanceMethod (zy (zP 257)) ∈ zGW ∧ Cond.selects (zy (zP 257)).cls (zy (zP 257)) (zy (zP 257)) ∈ zGW ∧ ∀ r : vw_C, zcl[zown (zP 257)]? = some r → r.1 = (zy (zP 257)).cls := ⟨zwd1931, zwd1932, zwd1933, fun r hr => by cases hr; rfl⟩
theorem zvl13_233 : Cond.methodLink (zcn 13) 233 (zy (zP 235)) ∈ zGW ∧ Cond.instanceMethod (zy (zP 235)) ∈ zGW ∧ Cond.selects (zy (zP 235)).cls (zy (zP 235)) (zy (zP 235)) ∈ zGW ∧ ∀ r : vw_C, zcl[zown (zP 235)]? = some r → r.1 = (zy (zP 235)).cls := ⟨zwd1935, zwd1936, zwd1937, fun r hr => by cases hr; rfl⟩
theorem zvl13_236 : Cond.methodLink (zcn 13) 236 (zy (zP 251)) ∈ zGW ∧ Cond.instanceMethod (zy (zP 251)) ∈ zGW ∧ Cond.selects (zy (zP 251)).cls (zy (zP 251)) (zy (zP 251)) ∈ zGW ∧ ∀ r : vw_C, zcl[zown (zP 251)]? = some r → r.1 = (zy (zP 251)).cls := ⟨zwd1952, zwd1953, zwd1954, fun r hr => by cases hr; rfl⟩
theorem zvl13_239 : Cond.methodLink (zcn 13) 239 (zy (zP 285)) ∈ zGW ∧ Cond.instanceMethod (zy (zP 285)) ∈ zGW ∧ Cond.selects (zy (zP 285)).cls (zy (zP 285)) (zy (zP 285)) ∈ zGW ∧ ∀ r : vw_C, zcl[zown (zP 285)]? = some r → r.1 = (zy (zP 285)).cls := ⟨zwd1948, zwd1949, zwd1950, fun r hr => by cases hr; rfl⟩
theorem zvl13_242 : Cond.methodLink (zcn 13) 242 (zy (zP 252)) ∈ zGW ∧ Cond.instanceMethod (zy (zP 252)) ∈ zGW ∧ Cond.selects (zy (zP 252)).cls (zy (zP 252)) (zy (zP 252)) ∈ zGW ∧ ∀ r : vw_C, zcl[zown (zP 252)]? = some r → r.1 = (zy (zP 252)).cls := ⟨zwd1956, zwd1957, zwd1958, fun r hr => by cases hr; rfl⟩
theorem zvl13_245 : Cond.methodLink (zcn 13) 245 (zy (zP 259)) ∈ zGW ∧ Cond.instanceMethod (zy (zP 259)) ∈ zGW ∧ Cond.selects (zy (zP 259)).cls (zy (zP 259)) (zy (zP 259)) ∈ zGW ∧ ∀ r : vw_C, zcl[zown (zP 259)]? = some r → r.1 = (zy (zP 259)).cls := ⟨zwd1960, zwd1961, zwd1962, fun r hr => by cases hr; rfl⟩
theorem zvl13_248 : Cond.methodLink (zcn 13) 248 (zy (zP 229)) ∈ zGW ∧ Cond.instanceMethod (zy (zP 229)) ∈ zGW ∧ Cond.selects (zy (zP 229)).cls (zy (zP 229)) (zy (zP 229)) ∈ zGW ∧ ∀ r : vw_C, zcl[zown (zP 229)]? = some r → r.1 = (zy (zP 229)).cls := ⟨zwd1968, zwd1969, zwd1970, fun r hr => by cases hr; rfl⟩
theorem zvl13_249 : Cond.methodLink (zcn 13) 249 (zy (zP 17)) ∈ zGW ∧ Cond.instanceMethod (zy (zP 17)) ∈ zGW ∧ Cond.selects (zy (zP 17)).cls (zy (zP 17)) (zy (zP 17)) ∈ zGW ∧ ∀ r : vw_C, zcl[zown (zP 17)]? = some r → r.1 = (zy (zP 17)).cls := ⟨zwd453, zwd454, zwd455, fun r hr => by cases hr; rfl⟩
theorem zvl13_252 : Cond.methodLink (zcn 13) 252 (zy (zP 267)) ∈ zGW ∧ Cond.instanceMethod (zy (zP 267)) ∈ zGW ∧ Cond.selects (zy (zP 267)).cls (zy (zP 267)) (zy (zP 267)) ∈ zGW ∧ ∀ r : vw_C, zcl[zown (zP 267)]? = some r → r.1 = (zy (zP 267)).cls := ⟨zwd1972, zwd1973, zwd1974, fun r hr => by cases hr; rfl⟩
theorem zvl13_253 : Cond.methodLink (zcn 13) 253 (zy (zP 20)) ∈ zGW ∧ Cond.instanceMethod (zy (zP 20)) ∈ zGW ∧ Cond.selects (zy (zP 20)).cls (zy (zP 20)) (zy (zP 20)) ∈ zGW ∧ ∀ r : vw_C, zcl[zown (zP 20)]? = some r → r.1 = (zy (zP 20)).cls := ⟨zwd464, zwd465, zwd466, fun r hr => by cases hr; rfl⟩
theorem zvl13_256 : Cond.methodLink (zcn 13) 256 (zy (zP 275)) ∈ zGW ∧ Cond.instanceMethod (zy (zP 275)) ∈ zGW ∧ Cond.selects (zy (zP 275)).cls (zy (zP 275)) (zy (zP 275)) ∈ zGW ∧ ∀ r : vw_C, zcl[zown (zP 275)]? = some r → r.1 = (zy (zP 275)).cls := ⟨zwd1984, zwd1985, zwd1986, fun r hr => by cases hr; rfl⟩
theorem zvl13_257 : Cond.methodLink (zcn 13) 257 (zy (zP 11)) ∈ zGW ∧ Cond.instanceMethod (zy (zP 11)) ∈ zGW ∧ Cond.selects (zy (zP 11)).cls (zy (zP 11)) (zy (zP 11)) ∈ zGW ∧ ∀ r : vw_C, zcl[zown (zP 11)]? = some r → r.1 = (zy (zP 11)).cls := ⟨zwd472, zwd473, zwd474, fun r hr => by cases hr; rfl⟩
theorem zvl13_260 : Cond.methodLink (zcn 13) 260 (zy (zP 248)) ∈ zGW ∧ Cond.instanceMethod (zy (zP 248)) ∈ zGW ∧ Cond.selects (zy (zP 248)).cls (zy (zP 248)) (zy (zP 248)) ∈ zGW ∧ ∀ r : vw_C, zcl[zown (zP 248)]? = some r → r.1 = (zy (zP 248)).cls := ⟨zwd1988, zwd1989, zwd1990, fun r hr => by cases hr; rfl⟩
def zVLb_0 : List (Nat × Nat × Nat) := [(0, 25, 25), (0, 37, 23), (0, 41, 24), (1, 53, 81), (1, 56, 82), (1, 69, 100), (1, 73, 78), (1, 76, 98), (1, 86, 44), (1, 92, 61), (1, 118, 32), (3, 34, 57), (3, 38, 137), (3, 42, 135), (3, 46, 56), (3, 50, 133), (3, 54, 134), (3, 58, 138), (3, 86, 58), (3, 89, 44), (3, 95, 61), (3, 99, 60), (3, 114, 136), (3, 118, 55), (4, 37, 189)]
theorem zVLb_0_ok : ∀ q ∈ zVLb_0, Cond.methodLink (zcn q.1) q.2.1 (zy (zP q.2.2)) ∈ zGW ∧ Cond.instanceMethod (zy (zP q.2.2)) ∈ zGW ∧ Cond.selects (zy (zP q.2.2)).cls (zy (zP q.2.2)) (zy (zP q.2.2)) ∈ zGW ∧ ∀ r : vw_C, zcl[zown (zP q.2.2)]? = some r → r.1 = (zy (zP q.2.2)).cls := List.forall_mem_cons.mpr ⟨zvl0_25, List.forall_mem_cons.mpr ⟨zvl0_37, List.forall_mem_cons.mpr ⟨zvl0_41, List.forall_mem_cons.mpr ⟨zvl1_53, List.forall_mem_cons.mpr ⟨zvl1_56, List.forall_mem_cons.mpr ⟨zvl1_69, List.forall_mem_cons.mpr ⟨zvl1_73, List.forall_mem_cons.mpr ⟨zvl1_76, List.forall_mem_cons.mpr ⟨zvl1_86, List.forall_mem_cons.mpr ⟨zvl1_92, List.forall_mem_cons.mpr ⟨zvl1_118, List.forall_mem_cons.mpr ⟨zvl3_34, List.forall_mem_cons.mpr ⟨zvl3_38, List.forall_mem_cons.mpr ⟨zvl3_42, List.forall_mem_cons.mpr ⟨zvl3_46, List.forall_mem_cons.mpr ⟨zvl3_50, List.forall_mem_cons.mpr ⟨zvl3_54, List.forall_mem_cons.mpr ⟨zvl3_58, List.forall_mem_cons.mpr ⟨zvl3_86, List.forall_mem_cons.mpr ⟨zvl3_89, List.forall_mem_cons.mpr ⟨zvl3_95, List.forall_mem_cons.mpr ⟨zvl3_99, List.forall_mem_cons.mpr ⟨zvl3_114, List.forall_mem_cons.mpr ⟨zvl3_118, List.forall_mem_cons.mpr ⟨zvl4_37, fun _ h => nomatch h⟩⟩⟩⟩⟩⟩⟩⟩⟩⟩⟩⟩⟩⟩⟩⟩⟩⟩⟩⟩⟩⟩⟩⟩⟩
def zVLb_1 : List (Nat × Nat × Nat) := [(4, 42, 170), (4, 45, 193), (4, 48, 187), (4, 52, 169), (4, 56, 171), (4, 60, 186), (4, 64, 185), (4, 67, 172), (4, 71, 178), (4, 75, 184), (4, 78, 179), (4, 81, 175), (4, 84, 182), (4, 94, 180), (4, 98, 174), (4, 101, 177), (4, 104, 176), (4, 111, 183), (4, 124, 33), (4, 134, 181), (4, 147, 168), (5, 40, 40), (5, 46, 43), (5, 69, 46), (5, 72, 45)]
theorem zVLb_1_ok : ∀ q ∈ zVLb_1, Cond.methodLink (zcn q.1) q.2.1 (zy (zP q.2.2)) ∈ zGW ∧ Cond.instanceMethod (zy (zP q.2.2)) ∈ zGW ∧ Cond.selects (zy (zP q.2.2)).cls (zy (zP q.2.2)) (zy (zP q.2.2)) ∈ zGW ∧ ∀ r : vw_C, zcl[zown (zP q.2.2)]? = some r → r.1 = (zy (zP q.2.2)).cls := List.forall_mem_cons.mpr ⟨zvl4_42, List.forall_mem_cons.mpr ⟨zvl4_45, List.forall_mem_cons.mpr ⟨zvl4_48, List.forall_mem_cons.mpr ⟨zvl4_52, List.forall_mem_cons.mpr ⟨zvl4_56, List.forall_mem_cons.mpr ⟨zvl4_60, List.forall_mem_cons.mpr ⟨zvl4_64, List.forall_mem_cons.mpr ⟨zvl4_67, List.forall_mem_cons.mpr ⟨zvl4_71, List.forall_mem_cons.mpr ⟨zvl4_75, List.forall_mem_cons.mpr ⟨zvl4_78, List.forall_mem_cons.mpr ⟨zvl4_81, List.forall_mem_cons.mpr ⟨zvl4_84, List.forall_mem_cons.mpr ⟨zvl4_94, List.forall_mem_cons.mpr ⟨zvl4_98, List.forall_mem_cons.mpr ⟨zvl4_101, List.forall_mem_cons.mpr ⟨zvl4_104, List.forall_mem_cons.mpr ⟨zvl4_111, List.forall_mem_cons.mpr ⟨zvl4_124, List.forall_mem_cons.mpr ⟨zvl4_134, List.forall_mem_cons.mpr ⟨zvl4_147, List.forall_mem_cons.mpr ⟨zvl5_40, List.forall_mem_cons.mpr ⟨zvl5_46, List.forall_mem_cons.mpr ⟨zvl5_69, List.forall_mem_cons.mpr ⟨zvl5_72, fun _ h => nomatch h⟩⟩⟩⟩⟩⟩⟩⟩⟩⟩⟩⟩⟩⟩⟩⟩⟩⟩⟩⟩⟩⟩⟩⟩⟩
def zVLb_2 : List (Nat × Nat × Nat) := [(7, 54, 69), (7, 58, 66), (7, 75, 70), (7, 79, 155), (7, 83, 153), (7, 86, 152), (7, 89, 154), (8, 92, 192), (8, 96, 190), (8, 99, 191), (9, 51, 44), (9, 57, 47), (9, 70, 109), (9, 74, 114), (9, 78, 113), (9, 84, 112), (9, 94, 110), (9, 98, 111), (9, 108, 48), (10, 93, 13), (10, 104, 194), (10, 146, 29), (10, 149, 39), (10, 162, 119), (10, 166, 120)]
theorem zVLb_2_ok : ∀ q ∈ zVLb_2, Cond.methodLink (zcn q.1) q.2.1 (zy (zP q.2.2)) ∈ zGW ∧ Cond.instanceMethod (zy (zP q.2.2)) ∈ zGW ∧ Cond.selects (zy (zP q.2.2)).cls (zy (zP q.2.2)) (zy (zP q.2.2)) ∈ zGW ∧ ∀ r : vw_C, zcl[zown (zP q.2.2)]? = some r → r.1 = (zy (zP q.2.2)).cls := List.forall_mem_cons.mpr ⟨zvl7_54, List.forall_mem_cons.mpr ⟨zvl7_58, List.forall_mem_cons.mpr ⟨zvl7_75, List.forall_mem_cons.mpr ⟨zvl7_79, List.forall_mem_cons.mpr ⟨zvl7_83, List.forall_mem_cons.mpr ⟨zvl7_86, List.forall_mem_cons.mpr ⟨zvl7_89, List.forall_mem_cons.mpr ⟨zvl8_92, List.forall_mem_cons.mpr ⟨zvl8_96, List.forall_mem_cons.mpr ⟨zvl8_99, List.forall_mem_cons.mpr ⟨zvl9_51, List.forall_mem_cons.mpr ⟨zvl9_57, List.forall_mem_cons.mpr ⟨zvl9_70, List.forall_mem_cons.mpr ⟨zvl9_74, List.forall_mem_cons.mpr ⟨zvl9_78, List.forall_mem_cons.mpr ⟨zvl9_84, List.forall_mem_cons.mpr ⟨zvl9_94, List.forall_mem_cons.mpr ⟨zvl9_98, List.forall_mem_cons.mpr ⟨zvl9_108, List.forall_mem_cons.mpr ⟨zvl10_93, List.forall_mem_cons.mpr ⟨zvl10_104, List.forall_mem_cons.mpr ⟨zvl10_146, List.forall_mem_cons.mpr ⟨zvl10_149, List.forall_mem_cons.mpr ⟨zvl10_162, List.forall_mem_cons.mpr ⟨zvl10_166, fun _ h => nomatch h⟩⟩⟩⟩⟩⟩⟩⟩⟩⟩⟩⟩⟩⟩⟩⟩⟩⟩⟩⟩⟩⟩⟩⟩⟩
def zVLb_3 : List (Nat × Nat × Nat) := [(10, 169, 191), (10, 173, 28), (10, 184, 34), (10, 188, 21), (10, 191, 30), (10, 195, 32), (10, 199, 53), (10, 202, 44), (10, 206, 61), (10, 210, 47), (10, 256, 27), (10, 263, 75), (10, 279, 83), (10, 288, 84), (10, 292, 101), (10, 295, 139), (10, 298, 62), (10, 304, 116), (10, 313, 109), (10, 317, 198), (10, 320, 197), (10, 323, 88), (10, 327, 87), (10, 330, 159), (10, 333, 70)]
theorem zVLb_3_ok : ∀ q ∈ zVLb_3, Cond.methodLink (zcn q.1) q.2.1 (zy (zP q.2.2)) ∈ zGW ∧ Cond.instanceMethod (zy (zP q.2.2)) ∈ zGW ∧ Cond.selects (zy (zP q.2.2)).cls (zy (zP q.2.2)) (zy (zP q.2.2)) ∈ zGW ∧ ∀ r : vw_C, zcl[zown (zP q.2.2)]? = some r → r.1 = (zy (zP q.2.2)).cls := List.forall_mem_cons.mpr ⟨zvl10_169, List.forall_mem_cons.mpr ⟨zvl10_173, List.forall_mem_cons.mpr ⟨zvl10_184, List.forall_mem_cons.mpr ⟨zvl10_188, List.forall_mem_cons.mpr ⟨zvl10_191, List.forall_mem_cons.mpr ⟨zvl10_195, List.forall_mem_cons.mpr ⟨zvl10_199, List.forall_mem_cons.mpr ⟨zvl10_202, List.forall_mem_cons.mpr ⟨zvl10_206, List.forall_mem_cons.mpr ⟨zvl10_210, List.forall_mem_cons.mpr ⟨zvl10_256, List.forall_mem_cons.mpr ⟨zvl10_263, List.forall_mem_cons.mpr ⟨zvl10_279, List.forall_mem_cons.mpr ⟨zvl10_288, List.forall_mem_cons.mpr ⟨zvl10_292, List.forall_mem_cons.mpr ⟨zvl10_295, List.forall_mem_cons.mpr ⟨zvl10_298, List.forall_mem_cons.mpr ⟨zvl10_304, List.forall_mem_cons.mpr ⟨zvl10_313, List.forall_mem_cons.mpr ⟨zvl10_317, List.forall_mem_cons.mpr ⟨zvl10_320, List.forall_mem_cons.mpr ⟨zvl10_323, List.forall_mem_cons.mpr ⟨zvl10_327, List.forall_mem_cons.mpr ⟨zvl10_330, List.forall_mem_cons.mpr ⟨zvl10_333, fun _ h => nomatch h⟩⟩⟩⟩⟩⟩⟩⟩⟩⟩⟩⟩⟩⟩⟩⟩⟩⟩⟩⟩⟩⟩⟩⟩⟩
def zVLb_4 : List (Nat × Nat × Nat) := [(10, 336, 65), (10, 343, 156), (10, 349, 106), (10, 353, 50), (10, 360, 16), (10, 364, 19), (10, 381, 115), (10, 384, 33), (11, 143, 290), (11, 153, 291), (11, 160, 292), (11, 169, 295), (11, 177, 296), (11, 181, 297), (11, 190, 307), (11, 193, 301), (11, 196, 305), (11, 199, 302), (11, 202, 306), (11, 206, 300), (11, 209, 304), (11, 212, 293), (11, 216, 299), (11, 220, 303), (11, 227, 207)]
theorem zVLb_4_ok : ∀ q ∈ zVLb_4, Cond.methodLink (zcn q.1) q.2.1 (zy (zP q.2.2)) ∈ zGW ∧ Cond.instanceMethod (zy (zP q.2.2)) ∈ zGW ∧ Cond.selects (zy (zP q.2.2)).cls (zy (zP q.2.2)) (zy (zP q.2.2)) ∈ zGW ∧ ∀ r : vw_C, zcl[zown (zP q.2.2)]? = some r → r.1 = (zy (zP q.2.2)).cls := List.forall_mem_cons.mpr ⟨zvl10_336, List.forall_mem_cons.mpr ⟨zvl10_343, List.forall_mem_cons.mpr ⟨zvl10_349, List.forall_mem_cons.mpr ⟨zvl10_353, List.forall_mem_cons.mpr ⟨zvl10_360, List.forall_mem_cons.mpr ⟨zvl10_364, List.forall_mem_cons.mpr ⟨zvl10_381, List.forall_mem_cons.mpr ⟨zvl10_384, List.forall_mem_cons.mpr ⟨zvl11_143, List.forall_mem_cons.mpr ⟨zvl11_153, List.forall_mem_cons.mpr ⟨zvl11_160, List.forall_mem_cons.mpr ⟨zvl11_169, List.forall_mem_cons.mpr ⟨zvl11_177, List.forall_mem_cons.mpr ⟨zvl11_181, List.forall_mem_cons.mpr ⟨zvl11_190, List.forall_mem_cons.mpr ⟨zvl11_193, List.forall_mem_cons.mpr ⟨zvl11_196, List.forall_mem_cons.mpr ⟨zvl11_199, List.forall_mem_cons.mpr ⟨zvl11_202, List.forall_mem_cons.mpr ⟨zvl11_206, List.forall_mem_cons.mpr ⟨zvl11_209, List.forall_mem_cons.mpr ⟨zvl11_212, List.forall_mem_cons.mpr ⟨zvl11_216, List.forall_mem_cons.mpr ⟨zvl11_220, List.forall_mem_cons.mpr ⟨zvl11_227, fun _ h => nomatch h⟩⟩⟩⟩⟩⟩⟩⟩⟩⟩⟩⟩⟩⟩⟩⟩⟩⟩⟩⟩⟩⟩⟩⟩⟩
def zVLb_5 : List (Nat × Nat × Nat) := [(11, 231, 308), (11, 247, 310), (11, 250, 216), (11, 253, 215), (11, 256, 217), (11, 262, 214), (11, 265, 218), (11, 268, 205), (11, 271, 219), (11, 275, 221), (11, 278, 220), (11, 281, 212), (11, 284, 206), (11, 287, 208), (11, 290, 210), (11, 295, 225), (11, 298, 224), (11, 301, 227), (11, 304, 223), (11, 307, 230), (11, 310, 222), (11, 313, 228), (11, 316, 226), (11, 319, 243), (11, 322, 242)]
theorem zVLb_5_ok : ∀ q ∈ zVLb_5, Cond.methodLink (zcn q.1) q.2.1 (zy (zP q.2.2)) ∈ zGW ∧ Cond.instanceMethod (zy (zP q.2.2)) ∈ zGW ∧ Cond.selects (zy (zP q.2.2)).cls (zy (zP q.2.2)) (zy (zP q.2.2)) ∈ zGW ∧ ∀ r : vw_C, zcl[zown (zP q.2.2)]? = some r → r.1 = (zy (zP q.2.2)).cls := List.forall_mem_cons.mpr ⟨zvl11_231, List.forall_mem_cons.mpr ⟨zvl11_247, List.forall_mem_cons.mpr ⟨zvl11_250, List.forall_mem_cons.mpr ⟨zvl11_253, List.forall_mem_cons.mpr ⟨zvl11_256, List.forall_mem_cons.mpr ⟨zvl11_262, List.forall_mem_cons.mpr ⟨zvl11_265, List.forall_mem_cons.mpr ⟨zvl11_268, List.forall_mem_cons.mpr ⟨zvl11_271, List.forall_mem_cons.mpr ⟨zvl11_275, List.forall_mem_cons.mpr ⟨zvl11_278, List.forall_mem_cons.mpr ⟨zvl11_281, List.forall_mem_cons.mpr ⟨zvl11_284, List.forall_mem_cons.mpr ⟨zvl11_287, List.forall_mem_cons.mpr ⟨zvl11_290, List.forall_mem_cons.mpr ⟨zvl11_295, List.forall_mem_cons.mpr ⟨zvl11_298, List.forall_mem_cons.mpr ⟨zvl11_301, List.forall_mem_cons.mpr ⟨zvl11_304, List.forall_mem_cons.mpr ⟨zvl11_307, List.forall_mem_cons.mpr ⟨zvl11_310, List.forall_mem_cons.mpr ⟨zvl11_313, List.forall_mem_cons.mpr ⟨zvl11_316, List.forall_mem_cons.mpr ⟨zvl11_319, List.forall_mem_cons.mpr ⟨zvl11_322, fun _ h => nomatch h⟩⟩⟩⟩⟩⟩⟩⟩⟩⟩⟩⟩⟩⟩⟩⟩⟩⟩⟩⟩⟩⟩⟩⟩⟩
def zVLb_6 : List (Nat × Nat × Nat) := [(11, 325, 273), (11, 328, 271), (11, 331, 244), (11, 337, 236), (11, 340, 237), (11, 343, 238), (11, 352, 240), (11, 355, 241), (11, 358, 245), (11, 362, 246), (11, 366, 277), (11, 369, 278), (11, 372, 249), (11, 378, 260), (11, 381, 262), (11, 384, 261), (11, 387, 263), (11, 390, 234), (11, 402, 233), (11, 414, 258), (11, 420, 265), (11, 424, 266), (13, 7, 195), (13, 15, 164), (13, 18, 150)]
theorem zVLb_6_ok : ∀ q ∈ zVLb_6, Cond.methodLink (zcn q.1) q.2.1 (zy (zP q.2.2)) ∈ zGW ∧ Cond.instanceMethod (zy (zP q.2.2)) ∈ zGW ∧ Cond.selects (zy (zP q.2.2)).cls (zy (zP q.2.2)) (zy (zP q.2.2)) ∈ zGW ∧ ∀ r : vw_C, zcl[zown (zP q.2.2)]? = some r → r.1 = (zy (zP q.2.2)).cls := List.forall_mem_cons.mpr ⟨zvl11_325, List.forall_mem_cons.mpr ⟨zvl11_328, List.forall_mem_cons.mpr ⟨zvl11_331, List.forall_mem_cons.mpr ⟨zvl11_337, List.forall_mem_cons.mpr ⟨zvl11_340, List.forall_mem_cons.mpr ⟨zvl11_343, List.forall_mem_cons.mpr ⟨zvl11_352, List.forall_mem_cons.mpr ⟨zvl11_355, List.forall_mem_cons.mpr ⟨zvl11_358, List.forall_mem_cons.mpr ⟨zvl11_362, List.forall_mem_cons.mpr ⟨zvl11_366, List.forall_mem_cons.mpr ⟨zvl11_369, List.forall_mem_cons.mpr ⟨zvl11_372, List.forall_mem_cons.mpr ⟨zvl11_378, List.forall_mem_cons.mpr ⟨zvl11_381, List.forall_mem_cons.mpr ⟨zvl11_384, List.forall_mem_cons.mpr ⟨zvl11_387, List.forall_mem_cons.mpr ⟨zvl11_390, List.forall_mem_cons.mpr ⟨zvl11_402, List.forall_mem_cons.mpr ⟨zvl11_414, List.forall_mem_cons.mpr ⟨zvl11_420, List.forall_mem_cons.mpr ⟨zvl11_424, List.forall_mem_cons.mpr ⟨zvl13_7, List.forall_mem_cons.mpr ⟨zvl13_15, List.forall_mem_cons.mpr ⟨zvl13_18, fun _ h => nomatch h⟩⟩⟩⟩⟩⟩⟩⟩⟩⟩⟩⟩⟩⟩⟩⟩⟩⟩⟩⟩⟩⟩⟩⟩⟩
def zVLb_7 : List (Nat × Nat × Nat) := [(13, 24, 201), (13, 27, 121), (13, 31, 142), (13, 35, 35), (13, 38, 37), (13, 41, 146), (13, 45, 131), (13, 51, 148), (13, 55, 129), (13, 58, 126), (13, 61, 162), (13, 64, 123), (13, 67, 144), (13, 71, 76), (13, 74, 104), (13, 77, 85), (13, 80, 102), (13, 83, 140), (13, 86, 63), (13, 89, 117), (13, 92, 199), (13, 95, 89), (13, 98, 160), (13, 101, 71), (13, 105, 94)]
theorem zVLb_7_ok : ∀ q ∈ zVLb_7, Cond.methodLink (zcn q.1) q.2.1 (zy (zP q.2.2)) ∈ zGW ∧ Cond.instanceMethod (zy (zP q.2.2)) ∈ zGW ∧ Cond.selects (zy (zP q.2.2)).cls (zy (zP q.2.2)) (zy (zP q.2.2)) ∈ zGW ∧ ∀ r : vw_C, zcl[zown (zP q.2.2)]? = some r → r.1 = (zy (zP q.2.2)).cls := List.forall_mem_cons.mpr ⟨zvl13_24, List.forall_mem_cons.mpr ⟨zvl13_27, List.forall_mem_cons.mpr ⟨zvl13_31, List.forall_mem_cons.mpr ⟨zvl13_35, List.forall_mem_cons.mpr ⟨zvl13_38, List.forall_mem_cons.mpr ⟨zvl13_41, List.forall_mem_cons.mpr ⟨zvl13_45, List.forall_mem_cons.mpr ⟨zvl13_51, List.forall_mem_cons.mpr ⟨zvl13_55, List.forall_mem_cons.mpr ⟨zvl13_58, List.forall_mem_cons.mpr ⟨zvl13_61, List.forall_mem_cons.mpr ⟨zvl13_64, List.forall_mem_cons.mpr ⟨zvl13_67, List.forall_mem_cons.mpr ⟨zvl13_71, List.forall_mem_cons.mpr ⟨zvl13_74, List.forall_mem_cons.mpr ⟨zvl13_77, List.forall_mem_cons.mpr ⟨zvl13_80, List.forall_mem_cons.mpr ⟨zvl13_83, List.forall_mem_cons.mpr ⟨zvl13_86, List.forall_mem_cons.mpr ⟨zvl13_89, List.forall_mem_cons.mpr ⟨zvl13_92, List.forall_mem_cons.mpr ⟨zvl13_95, List.forall_mem_cons.mpr ⟨zvl13_98, List.forall_mem_cons.mpr ⟨zvl13_101, List.forall_mem_cons.mpr ⟨zvl13_105, fun _ h => nomatch h⟩⟩⟩⟩⟩⟩⟩⟩⟩⟩⟩⟩⟩⟩⟩⟩⟩⟩⟩⟩⟩⟩⟩⟩⟩
def zVLb_8 : List (Nat × Nat × Nat) := [(13, 108, 157), (13, 111, 96), (13, 114, 107), (13, 117, 51), (13, 124, 14), (13, 128, 255), (13, 134, 311), (13, 135, 287), (13, 139, 12), (13, 142, 254), (13, 145, 289), (13, 149, 284), (13, 152, 313), (13, 156, 269), (13, 160, 280), (13, 163, 211), (13, 166, 213), (13, 170, 282), (13, 173, 276), (13, 176, 283), (13, 179, 274), (13, 182, 272), (13, 185, 288), (13, 188, 270), (13, 192, 281)]
theorem zVLb_8_ok : ∀ q ∈ zVLb_8, Cond.methodLink (zcn q.1) q.2.1 (zy (zP q.2.2)) ∈ zGW ∧ Cond.instanceMethod (zy (zP q.2.2)) ∈ zGW ∧ Cond.selects (zy (zP q.2.2)).cls (zy (zP q.2.2)) (zy (zP q.2.2)) ∈ zGW ∧ ∀ r : vw_C, zcl[zown (zP q.2.2)]? = some r → r.1 = (zy (zP q.2.2)).cls := List.forall_mem_cons.mpr ⟨zvl13_108, List.forall_mem_cons.mpr ⟨zvl13_111, List.forall_mem_cons.mpr ⟨zvl13_114, List.forall_mem_cons.mpr ⟨zvl13_117, List.forall_mem_cons.mpr ⟨zvl13_124, List.forall_mem_cons.mpr ⟨zvl13_128, List.forall_mem_cons.mpr ⟨zvl13_134, List.forall_mem_cons.mpr ⟨zvl13_135, List.forall_mem_cons.mpr ⟨zvl13_139, List.forall_mem_cons.mpr ⟨zvl13_142, List.forall_mem_cons.mpr ⟨zvl13_145, List.forall_mem_cons.mpr ⟨zvl13_149, List.forall_mem_cons.mpr ⟨zvl13_152, List.forall_mem_cons.mpr ⟨zvl13_156, List.forall_mem_cons.mpr ⟨zvl13_160, List.forall_mem_cons.mpr ⟨zvl13_163, List.forall_mem_cons.mpr ⟨zvl13_166, List.forall_mem_cons.mpr ⟨zvl13_170, List.forall_mem_cons.mpr ⟨zvl13_173, List.forall_mem_cons.mpr ⟨zvl13_176, List.forall_mem_cons.mpr ⟨zvl13_179, List.forall_mem_cons.mpr ⟨zvl13_182, List.forall_mem_cons.mpr ⟨zvl13_185, List.forall_mem_cons.mpr ⟨zvl13_188, List.forall_mem_cons.mpr ⟨zvl13_192, fun _ h => nomatch h⟩⟩⟩⟩⟩⟩⟩⟩⟩⟩⟩⟩⟩⟩⟩⟩⟩⟩⟩⟩⟩⟩⟩⟩⟩
def zVLb_9 : List (Nat × Nat × Nat) := [(13, 193, 18), (13, 196, 268), (13, 199, 239), (13, 202, 256), (13, 205, 247), (13, 208, 253), (13, 211, 279), (13, 214, 232), (13, 217, 264), (13, 220, 312), (13, 223, 250), (13, 226, 286), (13, 227, 15), (13, 230, 257), (13, 233, 235), (13, 236, 251), (13, 239, 285), (13, 242, 252), (13, 245, 259), (13, 248, 229), (13, 249, 17), (13, 252, 267), (13, 253, 20), (13, 256, 275), (13, 257, 11)]
theorem zVLb_9_ok : ∀ q ∈ zVLb_9, Cond.methodLink (zcn q.1) q.2.1 (zy (zP q.2.2)) ∈ zGW ∧ Cond.instanceMethod (zy (zP q.2.2)) ∈ zGW ∧ Cond.selects (zy (zP q.2.2)).cls (zy (zP q.2.2)) (zy (zP q.2.2)) ∈ zGW ∧ ∀ r : vw_C, zcl[zown (zP q.2.2)]? = some r → r.1 = (zy (zP q.2.2)).cls := List.forall_mem_cons.mpr ⟨zvl13_193, List.forall_mem_cons.mpr ⟨zvl13_196, List.forall_mem_cons.mpr ⟨zvl13_199, List.forall_mem_cons.mpr ⟨zvl13_202, List.forall_mem_cons.mpr ⟨zvl13_205, List.forall_mem_cons.mpr ⟨zvl13_208, List.forall_mem_cons.mpr ⟨zvl13_211, List.forall_mem_cons.mpr ⟨zvl13_214, List.forall_mem_cons.mpr ⟨zvl13_217, List.forall_mem_cons.mpr ⟨zvl13_220, List.forall_mem_cons.mpr ⟨zvl13_223, List.forall_mem_cons.mpr ⟨zvl13_226, List.forall_mem_cons.mpr ⟨zvl13_227, List.forall_mem_cons.mpr ⟨zvl13_230, List.forall_mem_cons.mpr ⟨zvl13_233, List.forall_mem_cons.mpr ⟨zvl13_236, List.forall_mem_cons.mpr ⟨zvl13_239, List.forall_mem_cons.mpr ⟨zvl13_242, List.forall_mem_cons.mpr ⟨zvl13_245, List.forall_mem_cons.mpr ⟨zvl13_248, List.forall_mem_cons.mpr ⟨zvl13_249, List.forall_mem_cons.mpr ⟨zvl13_252, List.forall_mem_cons.mpr ⟨zvl13_253, List.forall_mem_cons.mpr ⟨zvl13_256, List.forall_mem_cons.mpr ⟨zvl13_257, fun _ h => nomatch h⟩⟩⟩⟩⟩⟩⟩⟩⟩⟩⟩⟩⟩⟩⟩⟩⟩⟩⟩⟩⟩⟩⟩⟩⟩
def zVLb_10 : List (Nat × Nat × Nat) := [(13, 260, 248)]
theorem zVLb_10_ok : ∀ q ∈ zVLb_10, Cond.methodLink (zcn q.1) q.2.1 (zy (zP q.2.2)) ∈ zGW ∧ Cond.instanceMethod (zy (zP q.2.2)) ∈ zGW ∧ Cond.selects (zy (zP q.2.2)).cls (zy (zP q.2.2)) (zy (zP q.2.2)) ∈ zGW ∧ ∀ r : vw_C, zcl[zown (zP q.2.2)]? = some r → r.1 = (zy (zP q.2.2)).cls := List.forall_mem_cons.mpr ⟨zvl13_260, fun _ h => nomatch h⟩
def zVLb : List (Nat × Nat × Nat) := zVLb_0 ++ (zVLb_1 ++ (zVLb_2 ++ (zVLb_3 ++ (zVLb_4 ++ (zVLb_5 ++ (zVLb_6 ++ (zVLb_7 ++ (zVLb_8 ++ (zVLb_9 ++ (zVLb_10))))))))))
theorem zVLb_ok : ∀ q ∈ zVLb, Cond.methodLink (zcn q.1) q.2.1 (zy (zP q.2.2)) ∈ zGW ∧ Cond.instanceMethod (zy (zP q.2.2)) ∈ zGW ∧ Cond.selects (zy (zP q.2.2)).cls (zy (zP q.2.2)) (zy (zP q.2.2)) ∈ zGW ∧ ∀ r : vw_C, zcl[zown (zP q.2.2)]? = some r → r.1 = (zy (zP q.2.2)).cls := List.forall_mem_append.mpr ⟨zVLb_0_ok, List.forall_mem_append.mpr ⟨zVLb_1_ok, List.forall_mem_append.mpr ⟨zVLb_2_ok, List.forall_mem_append.mpr ⟨zVLb_3_ok, List.forall_mem_append.mpr ⟨zVLb_4_ok, List.forall_mem_append.mpr ⟨zVLb_5_ok, List.forall_mem_append.mpr ⟨zVLb_6_ok, List.forall_mem_append.mpr ⟨zVLb_7_ok, List.forall_mem_append.mpr ⟨zVLb_8_ok, List.forall_mem_append.mpr ⟨zVLb_9_ok, zVLb_10_ok⟩⟩⟩⟩⟩⟩⟩⟩⟩⟩
theorem zsl0_31 : (Cond.methodLink (zcn 0) 31 (zy (zP 26)) ∈ zGW ∨ ∃ host, Cond.methodLinkNest (zcn 0) 31 (zy (zP 26)) host ∈ zXW) ∧ Cond.static (zy (zP 26)) ∈ zGW := ⟨Or.inl zwd824, zwd557⟩
theorem zsl1_40 : (Cond.methodLink (zcn 1) 40 (zy (zP 73)) ∈ zGW ∨ ∃ host, Cond.methodLinkNest (zcn 1) 40 (zy (zP 73)) host ∈ zXW) ∧ Cond.static (zy (zP 73)) ∈ zGW := ⟨Or.inl zwd1027, zwd1028⟩
theorem zsl1_44 : (Cond.methodLink (zcn 1) 44 (zy (zP 74)) ∈ zGW ∨ ∃ host, Cond.methodLinkNest (zcn 1) 44 (zy (zP 74)) host ∈ zXW) ∧ Cond.static (zy (zP 74)) ∈ zGW := ⟨Or.inl zwd1031, zwd1032⟩
theorem zsl1_63 : (Cond.methodLink (zcn 1) 63 (zy (zP 99)) ∈ zGW ∨ ∃ host, Cond.methodLinkNest (zcn 1) 63 (zy (zP 99)) host ∈ zXW) ∧ Cond.static (zy (zP 99)) ∈ zGW := ⟨Or.inl zwd1085, zwd1006⟩
theorem zsl1_99 : (Cond.methodLink (zcn 1) 99 (zy (zP 80)) ∈ zGW ∨ ∃ host, Cond.methodLinkNest (zcn 1) 99 (zy (zP 80)) host ∈ zXW) ∧ Cond.static (zy (zP 80)) ∈ zGW := ⟨Or.inl zwd1058, zwd963⟩
theorem zsl1_109 : (Cond.methodLink (zcn 1) 109 (zy (zP 22)) ∈ zGW ∨ ∃ host, Cond.methodLinkNest (zcn 1) 109 (zy (zP 22)) host ∈ zXW) ∧ Cond.static (zy (zP 22)) ∈ zGW := ⟨Or.inr ⟨"RightTurns", zxw (zt5 (i := 97) rfl) rfl⟩, zwd590⟩
theorem zsl3_61 : (Cond.methodLink (zcn 3) 61 (zy (zP 26)) ∈ zGW ∨ ∃ host, Cond.methodLinkNest (zcn 3) 61 (zy (zP 26)) host ∈ zXW) ∧ Cond.static (zy (zP 26)) ∈ zGW := ⟨Or.inl zwd1141, zwd557⟩
theorem zsl3_76 : (Cond.methodLink (zcn 3) 76 (zy (zP 31)) ∈ zGW ∨ ∃ host, Cond.methodLinkNest (zcn 3) 76 (zy (zP 31)) host ∈ zXW) ∧ Cond.static (zy (zP 31)) ∈ zGW := ⟨Or.inr ⟨"RightTurns", zxw (zt5 (i := 158) rfl) rfl⟩, zwd575⟩
theorem zsl3_102 : (Cond.methodLink (zcn 3) 102 (zy (zP 59)) ∈ zGW ∨ ∃ host, Cond.methodLinkNest (zcn 3) 102 (zy (zP 59)) host ∈ zXW) ∧ Cond.static (zy (zP 59)) ∈ zGW := ⟨Or.inl zwd1167, zwd675⟩
theorem zsl3_121 : (Cond.methodLink (zcn 3) 121 (zy (zP 54)) ∈ zGW ∨ ∃ host, Cond.methodLinkNest (zcn 3) 121 (zy (zP 54)) host ∈ zXW) ∧ Cond.static (zy (zP 54)) ∈ zGW := ⟨Or.inl zwd1136, zwd988⟩
theorem zsl4_31 : (Cond.methodLink (zcn 4) 31 (zy (zP 26)) ∈ zGW ∨ ∃ host, Cond.methodLinkNest (zcn 4) 31 (zy (zP 26)) host ∈ zXW) ∧ Cond.static (zy (zP 26)) ∈ zGW := ⟨Or.inl zwd556, zwd557⟩
theorem zsl4_127 : (Cond.methodLink (zcn 4) 127 (zy (zP 22)) ∈ zGW ∨ ∃ host, Cond.methodLinkNest (zcn 4) 127 (zy (zP 22)) host ∈ zXW) ∧ Cond.static (zy (zP 22)) ∈ zGW := ⟨Or.inr ⟨"RightTurns", zxw (zt4 (i := 16) rfl) rfl⟩, zwd590⟩
theorem zsl4_137 : (Cond.methodLink (zcn 4) 137 (zy (zP 173)) ∈ zGW ∨ ∃ host, Cond.methodLinkNest (zcn 4) 137 (zy (zP 173)) host ∈ zXW) ∧ Cond.static (zy (zP 173)) ∈ zGW := ⟨Or.inl zwd692, zwd693⟩
theorem zsl4_140 : (Cond.methodLink (zcn 4) 140 (zy (zP 166)) ∈ zGW ∨ ∃ host, Cond.methodLinkNest (zcn 4) 140 (zy (zP 166)) host ∈ zXW) ∧ Cond.static (zy (zP 166)) ∈ zGW := ⟨Or.inl zwd601, zwd602⟩
theorem zsl4_143 : (Cond.methodLink (zcn 4) 143 (zy (zP 167)) ∈ zGW ∨ ∃ host, Cond.methodLinkNest (zcn 4) 143 (zy (zP 167)) host ∈ zXW) ∧ Cond.static (zy (zP 167)) ∈ zGW := ⟨Or.inl zwd604, zwd605⟩
theorem zsl5_32 : (Cond.methodLink (zcn 5) 32 (zy (zP 31)) ∈ zGW ∨ ∃ host, Cond.methodLinkNest (zcn 5) 32 (zy (zP 31)) host ∈ zXW) ∧ Cond.static (zy (zP 31)) ∈ zGW := ⟨Or.inr ⟨"RightTurns", zxw (zt4 (i := 191) rfl) rfl⟩, zwd575⟩
theorem zsl5_56 : (Cond.methodLink (zcn 5) 56 (zy (zP 42)) ∈ zGW ∨ ∃ host, Cond.methodLinkNest (zcn 5) 56 (zy (zP 42)) host ∈ zXW) ∧ Cond.static (zy (zP 42)) ∈ zGW := ⟨Or.inr ⟨"RightTurns", zxw (zt4 (i := 202) rfl) rfl⟩, zwd923⟩
theorem zsl5_60 : (Cond.methodLink (zcn 5) 60 (zy (zP 26)) ∈ zGW ∨ ∃ host, Cond.methodLinkNest (zcn 5) 60 (zy (zP 26)) host ∈ zXW) ∧ Cond.static (zy (zP 26)) ∈ zGW := ⟨Or.inl zwd931, zwd557⟩
theorem zsl6_31 : (Cond.methodLink (zcn 6) 31 (zy (zP 22)) ∈ zGW ∨ ∃ host, Cond.methodLinkNest (zcn 6) 31 (zy (zP 22)) host ∈ zXW) ∧ Cond.static (zy (zP 22)) ∈ zGW := ⟨Or.inr ⟨"RightTurns", zxw (zt4 (i := 109) rfl) rfl⟩, zwd590⟩
theorem zsl6_35 : (Cond.methodLink (zcn 6) 35 (zy (zP 31)) ∈ zGW ∨ ∃ host, Cond.methodLinkNest (zcn 6) 35 (zy (zP 31)) host ∈ zXW) ∧ Cond.static (zy (zP 31)) ∈ zGW := ⟨Or.inr ⟨"RightTurns", zxw (zt4 (i := 133) rfl) rfl⟩, zwd575⟩
theorem zsl7_33 : (Cond.methodLink (zcn 7) 33 (zy (zP 49)) ∈ zGW ∨ ∃ host, Cond.methodLinkNest (zcn 7) 33 (zy (zP 49)) host ∈ zXW) ∧ Cond.static (zy (zP 49)) ∈ zGW := ⟨Or.inl zwd1266, zwd1042⟩
theorem zsl7_50 : (Cond.methodLink (zcn 7) 50 (zy (zP 31)) ∈ zGW ∨ ∃ host, Cond.methodLinkNest (zcn 7) 50 (zy (zP 31)) host ∈ zXW) ∧ Cond.static (zy (zP 31)) ∈ zGW := ⟨Or.inr ⟨"RightTurns", zxw (zt6 (i := 67) rfl) rfl⟩, zwd575⟩
theorem zsl7_62 : (Cond.methodLink (zcn 7) 62 (zy (zP 68)) ∈ zGW ∨ ∃ host, Cond.methodLinkNest (zcn 7) 62 (zy (zP 68)) host ∈ zXW) ∧ Cond.static (zy (zP 68)) ∈ zGW := ⟨Or.inl zwd1272, zwd1273⟩
theorem zsl7_66 : (Cond.methodLink (zcn 7) 66 (zy (zP 67)) ∈ zGW ∨ ∃ host, Cond.methodLinkNest (zcn 7) 66 (zy (zP 67)) host ∈ zXW) ∧ Cond.static (zy (zP 67)) ∈ zGW := ⟨Or.inl zwd1275, zwd1276⟩
theorem zsl7_70 : (Cond.methodLink (zcn 7) 70 (zy (zP 26)) ∈ zGW ∨ ∃ host, Cond.methodLinkNest (zcn 7) 70 (zy (zP 26)) host ∈ zXW) ∧ Cond.static (zy (zP 26)) ∈ zGW := ⟨Or.inl zwd1282, zwd557⟩
theorem zsl8_72 : (Cond.methodLink (zcn 8) 72 (zy (zP 188)) ∈ zGW ∨ ∃ host, Cond.methodLinkNest (zcn 8) 72 (zy (zP 188)) host ∈ zXW) ∧ Cond.static (zy (zP 188)) ∈ zGW := ⟨Or.inl zwd563, zwd564⟩
theorem zsl8_78 : (Cond.methodLink (zcn 8) 78 (zy (zP 59)) ∈ zGW ∨ ∃ host, Cond.methodLinkNest (zcn 8) 78 (zy (zP 59)) host ∈ zXW) ∧ Cond.static (zy (zP 59)) ∈ zGW := ⟨Or.inl zwd674, zwd675⟩
theorem zsl8_84 : (Cond.methodLink (zcn 8) 84 (zy (zP 22)) ∈ zGW ∨ ∃ host, Cond.methodLinkNest (zcn 8) 84 (zy (zP 22)) host ∈ zXW) ∧ Cond.static (zy (zP 22)) ∈ zGW := ⟨Or.inr ⟨"RightTurns", zxw (zt3 (i := 109) rfl) rfl⟩, zwd590⟩
theorem zsl8_88 : (Cond.methodLink (zcn 8) 88 (zy (zP 31)) ∈ zGW ∨ ∃ host, Cond.methodLinkNest (zcn 8) 88 (zy (zP 31)) host ∈ zXW) ∧ Cond.static (zy (zP 31)) ∈ zGW := ⟨Or.inr ⟨"RightTurns", zxw (zt3 (i := 94) rfl) rfl⟩, zwd575⟩
theorem zsl9_88 : (Cond.methodLink (zcn 9) 88 (zy (zP 49)) ∈ zGW ∨ ∃ host, Cond.methodLinkNest (zcn 9) 88 (zy (zP 49)) host ∈ zXW) ∧ Cond.static (zy (zP 49)) ∈ zGW := ⟨Or.inl zwd1207, zwd1042⟩
theorem zsl10_132 : (Cond.methodLink (zcn 10) 132 (zy (zP 59)) ∈ zGW ∨ ∃ host, Cond.methodLinkNest (zcn 10) 132 (zy (zP 59)) host ∈ zXW) ∧ Cond.static (zy (zP 59)) ∈ zGW := ⟨Or.inl zwd748, zwd675⟩
theorem zsl10_180 : (Cond.methodLink (zcn 10) 180 (zy (zP 31)) ∈ zGW ∨ ∃ host, Cond.methodLinkNest (zcn 10) 180 (zy (zP 31)) host ∈ zXW) ∧ Cond.static (zy (zP 31)) ∈ zGW := ⟨Or.inl zwd835, zwd575⟩
theorem zsl10_217 : (Cond.methodLink (zcn 10) 217 (zy (zP 80)) ∈ zGW ∨ ∃ host, Cond.methodLinkNest (zcn 10) 217 (zy (zP 80)) host ∈ zXW) ∧ Cond.static (zy (zP 80)) ∈ zGW := ⟨Or.inl zwd962, zwd963⟩
theorem zsl10_222 : (Cond.methodLink (zcn 10) 222 (zy (zP 128)) ∈ zGW ∨ ∃ host, Cond.methodLinkNest (zcn 10) 222 (zy (zP 128)) host ∈ zXW) ∧ Cond.static (zy (zP 128)) ∈ zGW := ⟨Or.inl zwd970, zwd971⟩
theorem zsl10_229 : (Cond.methodLink (zcn 10) 229 (zy (zP 42)) ∈ zGW ∨ ∃ host, Cond.methodLinkNest (zcn 10) 229 (zy (zP 42)) host ∈ zXW) ∧ Cond.static (zy (zP 42)) ∈ zGW := ⟨Or.inl zwd981, zwd923⟩
theorem zsl10_233 : (Cond.methodLink (zcn 10) 233 (zy (zP 125)) ∈ zGW ∨ ∃ host, Cond.methodLinkNest (zcn 10) 233 (zy (zP 125)) host ∈ zXW) ∧ Cond.static (zy (zP 125)) ∈ zGW := ⟨Or.inl zwd982, zwd983⟩
theorem zsl10_239 : (Cond.methodLink (zcn 10) 239 (zy (zP 41)) ∈ zGW ∨ ∃ host, Cond.methodLinkNest (zcn 10) 239 (zy (zP 41)) host ∈ zXW) ∧ Cond.static (zy (zP 41)) ∈ zGW := ⟨Or.inl zwd925, zwd926⟩
theorem zsl10_243 : (Cond.methodLink (zcn 10) 243 (zy (zP 54)) ∈ zGW ∨ ∃ host, Cond.methodLinkNest (zcn 10) 243 (zy (zP 54)) host ∈ zXW) ∧ Cond.static (zy (zP 54)) ∈ zGW := ⟨Or.inl zwd987, zwd988⟩
theorem zsl10_248 : (Cond.methodLink (zcn 10) 248 (zy (zP 79)) ∈ zGW ∨ ∃ host, Cond.methodLinkNest (zcn 10) 248 (zy (zP 79)) host ∈ zXW) ∧ Cond.static (zy (zP 79)) ∈ zGW := ⟨Or.inl zwd997, zwd966⟩
theorem zsl10_252 : (Cond.methodLink (zcn 10) 252 (zy (zP 99)) ∈ zGW ∨ ∃ host, Cond.methodLinkNest (zcn 10) 252 (zy (zP 99)) host ∈ zXW) ∧ Cond.static (zy (zP 99)) ∈ zGW := ⟨Or.inl zwd1005, zwd1006⟩
theorem zsl10_273 : (Cond.methodLink (zcn 10) 273 (zy (zP 49)) ∈ zGW ∨ ∃ host, Cond.methodLinkNest (zcn 10) 273 (zy (zP 49)) host ∈ zXW) ∧ Cond.static (zy (zP 49)) ∈ zGW := ⟨Or.inl zwd1041, zwd1042⟩
theorem zsl10_340 : (Cond.methodLink (zcn 10) 340 (zy (zP 93)) ∈ zGW ∨ ∃ host, Cond.methodLinkNest (zcn 10) 340 (zy (zP 93)) host ∈ zXW) ∧ Cond.static (zy (zP 93)) ∈ zGW := ⟨Or.inl zwd1294, zwd1295⟩
theorem zsl11_156 : (Cond.methodLink (zcn 11) 156 (zy (zP 298)) ∈ zGW ∨ ∃ host, Cond.methodLinkNest (zcn 11) 156 (zy (zP 298)) host ∈ zXW) ∧ Cond.static (zy (zP 298)) ∈ zGW := ⟨Or.inl zwd1620, zwd1621⟩
theorem zsl11_165 : (Cond.methodLink (zcn 11) 165 (zy (zP 204)) ∈ zGW ∨ ∃ host, Cond.methodLinkNest (zcn 11) 165 (zy (zP 204)) host ∈ zXW) ∧ Cond.static (zy (zP 204)) ∈ zGW := ⟨Or.inl zwd1567, zwd1568⟩
theorem zsl11_173 : (Cond.methodLink (zcn 11) 173 (zy (zP 294)) ∈ zGW ∨ ∃ host, Cond.methodLinkNest (zcn 11) 173 (zy (zP 294)) host ∈ zXW) ∧ Cond.static (zy (zP 294)) ∈ zGW := ⟨Or.inl zwd1598, zwd1599⟩
theorem zsl11_187 : (Cond.methodLink (zcn 11) 187 (zy (zP 231)) ∈ zGW ∨ ∃ host, Cond.methodLinkNest (zcn 11) 187 (zy (zP 231)) host ∈ zXW) ∧ Cond.static (zy (zP 231)) ∈ zGW := ⟨Or.inl zwd1605, zwd1606⟩
theorem zsl11_223 : (Cond.methodLink (zcn 11) 223 (zy (zP 209)) ∈ zGW ∨ ∃ host, Cond.methodLinkNest (zcn 11) 223 (zy (zP 209)) host ∈ zXW) ∧ Cond.static (zy (zP 209)) ∈ zGW := ⟨Or.inl zwd1640, zwd1641⟩
theorem zsl11_234 : (Cond.methodLink (zcn 11) 234 (zy (zP 309)) ∈ zGW ∨ ∃ host, Cond.methodLinkNest (zcn 11) 234 (zy (zP 309)) host ∈ zXW) ∧ Cond.static (zy (zP 309)) ∈ zGW := ⟨Or.inl zwd1655, zwd1656⟩
theorem zsl12_9 : (Cond.methodLink (zcn 12) 9 (zy (zP 42)) ∈ zGW ∨ ∃ host, Cond.methodLinkNest (zcn 12) 9 (zy (zP 42)) host ∈ zXW) ∧ Cond.static (zy (zP 42)) ∈ zGW := ⟨Or.inr ⟨"RightTurns", zxw (zt5 (i := 8) rfl) rfl⟩, zwd923⟩
theorem zsl12_21 : (Cond.methodLink (zcn 12) 21 (zy (zP 79)) ∈ zGW ∨ ∃ host, Cond.methodLinkNest (zcn 12) 21 (zy (zP 79)) host ∈ zXW) ∧ Cond.static (zy (zP 79)) ∈ zGW := ⟨Or.inl zwd965, zwd966⟩
theorem zsl12_34 : (Cond.methodLink (zcn 12) 34 (zy (zP 80)) ∈ zGW ∨ ∃ host, Cond.methodLinkNest (zcn 12) 34 (zy (zP 80)) host ∈ zXW) ∧ Cond.static (zy (zP 80)) ∈ zGW := ⟨Or.inl zwd973, zwd963⟩
theorem zsl12_41 : (Cond.methodLink (zcn 12) 41 (zy (zP 31)) ∈ zGW ∨ ∃ host, Cond.methodLinkNest (zcn 12) 41 (zy (zP 31)) host ∈ zXW) ∧ Cond.static (zy (zP 31)) ∈ zGW := ⟨Or.inr ⟨"RightTurns", zxw (zt5 (i := 25) rfl) rfl⟩, zwd575⟩
theorem zsl12_45 : (Cond.methodLink (zcn 12) 45 (zy (zP 59)) ∈ zGW ∨ ∃ host, Cond.methodLinkNest (zcn 12) 45 (zy (zP 59)) host ∈ zXW) ∧ Cond.static (zy (zP 59)) ∈ zGW := ⟨Or.inl zwd1008, zwd675⟩
theorem zsl12_51 : (Cond.methodLink (zcn 12) 51 (zy (zP 91)) ∈ zGW ∨ ∃ host, Cond.methodLinkNest (zcn 12) 51 (zy (zP 91)) host ∈ zXW) ∧ Cond.static (zy (zP 91)) ∈ zGW := ⟨Or.inl zwd1297, zwd1298⟩
theorem zsl12_54 : (Cond.methodLink (zcn 12) 54 (zy (zP 92)) ∈ zGW ∨ ∃ host, Cond.methodLinkNest (zcn 12) 54 (zy (zP 92)) host ∈ zXW) ∧ Cond.static (zy (zP 92)) ∈ zGW := ⟨Or.inl zwd1300, zwd1301⟩
theorem zsl13_129 : (Cond.methodLink (zcn 13) 129 (zy (zP 196)) ∈ zGW ∨ ∃ host, Cond.methodLinkNest (zcn 13) 129 (zy (zP 196)) host ∈ zXW) ∧ Cond.static (zy (zP 196)) ∈ zGW := ⟨Or.inl zwd476, zwd477⟩
theorem zsl13_143 : (Cond.methodLink (zcn 13) 143 (zy (zP 165)) ∈ zGW ∨ ∃ host, Cond.methodLinkNest (zcn 13) 143 (zy (zP 165)) host ∈ zXW) ∧ Cond.static (zy (zP 165)) ∈ zGW := ⟨Or.inl zwd741, zwd742⟩
theorem zsl13_146 : (Cond.methodLink (zcn 13) 146 (zy (zP 151)) ∈ zGW ∨ ∃ host, Cond.methodLinkNest (zcn 13) 146 (zy (zP 151)) host ∈ zXW) ∧ Cond.static (zy (zP 151)) ∈ zGW := ⟨Or.inl zwd750, zwd751⟩
theorem zsl13_150 : (Cond.methodLink (zcn 13) 150 (zy (zP 202)) ∈ zGW ∨ ∃ host, Cond.methodLinkNest (zcn 13) 150 (zy (zP 202)) host ∈ zXW) ∧ Cond.static (zy (zP 202)) ∈ zGW := ⟨Or.inl zwd786, zwd787⟩
theorem zsl13_153 : (Cond.methodLink (zcn 13) 153 (zy (zP 122)) ∈ zGW ∨ ∃ host, Cond.methodLinkNest (zcn 13) 153 (zy (zP 122)) host ∈ zXW) ∧ Cond.static (zy (zP 122)) ∈ zGW := ⟨Or.inl zwd799, zwd800⟩
theorem zsl13_157 : (Cond.methodLink (zcn 13) 157 (zy (zP 143)) ∈ zGW ∨ ∃ host, Cond.methodLinkNest (zcn 13) 157 (zy (zP 143)) host ∈ zXW) ∧ Cond.static (zy (zP 143)) ∈ zGW := ⟨Or.inl zwd836, zwd837⟩
theorem zsl13_161 : (Cond.methodLink (zcn 13) 161 (zy (zP 36)) ∈ zGW ∨ ∃ host, Cond.methodLinkNest (zcn 13) 161 (zy (zP 36)) host ∈ zXW) ∧ Cond.static (zy (zP 36)) ∈ zGW := ⟨Or.inl zwd858, zwd859⟩
theorem zsl13_164 : (Cond.methodLink (zcn 13) 164 (zy (zP 38)) ∈ zGW ∨ ∃ host, Cond.methodLinkNest (zcn 13) 164 (zy (zP 38)) host ∈ zXW) ∧ Cond.static (zy (zP 38)) ∈ zGW := ⟨Or.inl zwd865, zwd866⟩
theorem zsl13_167 : (Cond.methodLink (zcn 13) 167 (zy (zP 147)) ∈ zGW ∨ ∃ host, Cond.methodLinkNest (zcn 13) 167 (zy (zP 147)) host ∈ zXW) ∧ Cond.static (zy (zP 147)) ∈ zGW := ⟨Or.inl zwd872, zwd873⟩
theorem zsl13_171 : (Cond.methodLink (zcn 13) 171 (zy (zP 132)) ∈ zGW ∨ ∃ host, Cond.methodLinkNest (zcn 13) 171 (zy (zP 132)) host ∈ zXW) ∧ Cond.static (zy (zP 132)) ∈ zGW := ⟨Or.inl zwd879, zwd880⟩
theorem zsl13_174 : (Cond.methodLink (zcn 13) 174 (zy (zP 149)) ∈ zGW ∨ ∃ host, Cond.methodLinkNest (zcn 13) 174 (zy (zP 149)) host ∈ zXW) ∧ Cond.static (zy (zP 149)) ∈ zGW := ⟨Or.inl zwd944, zwd945⟩
theorem zsl13_177 : (Cond.methodLink (zcn 13) 177 (zy (zP 130)) ∈ zGW ∨ ∃ host, Cond.methodLinkNest (zcn 13) 177 (zy (zP 130)) host ∈ zXW) ∧ Cond.static (zy (zP 130)) ∈ zGW := ⟨Or.inl zwd955, zwd956⟩
theorem zsl13_180 : (Cond.methodLink (zcn 13) 180 (zy (zP 127)) ∈ zGW ∨ ∃ host, Cond.methodLinkNest (zcn 13) 180 (zy (zP 127)) host ∈ zXW) ∧ Cond.static (zy (zP 127)) ∈ zGW := ⟨Or.inl zwd974, zwd975⟩
theorem zsl13_183 : (Cond.methodLink (zcn 13) 183 (zy (zP 163)) ∈ zGW ∨ ∃ host, Cond.methodLinkNest (zcn 13) 183 (zy (zP 163)) host ∈ zXW) ∧ Cond.static (zy (zP 163)) ∈ zGW := ⟨Or.inl zwd990, zwd991⟩
theorem zsl13_186 : (Cond.methodLink (zcn 13) 186 (zy (zP 124)) ∈ zGW ∨ ∃ host, Cond.methodLinkNest (zcn 13) 186 (zy (zP 124)) host ∈ zXW) ∧ Cond.static (zy (zP 124)) ∈ zGW := ⟨Or.inl zwd998, zwd999⟩
theorem zsl13_189 : (Cond.methodLink (zcn 13) 189 (zy (zP 145)) ∈ zGW ∨ ∃ host, Cond.methodLinkNest (zcn 13) 189 (zy (zP 145)) host ∈ zXW) ∧ Cond.static (zy (zP 145)) ∈ zGW := ⟨Or.inl zwd1009, zwd1010⟩
theorem zsl13_197 : (Cond.methodLink (zcn 13) 197 (zy (zP 77)) ∈ zGW ∨ ∃ host, Cond.methodLinkNest (zcn 13) 197 (zy (zP 77)) host ∈ zXW) ∧ Cond.static (zy (zP 77)) ∈ zGW := ⟨Or.inl zwd1016, zwd1017⟩
theorem zsl13_200 : (Cond.methodLink (zcn 13) 200 (zy (zP 105)) ∈ zGW ∨ ∃ host, Cond.methodLinkNest (zcn 13) 200 (zy (zP 105)) host ∈ zXW) ∧ Cond.static (zy (zP 105)) ∈ zGW := ⟨Or.inl zwd1034, zwd1035⟩
theorem zsl13_203 : (Cond.methodLink (zcn 13) 203 (zy (zP 86)) ∈ zGW ∨ ∃ host, Cond.methodLinkNest (zcn 13) 203 (zy (zP 86)) host ∈ zXW) ∧ Cond.static (zy (zP 86)) ∈ zGW := ⟨Or.inl zwd1063, zwd1064⟩
theorem zsl13_206 : (Cond.methodLink (zcn 13) 206 (zy (zP 103)) ∈ zGW ∨ ∃ host, Cond.methodLinkNest (zcn 13) 206 (zy (zP 103)) host ∈ zXW) ∧ Cond.static (zy (zP 103)) ∈ zGW := ⟨Or.inl zwd1074, zwd1075⟩
theorem zsl13_209 : (Cond.methodLink (zcn 13) 209 (zy (zP 141)) ∈ zGW ∨ ∃ host, Cond.methodLinkNest (zcn 13) 209 (zy (zP 141)) host ∈ zXW) ∧ Cond.static (zy (zP 141)) ∈ zGW := ⟨Or.inl zwd1095, zwd1096⟩
theorem zsl13_212 : (Cond.methodLink (zcn 13) 212 (zy (zP 64)) ∈ zGW ∨ ∃ host, Cond.methodLinkNest (zcn 13) 212 (zy (zP 64)) host ∈ zXW) ∧ Cond.static (zy (zP 64)) ∈ zGW := ⟨Or.inl zwd1150, zwd1151⟩
theorem zsl13_215 : (Cond.methodLink (zcn 13) 215 (zy (zP 118)) ∈ zGW ∨ ∃ host, Cond.methodLinkNest (zcn 13) 215 (zy (zP 118)) host ∈ zXW) ∧ Cond.static (zy (zP 118)) ∈ zGW := ⟨Or.inl zwd1168, zwd1169⟩
theorem zsl13_218 : (Cond.methodLink (zcn 13) 218 (zy (zP 200)) ∈ zGW ∨ ∃ host, Cond.methodLinkNest (zcn 13) 218 (zy (zP 200)) host ∈ zXW) ∧ Cond.static (zy (zP 200)) ∈ zGW := ⟨Or.inl zwd1216, zwd1217⟩
theorem zsl13_221 : (Cond.methodLink (zcn 13) 221 (zy (zP 90)) ∈ zGW ∨ ∃ host, Cond.methodLinkNest (zcn 13) 221 (zy (zP 90)) host ∈ zXW) ∧ Cond.static (zy (zP 90)) ∈ zGW := ⟨Or.inl zwd1232, zwd1233⟩
theorem zsl13_224 : (Cond.methodLink (zcn 13) 224 (zy (zP 161)) ∈ zGW ∨ ∃ host, Cond.methodLinkNest (zcn 13) 224 (zy (zP 161)) host ∈ zXW) ∧ Cond.static (zy (zP 161)) ∈ zGW := ⟨Or.inl zwd1243, zwd1244⟩
theorem zsl13_231 : (Cond.methodLink (zcn 13) 231 (zy (zP 72)) ∈ zGW ∨ ∃ host, Cond.methodLinkNest (zcn 13) 231 (zy (zP 72)) host ∈ zXW) ∧ Cond.static (zy (zP 72)) ∈ zGW := ⟨Or.inl zwd1254, zwd1255⟩
theorem zsl13_234 : (Cond.methodLink (zcn 13) 234 (zy (zP 95)) ∈ zGW ∨ ∃ host, Cond.methodLinkNest (zcn 13) 234 (zy (zP 95)) host ∈ zXW) ∧ Cond.static (zy (zP 95)) ∈ zGW := ⟨Or.inl zwd1287, zwd1288⟩
theorem zsl13_237 : (Cond.methodLink (zcn 13) 237 (zy (zP 158)) ∈ zGW ∨ ∃ host, Cond.methodLinkNest (zcn 13) 237 (zy (zP 158)) host ∈ zXW) ∧ Cond.static (zy (zP 158)) ∈ zGW := ⟨Or.inl zwd1303, zwd1304⟩
theorem zsl13_240 : (Cond.methodLink (zcn 13) 240 (zy (zP 97)) ∈ zGW ∨ ∃ host, Cond.methodLinkNest (zcn 13) 240 (zy (zP 97)) host ∈ zXW) ∧ Cond.static (zy (zP 97)) ∈ zGW := ⟨Or.inl zwd1331, zwd1332⟩
theorem zsl13_243 : (Cond.methodLink (zcn 13) 243 (zy (zP 108)) ∈ zGW ∨ ∃ host, Cond.methodLinkNest (zcn 13) 243 (zy (zP 108)) host ∈ zXW) ∧ Cond.static (zy (zP 108)) ∈ zGW := ⟨Or.inl zwd1338, zwd1339⟩
theorem zsl13_246 : (Cond.methodLink (zcn 13) 246 (zy (zP 52)) ∈ zGW ∨ ∃ host, Cond.methodLinkNest (zcn 13) 246 (zy (zP 52)) host ∈ zXW) ∧ Cond.static (zy (zP 52)) ∈ zGW := ⟨Or.inl zwd1351, zwd1352⟩
def zSLb_0 : List (Nat × Nat × Nat) := [(0, 31, 26), (1, 40, 73), (1, 44, 74), (1, 63, 99), (1, 99, 80), (1, 109, 22), (3, 61, 26), (3, 76, 31), (3, 102, 59), (3, 121, 54), (4, 31, 26), (4, 127, 22), (4, 137, 173), (4, 140, 166), (4, 143, 167), (5, 32, 31), (5, 56, 42), (5, 60, 26), (6, 31, 22), (6, 35, 31), (7, 33, 49), (7, 50, 31), (7, 62, 68), (7, 66, 67), (7, 70, 26)]
theorem zSLb_0_ok : ∀ q ∈ zSLb_0, (Cond.methodLink (zcn q.1) q.2.1 (zy (zP q.2.2)) ∈ zGW ∨ ∃ host, Cond.methodLinkNest (zcn q.1) q.2.1 (zy (zP q.2.2)) host ∈ zXW) ∧ Cond.static (zy (zP q.2.2)) ∈ zGW := List.forall_mem_cons.mpr ⟨zsl0_31, List.forall_mem_cons.mpr ⟨zsl1_40, List.forall_mem_cons.mpr ⟨zsl1_44, List.forall_mem_cons.mpr ⟨zsl1_63, List.forall_mem_cons.mpr ⟨zsl1_99, List.forall_mem_cons.mpr ⟨zsl1_109, List.forall_mem_cons.mpr ⟨zsl3_61, List.forall_mem_cons.mpr ⟨zsl3_76, List.forall_mem_cons.mpr ⟨zsl3_102, List.forall_mem_cons.mpr ⟨zsl3_121, List.forall_mem_cons.mpr ⟨zsl4_31, List.forall_mem_cons.mpr ⟨zsl4_127, List.forall_mem_cons.mpr ⟨zsl4_137, List.forall_mem_cons.mpr ⟨zsl4_140, List.forall_mem_cons.mpr ⟨zsl4_143, List.forall_mem_cons.mpr ⟨zsl5_32, List.forall_mem_cons.mpr ⟨zsl5_56, List.forall_mem_cons.mpr ⟨zsl5_60, List.forall_mem_cons.mpr ⟨zsl6_31, List.forall_mem_cons.mpr ⟨zsl6_35, List.forall_mem_cons.mpr ⟨zsl7_33, List.forall_mem_cons.mpr ⟨zsl7_50, List.forall_mem_cons.mpr ⟨zsl7_62, List.forall_mem_cons.mpr ⟨zsl7_66, List.forall_mem_cons.mpr ⟨zsl7_70, fun _ h => nomatch h⟩⟩⟩⟩⟩⟩⟩⟩⟩⟩⟩⟩⟩⟩⟩⟩⟩⟩⟩⟩⟩⟩⟩⟩⟩
def zSLb_1 : List (Nat × Nat × Nat) := [(8, 72, 188), (8, 78, 59), (8, 84, 22), (8, 88, 31), (9, 88, 49), (10, 132, 59), (10, 180, 31), (10, 217, 80), (10, 222, 128), (10, 229, 42), (10, 233, 125), (10, 239, 41), (10, 243, 54), (10, 248, 79), (10, 252, 99), (10, 273, 49), (10, 340, 93), (11, 156, 298), (11, 165, 204), (11, 173, 294), (11, 187, 231), (11, 223, 209), (11, 234, 309), (12, 9, 42), (12, 21, 79)]
theorem zSLb_1_ok : ∀ q ∈ zSLb_1, (Cond.methodLink (zcn q.1) q.2.1 (zy (zP q.2.2)) ∈ zGW ∨ ∃ host, Cond.methodLinkNest (zcn q.1) q.2.1 (zy (zP q.2.2)) host ∈ zXW) ∧ Cond.static (zy (zP q.2.2)) ∈ zGW := List.forall_mem_cons.mpr ⟨zsl8_72, List.forall_mem_cons.mpr ⟨zsl8_78, List.forall_mem_cons.mpr ⟨zsl8_84, List.forall_mem_cons.mpr ⟨zsl8_88, List.forall_mem_cons.mpr ⟨zsl9_88, List.forall_mem_cons.mpr ⟨zsl10_132, List.forall_mem_cons.mpr ⟨zsl10_180, List.forall_mem_cons.mpr ⟨zsl10_217, List.forall_mem_cons.mpr ⟨zsl10_222, List.forall_mem_cons.mpr ⟨zsl10_229, List.forall_mem_cons.mpr ⟨zsl10_233, List.forall_mem_cons.mpr ⟨zsl10_239, List.forall_mem_cons.mpr ⟨zsl10_243, List.forall_mem_cons.mpr ⟨zsl10_248, List.forall_mem_cons.mpr ⟨zsl10_252, List.forall_mem_cons.mpr ⟨zsl10_273, List.forall_mem_cons.mpr ⟨zsl10_340, List.forall_mem_cons.mpr ⟨zsl11_156, List.forall_mem_cons.mpr ⟨zsl11_165, List.forall_mem_cons.mpr ⟨zsl11_173, List.forall_mem_cons.mpr ⟨zsl11_187, List.forall_mem_cons.mpr ⟨zsl11_223, List.forall_mem_cons.mpr ⟨zsl11_234, List.forall_mem_cons.mpr ⟨zsl12_9, List.forall_mem_cons.mpr ⟨zsl12_21, fun _ h => nomatch h⟩⟩⟩⟩⟩⟩⟩⟩⟩⟩⟩⟩⟩⟩⟩⟩⟩⟩⟩⟩⟩⟩⟩⟩⟩
def zSLb_2 : List (Nat × Nat × Nat) := [(12, 34, 80), (12, 41, 31), (12, 45, 59), (12, 51, 91), (12, 54, 92), (13, 129, 196), (13, 143, 165), (13, 146, 151), (13, 150, 202), (13, 153, 122), (13, 157, 143), (13, 161, 36), (13, 164, 38), (13, 167, 147), (13, 171, 132), (13, 174, 149), (13, 177, 130), (13, 180, 127), (13, 183, 163), (13, 186, 124), (13, 189, 145), (13, 197, 77), (13, 200, 105), (13, 203, 86), (13, 206, 103)]
theorem zSLb_2_ok : ∀ q ∈ zSLb_2, (Cond.methodLink (zcn q.1) q.2.1 (zy (zP q.2.2)) ∈ zGW ∨ ∃ host, Cond.methodLinkNest (zcn q.1) q.2.1 (zy (zP q.2.2)) host ∈ zXW) ∧ Cond.static (zy (zP q.2.2)) ∈ zGW := List.forall_mem_cons.mpr ⟨zsl12_34, List.forall_mem_cons.mpr ⟨zsl12_41, List.forall_mem_cons.mpr ⟨zsl12_45, List.forall_mem_cons.mpr ⟨zsl12_51, List.forall_mem_cons.mpr ⟨zsl12_54, List.forall_mem_cons.mpr ⟨zsl13_129, List.forall_mem_cons.mpr ⟨zsl13_143, List.forall_mem_cons.mpr ⟨zsl13_146, List.forall_mem_cons.mpr ⟨zsl13_150, List.forall_mem_cons.mpr ⟨zsl13_153, List.forall_mem_cons.mpr ⟨zsl13_157, List.forall_mem_cons.mpr ⟨zsl13_161, List.forall_mem_cons.mpr ⟨zsl13_164, List.forall_mem_cons.mpr ⟨zsl13_167, List.forall_mem_cons.mpr ⟨zsl13_171, List.forall_mem_cons.mpr ⟨zsl13_174, List.forall_mem_cons.mpr ⟨zsl13_177, List.forall_mem_cons.mpr ⟨zsl13_180, List.forall_mem_cons.mpr ⟨zsl13_183, List.forall_mem_cons.mpr ⟨zsl13_186, List.forall_mem_cons.mpr ⟨zsl13_189, List.forall_mem_cons.mpr ⟨zsl13_197, List.forall_mem_cons.mpr ⟨zsl13_200, List.forall_mem_cons.mpr ⟨zsl13_203, List.forall_mem_cons.mpr ⟨zsl13_206, fun _ h => nomatch h⟩⟩⟩⟩⟩⟩⟩⟩⟩⟩⟩⟩⟩⟩⟩⟩⟩⟩⟩⟩⟩⟩⟩⟩⟩
def zSLb_3 : List (Nat × Nat × Nat) := [(13, 209, 141), (13, 212, 64), (13, 215, 118), (13, 218, 200), (13, 221, 90), (13, 224, 161), (13, 231, 72), (13, 234, 95), (13, 237, 158), (13, 240, 97), (13, 243, 108), (13, 246, 52)]
theorem zSLb_3_ok : ∀ q ∈ zSLb_3, (Cond.methodLink (zcn q.1) q.2.1 (zy (zP q.2.2)) ∈ zGW ∨ ∃ host, Cond.methodLinkNest (zcn q.1) q.2.1 (zy (zP q.2.2)) host ∈ zXW) ∧ Cond.static (zy (zP q.2.2)) ∈ zGW := List.forall_mem_cons.mpr ⟨zsl13_209, List.forall_mem_cons.mpr ⟨zsl13_212, List.forall_mem_cons.mpr ⟨zsl13_215, List.forall_mem_cons.mpr ⟨zsl13_218, List.forall_mem_cons.mpr ⟨zsl13_221, List.forall_mem_cons.mpr ⟨zsl13_224, List.forall_mem_cons.mpr ⟨zsl13_231, List.forall_mem_cons.mpr ⟨zsl13_234, List.forall_mem_cons.mpr ⟨zsl13_237, List.forall_mem_cons.mpr ⟨zsl13_240, List.forall_mem_cons.mpr ⟨zsl13_243, List.forall_mem_cons.mpr ⟨zsl13_246, fun _ h => nomatch h⟩⟩⟩⟩⟩⟩⟩⟩⟩⟩⟩⟩
def zSLb : List (Nat × Nat × Nat) := zSLb_0 ++ (zSLb_1 ++ (zSLb_2 ++ (zSLb_3)))
theorem zSLb_ok : ∀ q ∈ zSLb, (Cond.methodLink (zcn q.1) q.2.1 (zy (zP q.2.2)) ∈ zGW ∨ ∃ host, Cond.methodLinkNest (zcn q.1) q.2.1 (zy (zP q.2.2)) host ∈ zXW) ∧ Cond.static (zy (zP q.2.2)) ∈ zGW := List.forall_mem_append.mpr ⟨zSLb_0_ok, List.forall_mem_append.mpr ⟨zSLb_1_ok, List.forall_mem_append.mpr ⟨zSLb_2_ok, zSLb_3_ok⟩⟩⟩
theorem zil10_22 : zrt (zP 8) = none ∧ (zy (zP 8)).name = "<init>" ∧ (Cond.methodLink (zcn 10) 22 (zy (zP 8)) ∈ zGW ∨ ∃ host, Cond.methodLinkNest (zcn 10) 22 (zy (zP 8)) host ∈ zXW) ∧ Cond.instanceMethod (zy (zP 8)) ∈ zGW := ⟨rfl, rfl, Or.inr ⟨"RightTurns", zxw (zt1 (i := 39) rfl) rfl⟩, zwd40⟩
theorem zil10_32 : zrt (zP 4) = none ∧ (zy (zP 4)).name = "<init>" ∧ (Cond.methodLink (zcn 10) 32 (zy (zP 4)) ∈ zGW ∨ ∃ host, Cond.methodLinkNest (zcn 10) 32 (zy (zP 4)) host ∈ zXW) ∧ Cond.instanceMethod (zy (zP 4)) ∈ zGW := ⟨rfl, rfl, Or.inr ⟨"RightTurns", zxw (zt1 (i := 160) rfl) rfl⟩, zwd161⟩
theorem zil10_39 : zrt (zP 0) = none ∧ (zy (zP 0)).name = "<init>" ∧ (Cond.methodLink (zcn 10) 39 (zy (zP 0)) ∈ zGW ∨ ∃ host, Cond.methodLinkNest (zcn 10) 39 (zy (zP 0)) host ∈ zXW) ∧ Cond.instanceMethod (zy (zP 0)) ∈ zGW := ⟨rfl, rfl, Or.inr ⟨"RightTurns", zxw (zt1 (i := 187) rfl) rfl⟩, zwd188⟩
theorem zil10_46 : zrt (zP 6) = none ∧ (zy (zP 6)).name = "<init>" ∧ (Cond.methodLink (zcn 10) 46 (zy (zP 6)) ∈ zGW ∨ ∃ host, Cond.methodLinkNest (zcn 10) 46 (zy (zP 6)) host ∈ zXW) ∧ Cond.instanceMethod (zy (zP 6)) ∈ zGW := ⟨rfl, rfl, Or.inr ⟨"RightTurns", zxw (zt1 (i := 208) rfl) rfl⟩, zwd209⟩
theorem zil10_53 : zrt (zP 5) = none ∧ (zy (zP 5)).name = "<init>" ∧ (Cond.methodLink (zcn 10) 53 (zy (zP 5)) ∈ zGW ∨ ∃ host, Cond.methodLinkNest (zcn 10) 53 (zy (zP 5)) host ∈ zXW) ∧ Cond.instanceMethod (zy (zP 5)) ∈ zGW := ⟨rfl, rfl, Or.inr ⟨"RightTurns", zxw (zt1 (i := 226) rfl) rfl⟩, zwd227⟩
theorem zil10_60 : zrt (zP 1) = none ∧ (zy (zP 1)).name = "<init>" ∧ (Cond.methodLink (zcn 10) 60 (zy (zP 1)) ∈ zGW ∨ ∃ host, Cond.methodLinkNest (zcn 10) 60 (zy (zP 1)) host ∈ zXW) ∧ Cond.instanceMethod (zy (zP 1)) ∈ zGW := ⟨rfl, rfl, Or.inr ⟨"RightTurns", zxw (zt2 (i := 4) rfl) rfl⟩, zwd245⟩
theorem zil10_67 : zrt (zP 3) = none ∧ (zy (zP 3)).name = "<init>" ∧ (Cond.methodLink (zcn 10) 67 (zy (zP 3)) ∈ zGW ∨ ∃ host, Cond.methodLinkNest (zcn 10) 67 (zy (zP 3)) host ∈ zXW) ∧ Cond.instanceMethod (zy (zP 3)) ∈ zGW := ⟨rfl, rfl, Or.inr ⟨"RightTurns", zxw (zt2 (i := 36) rfl) rfl⟩, zwd277⟩
theorem zil10_74 : zrt (zP 9) = none ∧ (zy (zP 9)).name = "<init>" ∧ (Cond.methodLink (zcn 10) 74 (zy (zP 9)) ∈ zGW ∨ ∃ host, Cond.methodLinkNest (zcn 10) 74 (zy (zP 9)) host ∈ zXW) ∧ Cond.instanceMethod (zy (zP 9)) ∈ zGW := ⟨rfl, rfl, Or.inr ⟨"RightTurns", zxw (zt2 (i := 64) rfl) rfl⟩, zwd305⟩
theorem zil10_81 : zrt (zP 7) = none ∧ (zy (zP 7)).name = "<init>" ∧ (Cond.methodLink (zcn 10) 81 (zy (zP 7)) ∈ zGW ∨ ∃ host, Cond.methodLinkNest (zcn 10) 81 (zy (zP 7)) host ∈ zXW) ∧ Cond.instanceMethod (zy (zP 7)) ∈ zGW := ⟨rfl, rfl, Or.inr ⟨"RightTurns", zxw (zt2 (i := 104) rfl) rfl⟩, zwd345⟩
theorem zil10_88 : zrt (zP 2) = none ∧ (zy (zP 2)).name = "<init>" ∧ (Cond.methodLink (zcn 10) 88 (zy (zP 2)) ∈ zGW ∨ ∃ host, Cond.methodLinkNest (zcn 10) 88 (zy (zP 2)) host ∈ zXW) ∧ Cond.instanceMethod (zy (zP 2)) ∈ zGW := ⟨rfl, rfl, Or.inr ⟨"RightTurns", zxw (zt2 (i := 132) rfl) rfl⟩, zwd373⟩
theorem zil13_120 : zrt (zP 10) = none ∧ (zy (zP 10)).name = "<init>" ∧ (Cond.methodLink (zcn 13) 120 (zy (zP 10)) ∈ zGW ∨ ∃ host, Cond.methodLinkNest (zcn 13) 120 (zy (zP 10)) host ∈ zXW) ∧ Cond.instanceMethod (zy (zP 10)) ∈ zGW := ⟨rfl, rfl, Or.inl zwd31, zwd32⟩
theorem zil13_123 : zrt (zP 203) = none ∧ (zy (zP 203)).name = "<init>" ∧ (Cond.methodLink (zcn 13) 123 (zy (zP 203)) ∈ zGW ∨ ∃ host, Cond.methodLinkNest (zcn 13) 123 (zy (zP 203)) host ∈ zXW) ∧ Cond.instanceMethod (zy (zP 203)) ∈ zGW := ⟨rfl, rfl, Or.inl zwd1368, zwd1369⟩
def zILb_0 : List (Nat × Nat × Nat) := [(10, 22, 8), (10, 32, 4), (10, 39, 0), (10, 46, 6), (10, 53, 5), (10, 60, 1), (10, 67, 3), (10, 74, 9), (10, 81, 7), (10, 88, 2), (13, 120, 10), (13, 123, 203)]
theorem zILb_0_ok : ∀ q ∈ zILb_0, zrt (zP q.2.2) = none ∧ (zy (zP q.2.2)).name = "<init>" ∧ (Cond.methodLink (zcn q.1) q.2.1 (zy (zP q.2.2)) ∈ zGW ∨ ∃ host, Cond.methodLinkNest (zcn q.1) q.2.1 (zy (zP q.2.2)) host ∈ zXW) ∧ Cond.instanceMethod (zy (zP q.2.2)) ∈ zGW := List.forall_mem_cons.mpr ⟨zil10_22, List.forall_mem_cons.mpr ⟨zil10_32, List.forall_mem_cons.mpr ⟨zil10_39, List.forall_mem_cons.mpr ⟨zil10_46, List.forall_mem_cons.mpr ⟨zil10_53, List.forall_mem_cons.mpr ⟨zil10_60, List.forall_mem_cons.mpr ⟨zil10_67, List.forall_mem_cons.mpr ⟨zil10_74, List.forall_mem_cons.mpr ⟨zil10_81, List.forall_mem_cons.mpr ⟨zil10_88, List.forall_mem_cons.mpr ⟨zil13_120, List.forall_mem_cons.mpr ⟨zil13_123, fun _ h => nomatch h⟩⟩⟩⟩⟩⟩⟩⟩⟩⟩⟩⟩
def zILb : List (Nat × Nat × Nat) := zILb_0
theorem zILb_ok : ∀ q ∈ zILb, zrt (zP q.2.2) = none ∧ (zy (zP q.2.2)).name = "<init>" ∧ (Cond.methodLink (zcn q.1) q.2.1 (zy (zP q.2.2)) ∈ zGW ∨ ∃ host, Cond.methodLinkNest (zcn q.1) q.2.1 (zy (zP q.2.2)) host ∈ zXW) ∧ Cond.instanceMethod (zy (zP q.2.2)) ∈ zGW := zILb_0_ok
def zOLb_0 : List (Nat × Nat) := [(0, 3), (1, 3), (2, 3), (3, 3), (4, 3), (5, 3), (6, 3), (7, 3), (8, 3), (9, 3), (10, 1), (11, 1)]
theorem zOLb_0_ok : ∀ q ∈ zOLb_0, Cond.methodLink (zcn q.1) q.2 objectInit ∈ zGW := List.forall_mem_cons.mpr ⟨zwd190, List.forall_mem_cons.mpr ⟨zwd247, List.forall_mem_cons.mpr ⟨zwd375, List.forall_mem_cons.mpr ⟨zwd279, List.forall_mem_cons.mpr ⟨zwd163, List.forall_mem_cons.mpr ⟨zwd229, List.forall_mem_cons.mpr ⟨zwd211, List.forall_mem_cons.mpr ⟨zwd347, List.forall_mem_cons.mpr ⟨zwd42, List.forall_mem_cons.mpr ⟨zwd307, List.forall_mem_cons.mpr ⟨zwd34, List.forall_mem_cons.mpr ⟨zwd1371, fun _ h => nomatch h⟩⟩⟩⟩⟩⟩⟩⟩⟩⟩⟩⟩
def zOLb : List (Nat × Nat) := zOLb_0
theorem zOLb_ok : ∀ q ∈ zOLb, Cond.methodLink (zcn q.1) q.2 objectInit ∈ zGW := zOLb_0_ok
def zALb_0 : List (Nat × Nat) := [(1, 103), (2, 38), (6, 24), (9, 64)]
theorem zALb_0_ok : ∀ q ∈ zALb_0, Cond.methodLink (zcn q.1) q.2 arraycopyName ∈ zGW := List.forall_mem_cons.mpr ⟨zwd1056, List.forall_mem_cons.mpr ⟨zwd461, List.forall_mem_cons.mpr ⟨zwd823, List.forall_mem_cons.mpr ⟨zwd1186, fun _ h => nomatch h⟩⟩⟩⟩
def zALb : List (Nat × Nat) := zALb_0
theorem zALb_ok : ∀ q ∈ zALb, Cond.methodLink (zcn q.1) q.2 arraycopyName ∈ zGW := zALb_0_ok
def zKIb_0 : List (Nat × Nat × Int) := [(3, 57, 268435456), (5, 39, 268435456), (7, 32, 268435456), (11, 164, 100000), (11, 294, 1000000000), (14, 265, 1431655765), (14, 266, 858993459), (14, 267, 252645135)]
theorem zKIb_0_ok : ∀ q ∈ zKIb_0, Cond.constant (zcn q.1) q.2.1 (Int32.ofInt q.2.2) ∈ zGW := List.forall_mem_cons.mpr ⟨zwd1119, List.forall_mem_cons.mpr ⟨zwd912, List.forall_mem_cons.mpr ⟨zwd1265, List.forall_mem_cons.mpr ⟨zwd1623, List.forall_mem_cons.mpr ⟨zwd1770, List.forall_mem_cons.mpr ⟨zwd677, List.forall_mem_cons.mpr ⟨zwd678, List.forall_mem_cons.mpr ⟨zwd679, fun _ h => nomatch h⟩⟩⟩⟩⟩⟩⟩⟩
def zKIb : List (Nat × Nat × Int) := zKIb_0
theorem zKIb_ok : ∀ q ∈ zKIb, Cond.constant (zcn q.1) q.2.1 (Int32.ofInt q.2.2) ∈ zGW := zKIb_0_ok
def zKLb_0 : List (Nat × Nat × Int) := [(1, 116, (-1)), (4, 122, (-1)), (5, 44, (-1)), (6, 46, (-1)), (10, 237, (-1)), (10, 390, 3), (11, 396, (-1)), (12, 13, (-1)), (15, 314, 6148914691236517205), (15, 316, 3689348814741910323), (15, 318, 1085102592571150095)]
theorem zKLb_0_ok : ∀ q ∈ zKLb_0, Cond.constantLong (zcn q.1) q.2.1 (Int64.ofInt q.2.2) ∈ zGW := List.forall_mem_cons.mpr ⟨zwd1094, List.forall_mem_cons.mpr ⟨zwd715, List.forall_mem_cons.mpr ⟨zwd917, List.forall_mem_cons.mpr ⟨zwd834, List.forall_mem_cons.mpr ⟨zwd986, List.forall_mem_cons.mpr ⟨zwd592, List.forall_mem_cons.mpr ⟨zwd1947, List.forall_mem_cons.mpr ⟨zwd969, List.forall_mem_cons.mpr ⟨zwd928, List.forall_mem_cons.mpr ⟨zwd929, List.forall_mem_cons.mpr ⟨zwd930, fun _ h => nomatch h⟩⟩⟩⟩⟩⟩⟩⟩⟩⟩⟩
def zKLb : List (Nat × Nat × Int) := zKLb_0
theorem zKLb_ok : ∀ q ∈ zKLb, Cond.constantLong (zcn q.1) q.2.1 (Int64.ofInt q.2.2) ∈ zGW := zKLb_0_ok
theorem zcb0 : zCb 0 0 := ⟨rfl, zwd189, zwd4, by decide +kernel, by decide +kernel, by decide +kernel⟩
theorem zcb1 : zCb 1 0 := ⟨rfl, zwd246, zwd7, by decide +kernel, by decide +kernel, by decide +kernel⟩
theorem zcb2 : zCb 2 0 := ⟨rfl, zwd374, zwd11, by decide +kernel, by decide +kernel, by decide +kernel⟩
theorem zcb3 : zCb 3 0 := ⟨rfl, zwd278, zwd8, by decide +kernel, by decide +kernel, by decide +kernel⟩
theorem zcb4 : zCb 4 0 := ⟨rfl, zwd162, zwd3, by decide +kernel, by decide +kernel, by decide +kernel⟩
theorem zcb5 : zCb 5 0 := ⟨rfl, zwd228, zwd6, by decide +kernel, by decide +kernel, by decide +kernel⟩
theorem zcb6 : zCb 6 0 := ⟨rfl, zwd210, zwd5, by decide +kernel, by decide +kernel, by decide +kernel⟩
theorem zcb7 : zCb 7 0 := ⟨rfl, zwd346, zwd10, by decide +kernel, by decide +kernel, by decide +kernel⟩
theorem zcb8 : zCb 8 0 := ⟨rfl, zwd41, zwd2, by decide +kernel, by decide +kernel, by decide +kernel⟩
theorem zcb9 : zCb 9 0 := ⟨rfl, zwd306, zwd9, by decide +kernel, by decide +kernel, by decide +kernel⟩
theorem zcb10 : zCb 10 0 := ⟨rfl, zwd33, zwd1, by decide +kernel, by decide +kernel, by decide +kernel⟩
theorem zcb11 : zCb 11 1 := ⟨rfl, zwd475, zwd1, by decide +kernel, by decide +kernel, by decide +kernel⟩
theorem zcb12 : zCb 12 0 := ⟨rfl, zwd444, zwd1, by decide +kernel, by decide +kernel, by decide +kernel⟩
theorem zcb13 : zCb 13 1 := ⟨rfl, zwd440, zwd1, by decide +kernel, by decide +kernel, by decide +kernel⟩
theorem zcb14 : zCb 14 5 := ⟨rfl, zwd436, zwd1, by decide +kernel, by decide +kernel, by decide +kernel⟩
theorem zcb15 : zCb 15 0 := ⟨rfl, zwd452, zwd1, by decide +kernel, by decide +kernel, by decide +kernel⟩
theorem zcb16 : zCb 16 2 := ⟨rfl, zwd460, zwd11, by decide +kernel, by decide +kernel, by decide +kernel⟩
theorem zcb17 : zCb 17 0 := ⟨rfl, zwd456, zwd1, by decide +kernel, by decide +kernel, by decide +kernel⟩
theorem zcb18 : zCb 18 1 := ⟨rfl, zwd448, zwd1, by decide +kernel, by decide +kernel, by decide +kernel⟩
theorem zcb19 : zCb 19 2 := ⟨rfl, zwd471, zwd11, by decide +kernel, by decide +kernel, by decide +kernel⟩
theorem zcb20 : zCb 20 0 := ⟨rfl, zwd467, zwd1, by decide +kernel, by decide +kernel, by decide +kernel⟩
theorem zcb21 : zCb 21 1 := ⟨rfl, zwd813, zwd1, by decide +kernel, by decide +kernel, by decide +kernel⟩
theorem zcb22 : zCb 22 1 := ⟨rfl, zwd591, zwd1, by decide +kernel, by decide +kernel, by decide +kernel⟩
theorem zcb23 : zCb 23 3 := ⟨rfl, zwd828, zwd5, by decide +kernel, by decide +kernel, by decide +kernel⟩
theorem zcb24 : zCb 24 1 := ⟨rfl, zwd833, zwd5, by decide +kernel, by decide +kernel, by decide +kernel⟩
theorem zcb25 : zCb 25 1 := ⟨rfl, zwd822, zwd5, by decide +kernel, by decide +kernel, by decide +kernel⟩
theorem zcb26 : zCb 26 2 := ⟨rfl, zwd558, zwd17, by decide +kernel, by decide +kernel, by decide +kernel⟩
theorem zcb27 : zCb 27 3 := ⟨rfl, zwd818, zwd4, by decide +kernel, by decide +kernel, by decide +kernel⟩
theorem zcb28 : zCb 28 1 := ⟨rfl, zwd809, zwd1, by decide +kernel, by decide +kernel, by decide +kernel⟩
theorem zcb29 : zCb 29 1 := ⟨rfl, zwd761, zwd1, by decide +kernel, by decide +kernel, by decide +kernel⟩
theorem zcb30 : zCb 30 3 := ⟨rfl, zwd857, zwd4, by decide +kernel, by decide +kernel, by decide +kernel⟩
theorem zcb31 : zCb 31 2 := ⟨rfl, zwd576, zwd1, by decide +kernel, by decide +kernel, by decide +kernel⟩
theorem zcb32 : zCb 32 3 := ⟨rfl, zwd852, zwd5, by decide +kernel, by decide +kernel, by decide +kernel⟩
theorem zcb33 : zCb 33 2 := ⟨rfl, zwd735, zwd2, by decide +kernel, by decide +kernel, by decide +kernel⟩
theorem zcb34 : zCb 34 4 := ⟨rfl, zwd846, zwd1, by decide +kernel, by decide +kernel, by decide +kernel⟩
theorem zcb35 : zCb 35 3 := ⟨rfl, zwd864, zwd1, by decide +kernel, by decide +kernel, by decide +kernel⟩
theorem zcb37 : zCb 37 1 := ⟨rfl, zwd871, zwd1, by decide +kernel, by decide +kernel, by decide +kernel⟩
theorem zcb39 : zCb 39 2 := ⟨rfl, zwd781, zwd1, by decide +kernel, by decide +kernel, by decide +kernel⟩
theorem zcb40 : zCb 40 2 := ⟨rfl, zwd916, zwd6, by decide +kernel, by decide +kernel, by decide +kernel⟩
theorem zcb41 : zCb 41 1 := ⟨rfl, zwd927, zwd27, by decide +kernel, by decide +kernel, by decide +kernel⟩
theorem zcb42 : zCb 42 1 := ⟨rfl, zwd924, zwd1, by decide +kernel, by decide +kernel, by decide +kernel⟩
theorem zcb43 : zCb 43 4 := ⟨rfl, zwd921, zwd6, by decide +kernel, by decide +kernel, by decide +kernel⟩
theorem zcb44 : zCb 44 3 := ⟨rfl, zwd910, zwd6, by decide +kernel, by decide +kernel, by decide +kernel⟩
theorem zcb45 : zCb 45 2 := ⟨rfl, zwd943, zwd6, by decide +kernel, by decide +kernel, by decide +kernel⟩
theorem zcb46 : zCb 46 1 := ⟨rfl, zwd939, zwd6, by decide +kernel, by decide +kernel, by decide +kernel⟩
theorem zcb47 : zCb 47 3 := ⟨rfl, zwd954, zwd6, by decide +kernel, by decide +kernel, by decide +kernel⟩
theorem zcb48 : zCb 48 2 := ⟨rfl, zwd1365, zwd9, by decide +kernel, by decide +kernel, by decide +kernel⟩
theorem zcb49 : zCb 49 2 := ⟨rfl, zwd1043, zwd18, by decide +kernel, by decide +kernel, by decide +kernel⟩
theorem zcb50 : zCb 50 3 := ⟨rfl, zwd1361, zwd9, by decide +kernel, by decide +kernel, by decide +kernel⟩
theorem zcb51 : zCb 51 2 := ⟨rfl, zwd1357, zwd1, by decide +kernel, by decide +kernel, by decide +kernel⟩
theorem zcb53 : zCb 53 1 := ⟨rfl, zwd890, zwd1, by decide +kernel, by decide +kernel, by decide +kernel⟩
theorem zcb54 : zCb 54 2 := ⟨rfl, zwd989, zwd17, by decide +kernel, by decide +kernel, by decide +kernel⟩
theorem zcb55 : zCb 55 1 := ⟨rfl, zwd1135, zwd8, by decide +kernel, by decide +kernel, by decide +kernel⟩
theorem zcb56 : zCb 56 1 := ⟨rfl, zwd1131, zwd8, by decide +kernel, by decide +kernel, by decide +kernel⟩
theorem zcb57 : zCb 57 3 := ⟨rfl, zwd1109, zwd8, by decide +kernel, by decide +kernel, by decide +kernel⟩
theorem zcb58 : zCb 58 0 := ⟨rfl, zwd1117, zwd8, by decide +kernel, by decide +kernel, by decide +kernel⟩
theorem zcb59 : zCb 59 1 := ⟨rfl, zwd676, zwd23, by decide +kernel, by decide +kernel, by decide +kernel⟩
theorem zcb60 : zCb 60 1 := ⟨rfl, zwd1166, zwd8, by decide +kernel, by decide +kernel, by decide +kernel⟩
theorem zcb61 : zCb 61 2 := ⟨rfl, zwd935, zwd6, by decide +kernel, by decide +kernel, by decide +kernel⟩
theorem zcb62 : zCb 62 4 := ⟨rfl, zwd1160, zwd8, by decide +kernel, by decide +kernel, by decide +kernel⟩
theorem zcb63 : zCb 63 2 := ⟨rfl, zwd1156, zwd1, by decide +kernel, by decide +kernel, by decide +kernel⟩
theorem zcb65 : zCb 65 1 := ⟨rfl, zwd1286, zwd10, by decide +kernel, by decide +kernel, by decide +kernel⟩
theorem zcb66 : zCb 66 1 := ⟨rfl, zwd1281, zwd10, by decide +kernel, by decide +kernel, by decide +kernel⟩
theorem zcb67 : zCb 67 2 := ⟨rfl, zwd1277, zwd10, by decide +kernel, by decide +kernel, by decide +kernel⟩
theorem zcb68 : zCb 68 4 := ⟨rfl, zwd1274, zwd10, by decide +kernel, by decide +kernel, by decide +kernel⟩
theorem zcb69 : zCb 69 5 := ⟨rfl, zwd1271, zwd10, by decide +kernel, by decide +kernel, by decide +kernel⟩
theorem zcb70 : zCb 70 3 := ⟨rfl, zwd1264, zwd10, by decide +kernel, by decide +kernel, by decide +kernel⟩
theorem zcb71 : zCb 71 2 := ⟨rfl, zwd1260, zwd1, by decide +kernel, by decide +kernel, by decide +kernel⟩
theorem zcb73 : zCb 73 3 := ⟨rfl, zwd1029, zwd7, by decide +kernel, by decide +kernel, by decide +kernel⟩
theorem zcb74 : zCb 74 3 := ⟨rfl, zwd1033, zwd7, by decide +kernel, by decide +kernel, by decide +kernel⟩
theorem zcb75 : zCb 75 2 := ⟨rfl, zwd1026, zwd7, by decide +kernel, by decide +kernel, by decide +kernel⟩
theorem zcb76 : zCb 76 1 := ⟨rfl, zwd1022, zwd1, by decide +kernel, by decide +kernel, by decide +kernel⟩
theorem zcb78 : zCb 78 3 := ⟨rfl, zwd1055, zwd7, by decide +kernel, by decide +kernel, by decide +kernel⟩
theorem zcb79 : zCb 79 2 := ⟨rfl, zwd967, zwd28, by decide +kernel, by decide +kernel, by decide +kernel⟩
theorem zcb80 : zCb 80 3 := ⟨rfl, zwd964, zwd28, by decide +kernel, by decide +kernel, by decide +kernel⟩
theorem zcb81 : zCb 81 3 := ⟨rfl, zwd1051, zwd7, by decide +kernel, by decide +kernel, by decide +kernel⟩
theorem zcb82 : zCb 82 1 := ⟨rfl, zwd1062, zwd7, by decide +kernel, by decide +kernel, by decide +kernel⟩
theorem zcb83 : zCb 83 2 := ⟨rfl, zwd1047, zwd7, by decide +kernel, by decide +kernel, by decide +kernel⟩
theorem zcb84 : zCb 84 1 := ⟨rfl, zwd1073, zwd7, by decide +kernel, by decide +kernel, by decide +kernel⟩
theorem zcb85 : zCb 85 2 := ⟨rfl, zwd1069, zwd1, by decide +kernel, by decide +kernel, by decide +kernel⟩
theorem zcb87 : zCb 87 2 := ⟨rfl, zwd1242, zwd9, by decide +kernel, by decide +kernel, by decide +kernel⟩
theorem zcb88 : zCb 88 3 := ⟨rfl, zwd1183, zwd9, by decide +kernel, by decide +kernel, by decide +kernel⟩
theorem zcb89 : zCb 89 1 := ⟨rfl, zwd1238, zwd1, by decide +kernel, by decide +kernel, by decide +kernel⟩
theorem zcb91 : zCb 91 3 := ⟨rfl, zwd1299, zwd28, by decide +kernel, by decide +kernel, by decide +kernel⟩
theorem zcb92 : zCb 92 2 := ⟨rfl, zwd1302, zwd28, by decide +kernel, by decide +kernel, by decide +kernel⟩
theorem zcb93 : zCb 93 2 := ⟨rfl, zwd1296, zwd28, by decide +kernel, by decide +kernel, by decide +kernel⟩
theorem zcb94 : zCb 94 1 := ⟨rfl, zwd1293, zwd1, by decide +kernel, by decide +kernel, by decide +kernel⟩
theorem zcb96 : zCb 96 3 := ⟨rfl, zwd1337, zwd1, by decide +kernel, by decide +kernel, by decide +kernel⟩
theorem zcb98 : zCb 98 2 := ⟨rfl, zwd1093, zwd7, by decide +kernel, by decide +kernel, by decide +kernel⟩
theorem zcb99 : zCb 99 2 := ⟨rfl, zwd1007, zwd28, by decide +kernel, by decide +kernel, by decide +kernel⟩
theorem zcb100 : zCb 100 3 := ⟨rfl, zwd1089, zwd7, by decide +kernel, by decide +kernel, by decide +kernel⟩
theorem zcb101 : zCb 101 2 := ⟨rfl, zwd1084, zwd7, by decide +kernel, by decide +kernel, by decide +kernel⟩
theorem zcb102 : zCb 102 2 := ⟨rfl, zwd1080, zwd1, by decide +kernel, by decide +kernel, by decide +kernel⟩
theorem zcb104 : zCb 104 2 := ⟨rfl, zwd1040, zwd1, by decide +kernel, by decide +kernel, by decide +kernel⟩
theorem zcb106 : zCb 106 3 := ⟨rfl, zwd1348, zwd7, by decide +kernel, by decide +kernel, by decide +kernel⟩
theorem zcb107 : zCb 107 2 := ⟨rfl, zwd1344, zwd1, by decide +kernel, by decide +kernel, by decide +kernel⟩
theorem zcb109 : zCb 109 1 := ⟨rfl, zwd1194, zwd9, by decide +kernel, by decide +kernel, by decide +kernel⟩
theorem zcb110 : zCb 110 2 := ⟨rfl, zwd1211, zwd9, by decide +kernel, by decide +kernel, by decide +kernel⟩
theorem zcb111 : zCb 111 3 := ⟨rfl, zwd1215, zwd9, by decide +kernel, by decide +kernel, by decide +kernel⟩
theorem zcb112 : zCb 112 1 := ⟨rfl, zwd1202, zwd9, by decide +kernel, by decide +kernel, by decide +kernel⟩
theorem zcb113 : zCb 113 2 := ⟨rfl, zwd1206, zwd9, by decide +kernel, by decide +kernel, by decide +kernel⟩
theorem zcb114 : zCb 114 2 := ⟨rfl, zwd1198, zwd9, by decide +kernel, by decide +kernel, by decide +kernel⟩
theorem zcb115 : zCb 115 1 := ⟨rfl, zwd1190, zwd9, by decide +kernel, by decide +kernel, by decide +kernel⟩
theorem zcb116 : zCb 116 0 := ⟨rfl, zwd1179, zwd1, by decide +kernel, by decide +kernel, by decide +kernel⟩
theorem zcb117 : zCb 117 1 := ⟨rfl, zwd1174, zwd1, by decide +kernel, by decide +kernel, by decide +kernel⟩
theorem zcb119 : zCb 119 1 := ⟨rfl, zwd785, zwd2, by decide +kernel, by decide +kernel, by decide +kernel⟩
theorem zcb120 : zCb 120 1 := ⟨rfl, zwd796, zwd1, by decide +kernel, by decide +kernel, by decide +kernel⟩
theorem zcb121 : zCb 121 3 := ⟨rfl, zwd805, zwd1, by decide +kernel, by decide +kernel, by decide +kernel⟩
theorem zcb123 : zCb 123 2 := ⟨rfl, zwd1004, zwd1, by decide +kernel, by decide +kernel, by decide +kernel⟩
theorem zcb125 : zCb 125 3 := ⟨rfl, zwd984, zwd28, by decide +kernel, by decide +kernel, by decide +kernel⟩
theorem zcb126 : zCb 126 2 := ⟨rfl, zwd980, zwd1, by decide +kernel, by decide +kernel, by decide +kernel⟩
theorem zcb128 : zCb 128 3 := ⟨rfl, zwd972, zwd28, by decide +kernel, by decide +kernel, by decide +kernel⟩
theorem zcb129 : zCb 129 3 := ⟨rfl, zwd961, zwd1, by decide +kernel, by decide +kernel, by decide +kernel⟩
theorem zcb131 : zCb 131 3 := ⟨rfl, zwd886, zwd1, by decide +kernel, by decide +kernel, by decide +kernel⟩
theorem zcb133 : zCb 133 3 := ⟨rfl, zwd1140, zwd8, by decide +kernel, by decide +kernel, by decide +kernel⟩
theorem zcb134 : zCb 134 1 := ⟨rfl, zwd1145, zwd8, by decide +kernel, by decide +kernel, by decide +kernel⟩
theorem zcb135 : zCb 135 1 := ⟨rfl, zwd1127, zwd8, by decide +kernel, by decide +kernel, by decide +kernel⟩
theorem zcb136 : zCb 136 3 := ⟨rfl, zwd1123, zwd8, by decide +kernel, by decide +kernel, by decide +kernel⟩
theorem zcb137 : zCb 137 2 := ⟨rfl, zwd1113, zwd8, by decide +kernel, by decide +kernel, by decide +kernel⟩
theorem zcb138 : zCb 138 3 := ⟨rfl, zwd1149, zwd8, by decide +kernel, by decide +kernel, by decide +kernel⟩
theorem zcb139 : zCb 139 3 := ⟨rfl, zwd1105, zwd8, by decide +kernel, by decide +kernel, by decide +kernel⟩
theorem zcb140 : zCb 140 2 := ⟨rfl, zwd1101, zwd1, by decide +kernel, by decide +kernel, by decide +kernel⟩
theorem zcb142 : zCb 142 3 := ⟨rfl, zwd842, zwd1, by decide +kernel, by decide +kernel, by decide +kernel⟩
theorem zcb144 : zCb 144 4 := ⟨rfl, zwd1015, zwd1, by decide +kernel, by decide +kernel, by decide +kernel⟩
theorem zcb146 : zCb 146 4 := ⟨rfl, zwd878, zwd1, by decide +kernel, by decide +kernel, by decide +kernel⟩
theorem zcb148 : zCb 148 4 := ⟨rfl, zwd950, zwd1, by decide +kernel, by decide +kernel, by decide +kernel⟩
theorem zcb150 : zCb 150 2 := ⟨rfl, zwd757, zwd1, by decide +kernel, by decide +kernel, by decide +kernel⟩
theorem zcb152 : zCb 152 4 := ⟨rfl, zwd1326, zwd10, by decide +kernel, by decide +kernel, by decide +kernel⟩
theorem zcb153 : zCb 153 2 := ⟨rfl, zwd1322, zwd10, by decide +kernel, by decide +kernel, by decide +kernel⟩
theorem zcb154 : zCb 154 1 := ⟨rfl, zwd1330, zwd10, by decide +kernel, by decide +kernel, by decide +kernel⟩
theorem zcb155 : zCb 155 2 := ⟨rfl, zwd1318, zwd10, by decide +kernel, by decide +kernel, by decide +kernel⟩
theorem zcb156 : zCb 156 3 := ⟨rfl, zwd1313, zwd10, by decide +kernel, by decide +kernel, by decide +kernel⟩
theorem zcb157 : zCb 157 2 := ⟨rfl, zwd1309, zwd1, by decide +kernel, by decide +kernel, by decide +kernel⟩
theorem zcb159 : zCb 159 1 := ⟨rfl, zwd1253, zwd10, by decide +kernel, by decide +kernel, by decide +kernel⟩
theorem zcb160 : zCb 160 1 := ⟨rfl, zwd1249, zwd1, by decide +kernel, by decide +kernel, by decide +kernel⟩
theorem zcb162 : zCb 162 3 := ⟨rfl, zwd996, zwd1, by decide +kernel, by decide +kernel, by decide +kernel⟩
theorem zcb164 : zCb 164 1 := ⟨rfl, zwd747, zwd1, by decide +kernel, by decide +kernel, by decide +kernel⟩
theorem zcb166 : zCb 166 1 := ⟨rfl, zwd603, zwd3, by decide +kernel, by decide +kernel, by decide +kernel⟩
theorem zcb167 : zCb 167 1 := ⟨rfl, zwd606, zwd3, by decide +kernel, by decide +kernel, by decide +kernel⟩
theorem zcb168 : zCb 168 2 := ⟨rfl, zwd617, zwd3, by decide +kernel, by decide +kernel, by decide +kernel⟩
theorem zcb169 : zCb 169 0 := ⟨rfl, zwd600, zwd3, by decide +kernel, by decide +kernel, by decide +kernel⟩
theorem zcb170 : zCb 170 0 := ⟨rfl, zwd569, zwd3, by decide +kernel, by decide +kernel, by decide +kernel⟩
theorem zcb171 : zCb 171 2 := ⟨rfl, zwd669, zwd3, by decide +kernel, by decide +kernel, by decide +kernel⟩
theorem zcb172 : zCb 172 0 := ⟨rfl, zwd740, zwd3, by decide +kernel, by decide +kernel, by decide +kernel⟩
theorem zcb173 : zCb 173 1 := ⟨rfl, zwd694, zwd3, by decide +kernel, by decide +kernel, by decide +kernel⟩
theorem zcb174 : zCb 174 2 := ⟨rfl, zwd691, zwd3, by decide +kernel, by decide +kernel, by decide +kernel⟩
theorem zcb175 : zCb 175 1 := ⟨rfl, zwd719, zwd3, by decide +kernel, by decide +kernel, by decide +kernel⟩
theorem zcb176 : zCb 176 2 := ⟨rfl, zwd702, zwd2, by decide +kernel, by decide +kernel, by decide +kernel⟩
theorem zcb177 : zCb 177 2 := ⟨rfl, zwd698, zwd2, by decide +kernel, by decide +kernel, by decide +kernel⟩
theorem zcb178 : zCb 178 1 := ⟨rfl, zwd687, zwd3, by decide +kernel, by decide +kernel, by decide +kernel⟩
theorem zcb179 : zCb 179 1 := ⟨rfl, zwd714, zwd3, by decide +kernel, by decide +kernel, by decide +kernel⟩
theorem zcb180 : zCb 180 2 := ⟨rfl, zwd731, zwd3, by decide +kernel, by decide +kernel, by decide +kernel⟩
theorem zcb181 : zCb 181 3 := ⟨rfl, zwd727, zwd2, by decide +kernel, by decide +kernel, by decide +kernel⟩
theorem zcb182 : zCb 182 1 := ⟨rfl, zwd723, zwd3, by decide +kernel, by decide +kernel, by decide +kernel⟩
theorem zcb183 : zCb 183 3 := ⟨rfl, zwd710, zwd2, by decide +kernel, by decide +kernel, by decide +kernel⟩
theorem zcb184 : zCb 184 1 := ⟨rfl, zwd706, zwd3, by decide +kernel, by decide +kernel, by decide +kernel⟩
theorem zcb185 : zCb 185 2 := ⟨rfl, zwd683, zwd3, by decide +kernel, by decide +kernel, by decide +kernel⟩
theorem zcb186 : zCb 186 1 := ⟨rfl, zwd673, zwd2, by decide +kernel, by decide +kernel, by decide +kernel⟩
theorem zcb187 : zCb 187 2 := ⟨rfl, zwd596, zwd3, by decide +kernel, by decide +kernel, by decide +kernel⟩
theorem zcb188 : zCb 188 2 := ⟨rfl, zwd565, zwd18, by decide +kernel, by decide +kernel, by decide +kernel⟩
theorem zcb189 : zCb 189 0 := ⟨rfl, zwd562, zwd2, by decide +kernel, by decide +kernel, by decide +kernel⟩
theorem zcb190 : zCb 190 0 := ⟨rfl, zwd588, zwd2, by decide +kernel, by decide +kernel, by decide +kernel⟩
theorem zcb191 : zCb 191 2 := ⟨rfl, zwd584, zwd2, by decide +kernel, by decide +kernel, by decide +kernel⟩
theorem zcb192 : zCb 192 1 := ⟨rfl, zwd580, zwd2, by decide +kernel, by decide +kernel, by decide +kernel⟩
theorem zcb193 : zCb 193 0 := ⟨rfl, zwd573, zwd2, by decide +kernel, by decide +kernel, by decide +kernel⟩
theorem zcb194 : zCb 194 3 := ⟨rfl, zwd555, zwd3, by decide +kernel, by decide +kernel, by decide +kernel⟩
theorem zcb195 : zCb 195 1 := ⟨rfl, zwd483, zwd1, by decide +kernel, by decide +kernel, by decide +kernel⟩
theorem zcb197 : zCb 197 1 := ⟨rfl, zwd1231, zwd9, by decide +kernel, by decide +kernel, by decide +kernel⟩
theorem zcb198 : zCb 198 1 := ⟨rfl, zwd1227, zwd9, by decide +kernel, by decide +kernel, by decide +kernel⟩
theorem zcb199 : zCb 199 1 := ⟨rfl, zwd1222, zwd1, by decide +kernel, by decide +kernel, by decide +kernel⟩
theorem zcb201 : zCb 201 2 := ⟨rfl, zwd792, zwd1, by decide +kernel, by decide +kernel, by decide +kernel⟩
theorem zcb203 : zCb 203 0 := ⟨rfl, zwd1370, zwd12, by decide +kernel, by decide +kernel, by decide +kernel⟩
theorem zcb204 : zCb 204 3 := ⟨rfl, zwd1569, zwd12, by decide +kernel, by decide +kernel, by decide +kernel⟩
theorem zcb205 : zCb 205 1 := ⟨rfl, zwd1697, zwd12, by decide +kernel, by decide +kernel, by decide +kernel⟩
theorem zcb206 : zCb 206 2 := ⟨rfl, zwd1729, zwd12, by decide +kernel, by decide +kernel, by decide +kernel⟩
theorem zcb207 : zCb 207 2 := ⟨rfl, zwd1573, zwd12, by decide +kernel, by decide +kernel, by decide +kernel⟩
theorem zcb208 : zCb 208 0 := ⟨rfl, zwd1733, zwd12, by decide +kernel, by decide +kernel, by decide +kernel⟩
theorem zcb209 : zCb 209 3 := ⟨rfl, zwd1642, zwd12, by decide +kernel, by decide +kernel, by decide +kernel⟩
theorem zcb210 : zCb 210 4 := ⟨rfl, zwd1725, zwd12, by decide +kernel, by decide +kernel, by decide +kernel⟩
theorem zcb211 : zCb 211 3 := ⟨rfl, zwd1737, zwd12, by decide +kernel, by decide +kernel, by decide +kernel⟩
theorem zcb212 : zCb 212 1 := ⟨rfl, zwd1709, zwd12, by decide +kernel, by decide +kernel, by decide +kernel⟩
theorem zcb213 : zCb 213 1 := ⟨rfl, zwd1741, zwd12, by decide +kernel, by decide +kernel, by decide +kernel⟩
theorem zcb214 : zCb 214 1 := ⟨rfl, zwd1665, zwd12, by decide +kernel, by decide +kernel, by decide +kernel⟩
theorem zcb215 : zCb 215 1 := ⟨rfl, zwd1677, zwd12, by decide +kernel, by decide +kernel, by decide +kernel⟩
theorem zcb216 : zCb 216 1 := ⟨rfl, zwd1673, zwd12, by decide +kernel, by decide +kernel, by decide +kernel⟩
theorem zcb217 : zCb 217 2 := ⟨rfl, zwd1681, zwd12, by decide +kernel, by decide +kernel, by decide +kernel⟩
theorem zcb218 : zCb 218 2 := ⟨rfl, zwd1669, zwd12, by decide +kernel, by decide +kernel, by decide +kernel⟩
theorem zcb219 : zCb 219 2 := ⟨rfl, zwd1717, zwd12, by decide +kernel, by decide +kernel, by decide +kernel⟩
theorem zcb220 : zCb 220 0 := ⟨rfl, zwd1761, zwd12, by decide +kernel, by decide +kernel, by decide +kernel⟩
theorem zcb221 : zCb 221 1 := ⟨rfl, zwd1713, zwd12, by decide +kernel, by decide +kernel, by decide +kernel⟩
theorem zcb222 : zCb 222 1 := ⟨rfl, zwd1757, zwd12, by decide +kernel, by decide +kernel, by decide +kernel⟩
theorem zcb223 : zCb 223 1 := ⟨rfl, zwd1782, zwd12, by decide +kernel, by decide +kernel, by decide +kernel⟩
theorem zcb224 : zCb 224 2 := ⟨rfl, zwd1778, zwd12, by decide +kernel, by decide +kernel, by decide +kernel⟩
theorem zcb225 : zCb 225 1 := ⟨rfl, zwd1774, zwd12, by decide +kernel, by decide +kernel, by decide +kernel⟩
theorem zcb226 : zCb 226 2 := ⟨rfl, zwd1790, zwd12, by decide +kernel, by decide +kernel, by decide +kernel⟩
theorem zcb227 : zCb 227 1 := ⟨rfl, zwd1769, zwd12, by decide +kernel, by decide +kernel, by decide +kernel⟩
theorem zcb228 : zCb 228 2 := ⟨rfl, zwd1765, zwd12, by decide +kernel, by decide +kernel, by decide +kernel⟩
theorem zcb229 : zCb 229 2 := ⟨rfl, zwd1971, zwd12, by decide +kernel, by decide +kernel, by decide +kernel⟩
theorem zcb230 : zCb 230 1 := ⟨rfl, zwd1753, zwd12, by decide +kernel, by decide +kernel, by decide +kernel⟩
theorem zcb231 : zCb 231 1 := ⟨rfl, zwd1607, zwd12, by decide +kernel, by decide +kernel, by decide +kernel⟩
theorem zcb232 : zCb 232 2 := ⟨rfl, zwd1894, zwd12, by decide +kernel, by decide +kernel, by decide +kernel⟩
theorem zcb233 : zCb 233 2 := ⟨rfl, zwd1946, zwd12, by decide +kernel, by decide +kernel, by decide +kernel⟩
theorem zcb234 : zCb 234 0 := ⟨rfl, zwd1942, zwd12, by decide +kernel, by decide +kernel, by decide +kernel⟩
theorem zcb235 : zCb 235 2 := ⟨rfl, zwd1938, zwd12, by decide +kernel, by decide +kernel, by decide +kernel⟩
theorem zcb236 : zCb 236 1 := ⟨rfl, zwd1846, zwd12, by decide +kernel, by decide +kernel, by decide +kernel⟩
theorem zcb237 : zCb 237 1 := ⟨rfl, zwd1850, zwd12, by decide +kernel, by decide +kernel, by decide +kernel⟩
theorem zcb238 : zCb 238 1 := ⟨rfl, zwd1842, zwd12, by decide +kernel, by decide +kernel, by decide +kernel⟩
theorem zcb239 : zCb 239 1 := ⟨rfl, zwd1838, zwd12, by decide +kernel, by decide +kernel, by decide +kernel⟩
theorem zcb240 : zCb 240 1 := ⟨rfl, zwd1862, zwd12, by decide +kernel, by decide +kernel, by decide +kernel⟩
theorem zcb241 : zCb 241 1 := ⟨rfl, zwd1866, zwd12, by decide +kernel, by decide +kernel, by decide +kernel⟩
theorem zcb242 : zCb 242 0 := ⟨rfl, zwd1798, zwd12, by decide +kernel, by decide +kernel, by decide +kernel⟩
theorem zcb243 : zCb 243 1 := ⟨rfl, zwd1802, zwd12, by decide +kernel, by decide +kernel, by decide +kernel⟩
theorem zcb244 : zCb 244 0 := ⟨rfl, zwd1826, zwd12, by decide +kernel, by decide +kernel, by decide +kernel⟩
theorem zcb245 : zCb 245 0 := ⟨rfl, zwd1870, zwd12, by decide +kernel, by decide +kernel, by decide +kernel⟩
theorem zcb246 : zCb 246 2 := ⟨rfl, zwd1858, zwd12, by decide +kernel, by decide +kernel, by decide +kernel⟩
theorem zcb247 : zCb 247 2 := ⟨rfl, zwd1874, zwd12, by decide +kernel, by decide +kernel, by decide +kernel⟩
theorem zcb248 : zCb 248 1 := ⟨rfl, zwd1991, zwd12, by decide +kernel, by decide +kernel, by decide +kernel⟩
theorem zcb249 : zCb 249 0 := ⟨rfl, zwd1906, zwd12, by decide +kernel, by decide +kernel, by decide +kernel⟩
theorem zcb250 : zCb 250 1 := ⟨rfl, zwd1926, zwd12, by decide +kernel, by decide +kernel, by decide +kernel⟩
theorem zcb251 : zCb 251 1 := ⟨rfl, zwd1955, zwd12, by decide +kernel, by decide +kernel, by decide +kernel⟩
theorem zcb252 : zCb 252 3 := ⟨rfl, zwd1959, zwd12, by decide +kernel, by decide +kernel, by decide +kernel⟩
theorem zcb253 : zCb 253 2 := ⟨rfl, zwd1878, zwd12, by decide +kernel, by decide +kernel, by decide +kernel⟩
theorem zcb254 : zCb 254 0 := ⟨rfl, zwd1685, zwd12, by decide +kernel, by decide +kernel, by decide +kernel⟩
theorem zcb255 : zCb 255 5 := ⟨rfl, zwd1562, zwd12, by decide +kernel, by decide +kernel, by decide +kernel⟩
theorem zcb256 : zCb 256 2 := ⟨rfl, zwd1854, zwd12, by decide +kernel, by decide +kernel, by decide +kernel⟩
theorem zcb257 : zCb 257 0 := ⟨rfl, zwd1934, zwd12, by decide +kernel, by decide +kernel, by decide +kernel⟩
theorem zcb258 : zCb 258 0 := ⟨rfl, zwd1967, zwd12, by decide +kernel, by decide +kernel, by decide +kernel⟩
theorem zcb259 : zCb 259 2 := ⟨rfl, zwd1963, zwd12, by decide +kernel, by decide +kernel, by decide +kernel⟩
theorem zcb260 : zCb 260 1 := ⟨rfl, zwd1910, zwd12, by decide +kernel, by decide +kernel, by decide +kernel⟩
theorem zcb261 : zCb 261 2 := ⟨rfl, zwd1918, zwd12, by decide +kernel, by decide +kernel, by decide +kernel⟩
theorem zcb262 : zCb 262 1 := ⟨rfl, zwd1914, zwd12, by decide +kernel, by decide +kernel, by decide +kernel⟩
theorem zcb263 : zCb 263 0 := ⟨rfl, zwd1902, zwd12, by decide +kernel, by decide +kernel, by decide +kernel⟩
theorem zcb264 : zCb 264 1 := ⟨rfl, zwd1898, zwd12, by decide +kernel, by decide +kernel, by decide +kernel⟩
theorem zcb265 : zCb 265 3 := ⟨rfl, zwd1983, zwd12, by decide +kernel, by decide +kernel, by decide +kernel⟩
theorem zcb266 : zCb 266 2 := ⟨rfl, zwd1979, zwd12, by decide +kernel, by decide +kernel, by decide +kernel⟩
theorem zcb267 : zCb 267 0 := ⟨rfl, zwd1975, zwd12, by decide +kernel, by decide +kernel, by decide +kernel⟩
theorem zcb268 : zCb 268 1 := ⟨rfl, zwd1834, zwd12, by decide +kernel, by decide +kernel, by decide +kernel⟩
theorem zcb269 : zCb 269 3 := ⟨rfl, zwd1705, zwd12, by decide +kernel, by decide +kernel, by decide +kernel⟩
theorem zcb270 : zCb 270 2 := ⟨rfl, zwd1822, zwd12, by decide +kernel, by decide +kernel, by decide +kernel⟩
theorem zcb271 : zCb 271 2 := ⟨rfl, zwd1814, zwd12, by decide +kernel, by decide +kernel, by decide +kernel⟩
theorem zcb272 : zCb 272 2 := ⟨rfl, zwd1810, zwd12, by decide +kernel, by decide +kernel, by decide +kernel⟩
theorem zcb273 : zCb 273 1 := ⟨rfl, zwd1806, zwd12, by decide +kernel, by decide +kernel, by decide +kernel⟩
theorem zcb274 : zCb 274 3 := ⟨rfl, zwd1794, zwd12, by decide +kernel, by decide +kernel, by decide +kernel⟩
theorem zcb275 : zCb 275 0 := ⟨rfl, zwd1987, zwd12, by decide +kernel, by decide +kernel, by decide +kernel⟩
theorem zcb276 : zCb 276 3 := ⟨rfl, zwd1749, zwd12, by decide +kernel, by decide +kernel, by decide +kernel⟩
theorem zcb277 : zCb 277 2 := ⟨rfl, zwd1886, zwd12, by decide +kernel, by decide +kernel, by decide +kernel⟩
theorem zcb278 : zCb 278 3 := ⟨rfl, zwd1890, zwd12, by decide +kernel, by decide +kernel, by decide +kernel⟩
theorem zcb279 : zCb 279 2 := ⟨rfl, zwd1882, zwd12, by decide +kernel, by decide +kernel, by decide +kernel⟩
theorem zcb280 : zCb 280 3 := ⟨rfl, zwd1721, zwd12, by decide +kernel, by decide +kernel, by decide +kernel⟩
theorem zcb281 : zCb 281 4 := ⟨rfl, zwd1830, zwd12, by decide +kernel, by decide +kernel, by decide +kernel⟩
theorem zcb282 : zCb 282 4 := ⟨rfl, zwd1745, zwd12, by decide +kernel, by decide +kernel, by decide +kernel⟩
theorem zcb283 : zCb 283 4 := ⟨rfl, zwd1786, zwd12, by decide +kernel, by decide +kernel, by decide +kernel⟩
theorem zcb284 : zCb 284 2 := ⟨rfl, zwd1693, zwd12, by decide +kernel, by decide +kernel, by decide +kernel⟩
theorem zcb285 : zCb 285 2 := ⟨rfl, zwd1951, zwd12, by decide +kernel, by decide +kernel, by decide +kernel⟩
theorem zcb286 : zCb 286 1 := ⟨rfl, zwd1930, zwd12, by decide +kernel, by decide +kernel, by decide +kernel⟩
theorem zcb287 : zCb 287 0 := ⟨rfl, zwd1558, zwd12, by decide +kernel, by decide +kernel, by decide +kernel⟩
theorem zcb288 : zCb 288 3 := ⟨rfl, zwd1818, zwd12, by decide +kernel, by decide +kernel, by decide +kernel⟩
theorem zcb289 : zCb 289 1 := ⟨rfl, zwd1689, zwd12, by decide +kernel, by decide +kernel, by decide +kernel⟩
theorem zcb290 : zCb 290 1 := ⟨rfl, zwd1581, zwd12, by decide +kernel, by decide +kernel, by decide +kernel⟩
theorem zcb291 : zCb 291 0 := ⟨rfl, zwd1577, zwd12, by decide +kernel, by decide +kernel, by decide +kernel⟩
theorem zcb292 : zCb 292 2 := ⟨rfl, zwd1604, zwd12, by decide +kernel, by decide +kernel, by decide +kernel⟩
theorem zcb293 : zCb 293 1 := ⟨rfl, zwd1654, zwd12, by decide +kernel, by decide +kernel, by decide +kernel⟩
theorem zcb294 : zCb 294 6 := ⟨rfl, zwd1600, zwd12, by decide +kernel, by decide +kernel, by decide +kernel⟩
theorem zcb295 : zCb 295 0 := ⟨rfl, zwd1597, zwd12, by decide +kernel, by decide +kernel, by decide +kernel⟩
theorem zcb296 : zCb 296 6 := ⟨rfl, zwd1593, zwd12, by decide +kernel, by decide +kernel, by decide +kernel⟩
theorem zcb297 : zCb 297 0 := ⟨rfl, zwd1589, zwd12, by decide +kernel, by decide +kernel, by decide +kernel⟩
theorem zcb298 : zCb 298 1 := ⟨rfl, zwd1622, zwd12, by decide +kernel, by decide +kernel, by decide +kernel⟩
theorem zcb299 : zCb 299 2 := ⟨rfl, zwd1619, zwd12, by decide +kernel, by decide +kernel, by decide +kernel⟩
theorem zcb300 : zCb 300 0 := ⟨rfl, zwd1646, zwd12, by decide +kernel, by decide +kernel, by decide +kernel⟩
theorem zcb301 : zCb 301 0 := ⟨rfl, zwd1615, zwd12, by decide +kernel, by decide +kernel, by decide +kernel⟩
theorem zcb302 : zCb 302 0 := ⟨rfl, zwd1635, zwd12, by decide +kernel, by decide +kernel, by decide +kernel⟩
theorem zcb303 : zCb 303 2 := ⟨rfl, zwd1631, zwd12, by decide +kernel, by decide +kernel, by decide +kernel⟩
theorem zcb304 : zCb 304 0 := ⟨rfl, zwd1650, zwd12, by decide +kernel, by decide +kernel, by decide +kernel⟩
theorem zcb305 : zCb 305 0 := ⟨rfl, zwd1627, zwd12, by decide +kernel, by decide +kernel, by decide +kernel⟩
theorem zcb306 : zCb 306 1 := ⟨rfl, zwd1639, zwd12, by decide +kernel, by decide +kernel, by decide +kernel⟩
theorem zcb307 : zCb 307 0 := ⟨rfl, zwd1611, zwd12, by decide +kernel, by decide +kernel, by decide +kernel⟩
theorem zcb308 : zCb 308 0 := ⟨rfl, zwd1585, zwd12, by decide +kernel, by decide +kernel, by decide +kernel⟩
theorem zcb309 : zCb 309 2 := ⟨rfl, zwd1657, zwd12, by decide +kernel, by decide +kernel, by decide +kernel⟩
theorem zcb310 : zCb 310 0 := ⟨rfl, zwd1661, zwd12, by decide +kernel, by decide +kernel, by decide +kernel⟩
theorem zcb311 : zCb 311 1 := ⟨rfl, zwd1566, zwd12, by decide +kernel, by decide +kernel, by decide +kernel⟩
theorem zcb312 : zCb 312 1 := ⟨rfl, zwd1922, zwd12, by decide +kernel, by decide +kernel, by decide +kernel⟩
theorem zcb313 : zCb 313 2 := ⟨rfl, zwd1701, zwd12, by decide +kernel, by decide +kernel, by decide +kernel⟩
def zCBb_0 : List (Nat × Nat) := [(0, 0), (1, 0), (2, 0), (3, 0), (4, 0), (5, 0), (6, 0), (7, 0), (8, 0), (9, 0), (10, 0), (11, 1), (12, 0), (13, 1), (14, 5), (15, 0), (16, 2), (17, 0), (18, 1), (19, 2), (20, 0), (21, 1), (22, 1), (23, 3), (24, 1)]
theorem zCBb_0_ok : ∀ q ∈ zCBb_0, zCb q.1 q.2 := List.forall_mem_cons.mpr ⟨zcb0, List.forall_mem_cons.mpr ⟨zcb1, List.forall_mem_cons.mpr ⟨zcb2, List.forall_mem_cons.mpr ⟨zcb3, List.forall_mem_cons.mpr ⟨zcb4, List.forall_mem_cons.mpr ⟨zcb5, List.forall_mem_cons.mpr ⟨zcb6, List.forall_mem_cons.mpr ⟨zcb7, List.forall_mem_cons.mpr ⟨zcb8, List.forall_mem_cons.mpr ⟨zcb9, List.forall_mem_cons.mpr ⟨zcb10, List.forall_mem_cons.mpr ⟨zcb11, List.forall_mem_cons.mpr ⟨zcb12, List.forall_mem_cons.mpr ⟨zcb13, List.forall_mem_cons.mpr ⟨zcb14, List.forall_mem_cons.mpr ⟨zcb15, List.forall_mem_cons.mpr ⟨zcb16, List.forall_mem_cons.mpr ⟨zcb17, List.forall_mem_cons.mpr ⟨zcb18, List.forall_mem_cons.mpr ⟨zcb19, List.forall_mem_cons.mpr ⟨zcb20, List.forall_mem_cons.mpr ⟨zcb21, List.forall_mem_cons.mpr ⟨zcb22, List.forall_mem_cons.mpr ⟨zcb23, List.forall_mem_cons.mpr ⟨zcb24, fun _ h => nomatch h⟩⟩⟩⟩⟩⟩⟩⟩⟩⟩⟩⟩⟩⟩⟩⟩⟩⟩⟩⟩⟩⟩⟩⟩⟩
def zCBb_1 : List (Nat × Nat) := [(25, 1), (26, 2), (27, 3), (28, 1), (29, 1), (30, 3), (31, 2), (32, 3), (33, 2), (34, 4), (35, 3), (37, 1), (39, 2), (40, 2), (41, 1), (42, 1), (43, 4), (44, 3), (45, 2), (46, 1), (47, 3), (48, 2), (49, 2), (50, 3), (51, 2)]
theorem zCBb_1_ok : ∀ q ∈ zCBb_1, zCb q.1 q.2 := List.forall_mem_cons.mpr ⟨zcb25, List.forall_mem_cons.mpr ⟨zcb26, List.forall_mem_cons.mpr ⟨zcb27, List.forall_mem_cons.mpr ⟨zcb28, List.forall_mem_cons.mpr ⟨zcb29, List.forall_mem_cons.mpr ⟨zcb30, List.forall_mem_cons.mpr ⟨zcb31, List.forall_mem_cons.mpr ⟨zcb32, List.forall_mem_cons.mpr ⟨zcb33, List.forall_mem_cons.mpr ⟨zcb34, List.forall_mem_cons.mpr ⟨zcb35, List.forall_mem_cons.mpr ⟨zcb37, List.forall_mem_cons.mpr ⟨zcb39, List.forall_mem_cons.mpr ⟨zcb40, List.forall_mem_cons.mpr ⟨zcb41, List.forall_mem_cons.mpr ⟨zcb42, List.forall_mem_cons.mpr ⟨zcb43, List.forall_mem_cons.mpr ⟨zcb44, List.forall_mem_cons.mpr ⟨zcb45, List.forall_mem_cons.mpr ⟨zcb46, List.forall_mem_cons.mpr ⟨zcb47, List.forall_mem_cons.mpr ⟨zcb48, List.forall_mem_cons.mpr ⟨zcb49, List.forall_mem_cons.mpr ⟨zcb50, List.forall_mem_cons.mpr ⟨zcb51, fun _ h => nomatch h⟩⟩⟩⟩⟩⟩⟩⟩⟩⟩⟩⟩⟩⟩⟩⟩⟩⟩⟩⟩⟩⟩⟩⟩⟩
def zCBb_2 : List (Nat × Nat) := [(53, 1), (54, 2), (55, 1), (56, 1), (57, 3), (58, 0), (59, 1), (60, 1), (61, 2), (62, 4), (63, 2), (65, 1), (66, 1), (67, 2), (68, 4), (69, 5), (70, 3), (71, 2), (73, 3), (74, 3), (75, 2), (76, 1), (78, 3), (79, 2), (80, 3)]
theorem zCBb_2_ok : ∀ q ∈ zCBb_2, zCb q.1 q.2 := List.forall_mem_cons.mpr ⟨zcb53, List.forall_mem_cons.mpr ⟨zcb54, List.forall_mem_cons.mpr ⟨zcb55, List.forall_mem_cons.mpr ⟨zcb56, List.forall_mem_cons.mpr ⟨zcb57, List.forall_mem_cons.mpr ⟨zcb58, List.forall_mem_cons.mpr ⟨zcb59, List.forall_mem_cons.mpr ⟨zcb60, List.forall_mem_cons.mpr ⟨zcb61, List.forall_mem_cons.mpr ⟨zcb62, List.forall_mem_cons.mpr ⟨zcb63, List.forall_mem_cons.mpr ⟨zcb65, List.forall_mem_cons.mpr ⟨zcb66, List.forall_mem_cons.mpr ⟨zcb67, List.forall_mem_cons.mpr ⟨zcb68, List.forall_mem_cons.mpr ⟨zcb69, List.forall_mem_cons.mpr ⟨zcb70, List.forall_mem_cons.mpr ⟨zcb71, List.forall_mem_cons.mpr ⟨zcb73, List.forall_mem_cons.mpr ⟨zcb74, List.forall_mem_cons.mpr ⟨zcb75, List.forall_mem_cons.mpr ⟨zcb76, List.forall_mem_cons.mpr ⟨zcb78, List.forall_mem_cons.mpr ⟨zcb79, List.forall_mem_cons.mpr ⟨zcb80, fun _ h => nomatch h⟩⟩⟩⟩⟩⟩⟩⟩⟩⟩⟩⟩⟩⟩⟩⟩⟩⟩⟩⟩⟩⟩⟩⟩⟩
def zCBb_3 : List (Nat × Nat) := [(81, 3), (82, 1), (83, 2), (84, 1), (85, 2), (87, 2), (88, 3), (89, 1), (91, 3), (92, 2), (93, 2), (94, 1), (96, 3), (98, 2), (99, 2), (100, 3), (101, 2), (102, 2), (104, 2), (106, 3), (107, 2), (109, 1), (110, 2), (111, 3), (112, 1)]
theorem zCBb_3_ok : ∀ q ∈ zCBb_3, zCb q.1 q.2 := List.forall_mem_cons.mpr ⟨zcb81, List.forall_mem_cons.mpr ⟨zcb82, List.forall_mem_cons.mpr ⟨zcb83, List.forall_mem_cons.mpr ⟨zcb84, List.forall_mem_cons.mpr ⟨zcb85, List.forall_mem_cons.mpr ⟨zcb87, List.forall_mem_cons.mpr ⟨zcb88, List.forall_mem_cons.mpr ⟨zcb89, List.forall_mem_cons.mpr ⟨zcb91, List.forall_mem_cons.mpr ⟨zcb92, List.forall_mem_cons.mpr ⟨zcb93, List.forall_mem_cons.mpr ⟨zcb94, List.forall_mem_cons.mpr ⟨zcb96, List.forall_mem_cons.mpr ⟨zcb98, List.forall_mem_cons.mpr ⟨zcb99, List.forall_mem_cons.mpr ⟨zcb100, List.forall_mem_cons.mpr ⟨zcb101, List.forall_mem_cons.mpr ⟨zcb102, List.forall_mem_cons.mpr ⟨zcb104, List.forall_mem_cons.mpr ⟨zcb106, List.forall_mem_cons.mpr ⟨zcb107, List.forall_mem_cons.mpr ⟨zcb109, List.forall_mem_cons.mpr ⟨zcb110, List.forall_mem_cons.mpr ⟨zcb111, List.forall_mem_cons.mpr ⟨zcb112, fun _ h => nomatch h⟩⟩⟩⟩⟩⟩⟩⟩⟩⟩⟩⟩⟩⟩⟩⟩⟩⟩⟩⟩⟩⟩⟩⟩⟩
def zCBb_4 : List (Nat × Nat) := [(113, 2), (114, 2), (115, 1), (116, 0), (117, 1), (119, 1), (120, 1), (121, 3), (123, 2), (125, 3), (126, 2), (128, 3), (129, 3), (131, 3), (133, 3), (134, 1), (135, 1), (136, 3), (137, 2), (138, 3), (139, 3), (140, 2), (142, 3), (144, 4), (146, 4)]
theorem zCBb_4_ok : ∀ q ∈ zCBb_4, zCb q.1 q.2 := List.forall_mem_cons.mpr ⟨zcb113, List.forall_mem_cons.mpr ⟨zcb114, List.forall_mem_cons.mpr ⟨zcb115, List.forall_mem_cons.mpr ⟨zcb116, List.forall_mem_cons.mpr ⟨zcb117, List.forall_mem_cons.mpr ⟨zcb119, List.forall_mem_cons.mpr ⟨zcb120, List.forall_mem_cons.mpr ⟨zcb121, List.forall_mem_cons.mpr ⟨zcb123, List.forall_mem_cons.mpr ⟨zcb125, List.forall_mem_cons.mpr ⟨zcb126, List.forall_mem_cons.mpr ⟨zcb128, List.forall_mem_cons.mpr ⟨zcb129, List.forall_mem_cons.mpr ⟨zcb131, List.forall_mem_cons.mpr ⟨zcb133, List.forall_mem_cons.mpr ⟨zcb134, List.forall_mem_cons.mpr ⟨zcb135, List.forall_mem_cons.mpr ⟨zcb136, List.forall_mem_cons.mpr ⟨zcb137, List.forall_mem_cons.mpr ⟨zcb138, List.forall_mem_cons.mpr ⟨zcb139, List.forall_mem_cons.mpr ⟨zcb140, List.forall_mem_cons.mpr ⟨zcb142, List.forall_mem_cons.mpr ⟨zcb144, List.forall_mem_cons.mpr ⟨zcb146, fun _ h => nomatch h⟩⟩⟩⟩⟩⟩⟩⟩⟩⟩⟩⟩⟩⟩⟩⟩⟩⟩⟩⟩⟩⟩⟩⟩⟩
def zCBb_5 : List (Nat × Nat) := [(148, 4), (150, 2), (152, 4), (153, 2), (154, 1), (155, 2), (156, 3), (157, 2), (159, 1), (160, 1), (162, 3), (164, 1), (166, 1), (167, 1), (168, 2), (169, 0), (170, 0), (171, 2), (172, 0), (173, 1), (174, 2), (175, 1), (176, 2), (177, 2), (178, 1)]
theorem zCBb_5_ok : ∀ q ∈ zCBb_5, zCb q.1 q.2 := List.forall_mem_cons.mpr ⟨zcb148, List.forall_mem_cons.mpr ⟨zcb150, List.forall_mem_cons.mpr ⟨zcb152, List.forall_mem_cons.mpr ⟨zcb153, List.forall_mem_cons.mpr ⟨zcb154, List.forall_mem_cons.mpr ⟨zcb155, List.forall_mem_cons.mpr ⟨zcb156, List.forall_mem_cons.mpr ⟨zcb157, List.forall_mem_cons.mpr ⟨zcb159, List.forall_mem_cons.mpr ⟨zcb160, List.forall_mem_cons.mpr ⟨zcb162, List.forall_mem_cons.mpr ⟨zcb164, List.forall_mem_cons.mpr ⟨zcb166, List.forall_mem_cons.mpr ⟨zcb167, List.forall_mem_cons.mpr ⟨zcb168, List.forall_mem_cons.mpr ⟨zcb169, List.forall_mem_cons.mpr ⟨zcb170, List.forall_mem_cons.mpr ⟨zcb171, List.forall_mem_cons.mpr ⟨zcb172, List.forall_mem_cons.mpr ⟨zcb173, List.forall_mem_cons.mpr ⟨zcb174, List.forall_mem_cons.mpr ⟨zcb175, List.forall_mem_cons.mpr ⟨zcb176, List.forall_mem_cons.mpr ⟨zcb177, List.forall_mem_cons.mpr ⟨zcb178, fun _ h => nomatch h⟩⟩⟩⟩⟩⟩⟩⟩⟩⟩⟩⟩⟩⟩⟩⟩⟩⟩⟩⟩⟩⟩⟩⟩⟩
def zCBb_6 : List (Nat × Nat) := [(179, 1), (180, 2), (181, 3), (182, 1), (183, 3), (184, 1), (185, 2), (186, 1), (187, 2), (188, 2), (189, 0), (190, 0), (191, 2), (192, 1), (193, 0), (194, 3), (195, 1), (197, 1), (198, 1), (199, 1), (201, 2), (203, 0), (204, 3), (205, 1), (206, 2)]
theorem zCBb_6_ok : ∀ q ∈ zCBb_6, zCb q.1 q.2 := List.forall_mem_cons.mpr ⟨zcb179, List.forall_mem_cons.mpr ⟨zcb180, List.forall_mem_cons.mpr ⟨zcb181, List.forall_mem_cons.mpr ⟨zcb182, List.forall_mem_cons.mpr ⟨zcb183, List.forall_mem_cons.mpr ⟨zcb184, List.forall_mem_cons.mpr ⟨zcb185, List.forall_mem_cons.mpr ⟨zcb186, List.forall_mem_cons.mpr ⟨zcb187, List.forall_mem_cons.mpr ⟨zcb188, List.forall_mem_cons.mpr ⟨zcb189, List.forall_mem_cons.mpr ⟨zcb190, List.forall_mem_cons.mpr ⟨zcb191, List.forall_mem_cons.mpr ⟨zcb192, List.forall_mem_cons.mpr ⟨zcb193, List.forall_mem_cons.mpr ⟨zcb194, List.forall_mem_cons.mpr ⟨zcb195, List.forall_mem_cons.mpr ⟨zcb197, List.forall_mem_cons.mpr ⟨zcb198, List.forall_mem_cons.mpr ⟨zcb199, List.forall_mem_cons.mpr ⟨zcb201, List.forall_mem_cons.mpr ⟨zcb203, List.forall_mem_cons.mpr ⟨zcb204, List.forall_mem_cons.mpr ⟨zcb205, List.forall_mem_cons.mpr ⟨zcb206, fun _ h => nomatch h⟩⟩⟩⟩⟩⟩⟩⟩⟩⟩⟩⟩⟩⟩⟩⟩⟩⟩⟩⟩⟩⟩⟩⟩⟩
def zCBb_7 : List (Nat × Nat) := [(207, 2), (208, 0), (209, 3), (210, 4), (211, 3), (212, 1), (213, 1), (214, 1), (215, 1), (216, 1), (217, 2), (218, 2), (219, 2), (220, 0), (221, 1), (222, 1), (223, 1), (224, 2), (225, 1), (226, 2), (227, 1), (228, 2), (229, 2), (230, 1), (231, 1)]
theorem zCBb_7_ok : ∀ q ∈ zCBb_7, zCb q.1 q.2 := List.forall_mem_cons.mpr ⟨zcb207, List.forall_mem_cons.mpr ⟨zcb208, List.forall_mem_cons.mpr ⟨zcb209, List.forall_mem_cons.mpr ⟨zcb210, List.forall_mem_cons.mpr ⟨zcb211, List.forall_mem_cons.mpr ⟨zcb212, List.forall_mem_cons.mpr ⟨zcb213, List.forall_mem_cons.mpr ⟨zcb214, List.forall_mem_cons.mpr ⟨zcb215, List.forall_mem_cons.mpr ⟨zcb216, List.forall_mem_cons.mpr ⟨zcb217, List.forall_mem_cons.mpr ⟨zcb218, List.forall_mem_cons.mpr ⟨zcb219, List.forall_mem_cons.mpr ⟨zcb220, List.forall_mem_cons.mpr ⟨zcb221, List.forall_mem_cons.mpr ⟨zcb222, List.forall_mem_cons.mpr ⟨zcb223, List.forall_mem_cons.mpr ⟨zcb224, List.forall_mem_cons.mpr ⟨zcb225, List.forall_mem_cons.mpr ⟨zcb226, List.forall_mem_cons.mpr ⟨zcb227, List.forall_mem_cons.mpr ⟨zcb228, List.forall_mem_cons.mpr ⟨zcb229, List.forall_mem_cons.mpr ⟨zcb230, List.forall_mem_cons.mpr ⟨zcb231, fun _ h => nomatch h⟩⟩⟩⟩⟩⟩⟩⟩⟩⟩⟩⟩⟩⟩⟩⟩⟩⟩⟩⟩⟩⟩⟩⟩⟩
def zCBb_8 : List (Nat × Nat) := [(232, 2), (233, 2), (234, 0), (235, 2), (236, 1), (237, 1), (238, 1), (239, 1), (240, 1), (241, 1), (242, 0), (243, 1), (244, 0), (245, 0), (246, 2), (247, 2), (248, 1), (249, 0), (250, 1), (251, 1), (252, 3), (253, 2), (254, 0), (255, 5), (256, 2)]
theorem zCBb_8_ok : ∀ q ∈ zCBb_8, zCb q.1 q.2 := List.forall_mem_cons.mpr ⟨zcb232, List.forall_mem_cons.mpr ⟨zcb233, List.forall_mem_cons.mpr ⟨zcb234, List.forall_mem_cons.mpr ⟨zcb235, List.forall_mem_cons.mpr ⟨zcb236, List.forall_mem_cons.mpr ⟨zcb237, List.forall_mem_cons.mpr ⟨zcb238, List.forall_mem_cons.mpr ⟨zcb239, List.forall_mem_cons.mpr ⟨zcb240, List.forall_mem_cons.mpr ⟨zcb241, List.forall_mem_cons.mpr ⟨zcb242, List.forall_mem_cons.mpr ⟨zcb243, List.forall_mem_cons.mpr ⟨zcb244, List.forall_mem_cons.mpr ⟨zcb245, List.forall_mem_cons.mpr ⟨zcb246, List.forall_mem_cons.mpr ⟨zcb247, List.forall_mem_cons.mpr ⟨zcb248, List.forall_mem_cons.mpr ⟨zcb249, List.forall_mem_cons.mpr ⟨zcb250, List.forall_mem_cons.mpr ⟨zcb251, List.forall_mem_cons.mpr ⟨zcb252, List.forall_mem_cons.mpr ⟨zcb253, List.forall_mem_cons.mpr ⟨zcb254, List.forall_mem_cons.mpr ⟨zcb255, List.forall_mem_cons.mpr ⟨zcb256, fun _ h => nomatch h⟩⟩⟩⟩⟩⟩⟩⟩⟩⟩⟩⟩⟩⟩⟩⟩⟩⟩⟩⟩⟩⟩⟩⟩⟩
def zCBb_9 : List (Nat × Nat) := [(257, 0), (258, 0), (259, 2), (260, 1), (261, 2), (262, 1), (263, 0), (264, 1), (265, 3), (266, 2), (267, 0), (268, 1), (269, 3), (270, 2), (271, 2), (272, 2), (273, 1), (274, 3), (275, 0), (276, 3), (277, 2), (278, 3), (279, 2), (280, 3), (281, 4)]
theorem zCBb_9_ok : ∀ q ∈ zCBb_9, zCb q.1 q.2 := List.forall_mem_cons.mpr ⟨zcb257, List.forall_mem_cons.mpr ⟨zcb258, List.forall_mem_cons.mpr ⟨zcb259, List.forall_mem_cons.mpr ⟨zcb260, List.forall_mem_cons.mpr ⟨zcb261, List.forall_mem_cons.mpr ⟨zcb262, List.forall_mem_cons.mpr ⟨zcb263, List.forall_mem_cons.mpr ⟨zcb264, List.forall_mem_cons.mpr ⟨zcb265, List.forall_mem_cons.mpr ⟨zcb266, List.forall_mem_cons.mpr ⟨zcb267, List.forall_mem_cons.mpr ⟨zcb268, List.forall_mem_cons.mpr ⟨zcb269, List.forall_mem_cons.mpr ⟨zcb270, List.forall_mem_cons.mpr ⟨zcb271, List.forall_mem_cons.mpr ⟨zcb272, List.forall_mem_cons.mpr ⟨zcb273, List.forall_mem_cons.mpr ⟨zcb274, List.forall_mem_cons.mpr ⟨zcb275, List.forall_mem_cons.mpr ⟨zcb276, List.forall_mem_cons.mpr ⟨zcb277, List.forall_mem_cons.mpr ⟨zcb278, List.forall_mem_cons.mpr ⟨zcb279, List.forall_mem_cons.mpr ⟨zcb280, List.forall_mem_cons.mpr ⟨zcb281, fun _ h => nomatch h⟩⟩⟩⟩⟩⟩⟩⟩⟩⟩⟩⟩⟩⟩⟩⟩⟩⟩⟩⟩⟩⟩⟩⟩⟩
def zCBb_10 : List (Nat × Nat) := [(282, 4), (283, 4), (284, 2), (285, 2), (286, 1), (287, 0), (288, 3), (289, 1), (290, 1), (291, 0), (292, 2), (293, 1), (294, 6), (295, 0), (296, 6), (297, 0), (298, 1), (299, 2), (300, 0), (301, 0), (302, 0), (303, 2), (304, 0), (305, 0), (306, 1)]
theorem zCBb_10_ok : ∀ q ∈ zCBb_10, zCb q.1 q.2 := List.forall_mem_cons.mpr ⟨zcb282, List.forall_mem_cons.mpr ⟨zcb283, List.forall_mem_cons.mpr ⟨zcb284, List.forall_mem_cons.mpr ⟨zcb285, List.forall_mem_cons.mpr ⟨zcb286, List.forall_mem_cons.mpr ⟨zcb287, List.forall_mem_cons.mpr ⟨zcb288, List.forall_mem_cons.mpr ⟨zcb289, List.forall_mem_cons.mpr ⟨zcb290, List.forall_mem_cons.mpr ⟨zcb291, List.forall_mem_cons.mpr ⟨zcb292, List.forall_mem_cons.mpr ⟨zcb293, List.forall_mem_cons.mpr ⟨zcb294, List.forall_mem_cons.mpr ⟨zcb295, List.forall_mem_cons.mpr ⟨zcb296, List.forall_mem_cons.mpr ⟨zcb297, List.forall_mem_cons.mpr ⟨zcb298, List.forall_mem_cons.mpr ⟨zcb299, List.forall_mem_cons.mpr ⟨zcb300, List.forall_mem_cons.mpr ⟨zcb301, List.forall_mem_cons.mpr ⟨zcb302, List.forall_mem_cons.mpr ⟨zcb303, List.forall_mem_cons.mpr ⟨zcb304, List.forall_mem_cons.mpr ⟨zcb305, List.forall_mem_cons.mpr ⟨zcb306, fun _ h => nomatch h⟩⟩⟩⟩⟩⟩⟩⟩⟩⟩⟩⟩⟩⟩⟩⟩⟩⟩⟩⟩⟩⟩⟩⟩⟩
def zCBb_11 : List (Nat × Nat) := [(307, 0), (308, 0), (309, 2), (310, 0), (311, 1), (312, 1), (313, 2)]
theorem zCBb_11_ok : ∀ q ∈ zCBb_11, zCb q.1 q.2 := List.forall_mem_cons.mpr ⟨zcb307, List.forall_mem_cons.mpr ⟨zcb308, List.forall_mem_cons.mpr ⟨zcb309, List.forall_mem_cons.mpr ⟨zcb310, List.forall_mem_cons.mpr ⟨zcb311, List.forall_mem_cons.mpr ⟨zcb312, List.forall_mem_cons.mpr ⟨zcb313, fun _ h => nomatch h⟩⟩⟩⟩⟩⟩⟩
def zCBb : List (Nat × Nat) := zCBb_0 ++ (zCBb_1 ++ (zCBb_2 ++ (zCBb_3 ++ (zCBb_4 ++ (zCBb_5 ++ (zCBb_6 ++ (zCBb_7 ++ (zCBb_8 ++ (zCBb_9 ++ (zCBb_10 ++ (zCBb_11)))))))))))
theorem zCBb_ok : ∀ q ∈ zCBb, zCb q.1 q.2 := List.forall_mem_append.mpr ⟨zCBb_0_ok, List.forall_mem_append.mpr ⟨zCBb_1_ok, List.forall_mem_append.mpr ⟨zCBb_2_ok, List.forall_mem_append.mpr ⟨zCBb_3_ok, List.forall_mem_append.mpr ⟨zCBb_4_ok, List.forall_mem_append.mpr ⟨zCBb_5_ok, List.forall_mem_append.mpr ⟨zCBb_6_ok, List.forall_mem_append.mpr ⟨zCBb_7_ok, List.forall_mem_append.mpr ⟨zCBb_8_ok, List.forall_mem_append.mpr ⟨zCBb_9_ok, List.forall_mem_append.mpr ⟨zCBb_10_ok, zCBb_11_ok⟩⟩⟩⟩⟩⟩⟩⟩⟩⟩⟩
theorem zcw36 : zCw 36 5 := ⟨_, rfl, zwd860, zwd0, by decide +kernel, by decide +kernel, by decide +kernel⟩
theorem zcw38 : zCw 38 3 := ⟨_, rfl, zwd867, zwd0, by decide +kernel, by decide +kernel, by decide +kernel⟩
theorem zcw52 : zCw 52 4 := ⟨_, rfl, zwd1353, zwd0, by decide +kernel, by decide +kernel, by decide +kernel⟩
theorem zcw64 : zCw 64 4 := ⟨_, rfl, zwd1152, zwd0, by decide +kernel, by decide +kernel, by decide +kernel⟩
theorem zcw72 : zCw 72 4 := ⟨_, rfl, zwd1256, zwd0, by decide +kernel, by decide +kernel, by decide +kernel⟩
theorem zcw77 : zCw 77 3 := ⟨_, rfl, zwd1018, zwd0, by decide +kernel, by decide +kernel, by decide +kernel⟩
theorem zcw86 : zCw 86 4 := ⟨_, rfl, zwd1065, zwd0, by decide +kernel, by decide +kernel, by decide +kernel⟩
theorem zcw90 : zCw 90 3 := ⟨_, rfl, zwd1234, zwd0, by decide +kernel, by decide +kernel, by decide +kernel⟩
theorem zcw95 : zCw 95 3 := ⟨_, rfl, zwd1289, zwd0, by decide +kernel, by decide +kernel, by decide +kernel⟩
theorem zcw97 : zCw 97 5 := ⟨_, rfl, zwd1333, zwd0, by decide +kernel, by decide +kernel, by decide +kernel⟩
theorem zcw103 : zCw 103 4 := ⟨_, rfl, zwd1076, zwd0, by decide +kernel, by decide +kernel, by decide +kernel⟩
theorem zcw105 : zCw 105 4 := ⟨_, rfl, zwd1036, zwd0, by decide +kernel, by decide +kernel, by decide +kernel⟩
theorem zcw108 : zCw 108 4 := ⟨_, rfl, zwd1340, zwd0, by decide +kernel, by decide +kernel, by decide +kernel⟩
theorem zcw118 : zCw 118 3 := ⟨_, rfl, zwd1170, zwd0, by decide +kernel, by decide +kernel, by decide +kernel⟩
theorem zcw122 : zCw 122 5 := ⟨_, rfl, zwd801, zwd0, by decide +kernel, by decide +kernel, by decide +kernel⟩
theorem zcw124 : zCw 124 4 := ⟨_, rfl, zwd1000, zwd0, by decide +kernel, by decide +kernel, by decide +kernel⟩
theorem zcw127 : zCw 127 4 := ⟨_, rfl, zwd976, zwd0, by decide +kernel, by decide +kernel, by decide +kernel⟩
theorem zcw130 : zCw 130 5 := ⟨_, rfl, zwd957, zwd0, by decide +kernel, by decide +kernel, by decide +kernel⟩
theorem zcw132 : zCw 132 5 := ⟨_, rfl, zwd881, zwd0, by decide +kernel, by decide +kernel, by decide +kernel⟩
theorem zcw141 : zCw 141 4 := ⟨_, rfl, zwd1097, zwd0, by decide +kernel, by decide +kernel, by decide +kernel⟩
theorem zcw143 : zCw 143 5 := ⟨_, rfl, zwd838, zwd0, by decide +kernel, by decide +kernel, by decide +kernel⟩
theorem zcw145 : zCw 145 6 := ⟨_, rfl, zwd1011, zwd0, by decide +kernel, by decide +kernel, by decide +kernel⟩
theorem zcw147 : zCw 147 6 := ⟨_, rfl, zwd874, zwd0, by decide +kernel, by decide +kernel, by decide +kernel⟩
theorem zcw149 : zCw 149 6 := ⟨_, rfl, zwd946, zwd0, by decide +kernel, by decide +kernel, by decide +kernel⟩
theorem zcw151 : zCw 151 4 := ⟨_, rfl, zwd752, zwd0, by decide +kernel, by decide +kernel, by decide +kernel⟩
theorem zcw158 : zCw 158 4 := ⟨_, rfl, zwd1305, zwd0, by decide +kernel, by decide +kernel, by decide +kernel⟩
theorem zcw161 : zCw 161 3 := ⟨_, rfl, zwd1245, zwd0, by decide +kernel, by decide +kernel, by decide +kernel⟩
theorem zcw163 : zCw 163 5 := ⟨_, rfl, zwd992, zwd0, by decide +kernel, by decide +kernel, by decide +kernel⟩
theorem zcw165 : zCw 165 3 := ⟨_, rfl, zwd743, zwd0, by decide +kernel, by decide +kernel, by decide +kernel⟩
theorem zcw196 : zCw 196 3 := ⟨_, rfl, zwd478, zwd0, by decide +kernel, by decide +kernel, by decide +kernel⟩
theorem zcw200 : zCw 200 3 := ⟨_, rfl, zwd1218, zwd0, by decide +kernel, by decide +kernel, by decide +kernel⟩
theorem zcw202 : zCw 202 4 := ⟨_, rfl, zwd788, zwd0, by decide +kernel, by decide +kernel, by decide +kernel⟩
def zCWb_0 : List (Nat × Nat) := [(36, 5), (38, 3), (52, 4), (64, 4), (72, 4), (77, 3), (86, 4), (90, 3), (95, 3), (97, 5), (103, 4), (105, 4), (108, 4), (118, 3), (122, 5), (124, 4), (127, 4), (130, 5), (132, 5), (141, 4), (143, 5), (145, 6), (147, 6), (149, 6), (151, 4)]
theorem zCWb_0_ok : ∀ q ∈ zCWb_0, zCw q.1 q.2 := List.forall_mem_cons.mpr ⟨zcw36, List.forall_mem_cons.mpr ⟨zcw38, List.forall_mem_cons.mpr ⟨zcw52, List.forall_mem_cons.mpr ⟨zcw64, List.forall_mem_cons.mpr ⟨zcw72, List.forall_mem_cons.mpr ⟨zcw77, List.forall_mem_cons.mpr ⟨zcw86, List.forall_mem_cons.mpr ⟨zcw90, List.forall_mem_cons.mpr ⟨zcw95, List.forall_mem_cons.mpr ⟨zcw97, List.forall_mem_cons.mpr ⟨zcw103, List.forall_mem_cons.mpr ⟨zcw105, List.forall_mem_cons.mpr ⟨zcw108, List.forall_mem_cons.mpr ⟨zcw118, List.forall_mem_cons.mpr ⟨zcw122, List.forall_mem_cons.mpr ⟨zcw124, List.forall_mem_cons.mpr ⟨zcw127, List.forall_mem_cons.mpr ⟨zcw130, List.forall_mem_cons.mpr ⟨zcw132, List.forall_mem_cons.mpr ⟨zcw141, List.forall_mem_cons.mpr ⟨zcw143, List.forall_mem_cons.mpr ⟨zcw145, List.forall_mem_cons.mpr ⟨zcw147, List.forall_mem_cons.mpr ⟨zcw149, List.forall_mem_cons.mpr ⟨zcw151, fun _ h => nomatch h⟩⟩⟩⟩⟩⟩⟩⟩⟩⟩⟩⟩⟩⟩⟩⟩⟩⟩⟩⟩⟩⟩⟩⟩⟩
def zCWb_1 : List (Nat × Nat) := [(158, 4), (161, 3), (163, 5), (165, 3), (196, 3), (200, 3), (202, 4)]
theorem zCWb_1_ok : ∀ q ∈ zCWb_1, zCw q.1 q.2 := List.forall_mem_cons.mpr ⟨zcw158, List.forall_mem_cons.mpr ⟨zcw161, List.forall_mem_cons.mpr ⟨zcw163, List.forall_mem_cons.mpr ⟨zcw165, List.forall_mem_cons.mpr ⟨zcw196, List.forall_mem_cons.mpr ⟨zcw200, List.forall_mem_cons.mpr ⟨zcw202, fun _ h => nomatch h⟩⟩⟩⟩⟩⟩⟩
def zCWb : List (Nat × Nat) := zCWb_0 ++ (zCWb_1)
theorem zCWb_ok : ∀ q ∈ zCWb, zCw q.1 q.2 := List.forall_mem_append.mpr ⟨zCWb_0_ok, zCWb_1_ok⟩
theorem zWk : zWok := ⟨zwd156, zwd157, zwd463, zwd462, zwd25, zwd35, zwd36⟩
theorem zmul : Cond.classLink (zcn 11) 23 ("[" ++ (FieldType.array .int).toString) ∈ zGW := zwd1372
