theorem zck36 : zBokB 36 = true := by decide +kernel
theorem zck38 : zBokB 38 = true := by decide +kernel
theorem zck52 : zBokB 52 = true := by decide +kernel
theorem zck64 : zBokB 64 = true := by decide +kernel
theorem zck72 : zBokB 72 = true := by decide +kernel
theorem zck77 : zBokB 77 = true := by decide +kernel
theorem zck86 : zBokB 86 = true := by decide +kernel
theorem zck90 : zBokB 90 = true := by decide +kernel
theorem zck95 : zBokB 95 = true := by decide +kernel
theorem zck97 : zBokB 97 = true := by decide +kernel
theorem zck103 : zBokB 103 = true := by decide +kernel
theorem zck105 : zBokB 105 = true := by decide +kernel
theorem zck108 : zBokB 108 = true := by decide +kernel
theorem zck118 : zBokB 118 = true := by decide +kernel
theorem zck122 : zBokB 122 = true := by decide +kernel
theorem zck124 : zBokB 124 = true := by decide +kernel
theorem zck127 : zBokB 127 = true := by decide +kernel
theorem zck130 : zBokB 130 = true := by decide +kernel
theorem zck132 : zBokB 132 = true := by decide +kernel
theorem zck141 : zBokB 141 = true := by decide +kernel
theorem zck143 : zBokB 143 = true := by decide +kernel
theorem zck145 : zBokB 145 = true := by decide +kernel
theorem zck147 : zBokB 147 = true := by decide +kernel
theorem zck149 : zBokB 149 = true := by decide +kernel
theorem zck151 : zBokB 151 = true := by decide +kernel
theorem zck158 : zBokB 158 = true := by decide +kernel
theorem zck161 : zBokB 161 = true := by decide +kernel
theorem zck163 : zBokB 163 = true := by decide +kernel
theorem zck165 : zBokB 165 = true := by decide +kernel
theorem zck196 : zBokB 196 = true := by decide +kernel
theorem zck200 : zBokB 200 = true := by decide +kernel
theorem zck202 : zBokB 202 = true := by decide +kernel
theorem zck314_0 : (zb314_0.all (zopB 314) && zseq zb314_0 0 23) = true := by decide +kernel
theorem zck314_23 : (zb314_23.all (zopB 314) && zseq zb314_23 23 212) = true := by decide +kernel
theorem zck314_212 : (zb314_212.all (zopB 314) && zseq zb314_212 212 285) = true := by decide +kernel
theorem zck314_285 : (zb314_285.all (zopB 314) && zseq zb314_285 285 321) = true := by decide +kernel
theorem zck314_321 : (zb314_321.all (zopB 314) && zseq zb314_321 321 338) = true := by decide +kernel
theorem zck314_338 : (zb314_338.all (zopB 314) && zseq zb314_338 338 341) = true := by decide +kernel
theorem zck314_341 : (zb314_341.all (zopB 314) && zseq zb314_341 341 354) = true := by decide +kernel
theorem zck314_354 : (zb314_354.all (zopB 314) && zseq zb314_354 354 390) = true := by decide +kernel
theorem zck314_390 : (zb314_390.all (zopB 314) && zseq zb314_390 390 407) = true := by decide +kernel
theorem zck314_407 : (zb314_407.all (zopB 314) && zseq zb314_407 407 410) = true := by decide +kernel
theorem zck314_410 : (zb314_410.all (zopB 314) && zseq zb314_410 410 458) = true := by decide +kernel
theorem zck314_458 : (zb314_458.all (zopB 314) && zseq zb314_458 458 475) = true := by decide +kernel
theorem zck314_475 : (zb314_475.all (zopB 314) && zseq zb314_475 475 478) = true := by decide +kernel
theorem zck314_478 : (zb314_478.all (zopB 314) && zseq zb314_478 478 526) = true := by decide +kernel
theorem zck314_526 : (zb314_526.all (zopB 314) && zseq zb314_526 526 543) = true := by decide +kernel
theorem zck314_543 : (zb314_543.all (zopB 314) && zseq zb314_543 543 546) = true := by decide +kernel
theorem zck314_546 : (zb314_546.all (zopB 314) && zseq zb314_546 546 606) = true := by decide +kernel
theorem zck314_606 : (zb314_606.all (zopB 314) && zseq zb314_606 606 623) = true := by decide +kernel
theorem zck314_623 : (zb314_623.all (zopB 314) && zseq zb314_623 623 624) = true := by decide +kernel
theorem zck314_624 : (zb314_624.all (zopB 314) && zseq zb314_624 624 630) = true := by decide +kernel
theorem zck314_630 : (zb314_630.all (zopB 314) && zseq zb314_630 630 633) = true := by decide +kernel
theorem zck314_633 : (zb314_633.all (zopB 314) && zseq zb314_633 633 659) = true := by decide +kernel
theorem zck314_659 : (zb314_659.all (zopB 314) && zseq zb314_659 659 660) = true := by decide +kernel
theorem zck314_660 : (zb314_660.all (zopB 314) && zseq zb314_660 660 692) = true := by decide +kernel
theorem zck314_692 : (zb314_692.all (zopB 314) && zseq zb314_692 692 693) = true := by decide +kernel
theorem zck314_693 : (zb314_693.all (zopB 314) && zseq zb314_693 693 709) = true := by decide +kernel
theorem zck314_709 : (zb314_709.all (zopB 314) && zseq zb314_709 709 726) = true := by decide +kernel
theorem zck314_726 : (zb314_726.all (zopB 314) && zseq zb314_726 726 729) = true := by decide +kernel
theorem zck314_729 : (zb314_729.all (zopB 314) && zseq zb314_729 729 755) = true := by decide +kernel
theorem zck314_755 : (zb314_755.all (zopB 314) && zseq zb314_755 755 756) = true := by decide +kernel
theorem zck314_756 : (zb314_756.all (zopB 314) && zseq zb314_756 756 788) = true := by decide +kernel
theorem zck314_788 : (zb314_788.all (zopB 314) && zseq zb314_788 788 789) = true := by decide +kernel
theorem zck314_789 : (zb314_789.all (zopB 314) && zseq zb314_789 789 805) = true := by decide +kernel
theorem zck314_805 : (zb314_805.all (zopB 314) && zseq zb314_805 805 822) = true := by decide +kernel
theorem zck314_822 : (zb314_822.all (zopB 314) && zseq zb314_822 822 825) = true := by decide +kernel
theorem zck314_825 : (zb314_825.all (zopB 314) && zseq zb314_825 825 861) = true := by decide +kernel
theorem zck314_861 : (zb314_861.all (zopB 314) && zseq zb314_861 861 878) = true := by decide +kernel
theorem zck314_878 : (zb314_878.all (zopB 314) && zseq zb314_878 878 881) = true := by decide +kernel
theorem zck314_881 : (zb314_881.all (zopB 314) && zseq zb314_881 881 953) = true := by decide +kernel
theorem zck314_953 : (zb314_953.all (zopB 314) && zseq zb314_953 953 970) = true := by decide +kernel
theorem zck314_970 : (zb314_970.all (zopB 314) && zseq zb314_970 970 971) = true := by decide +kernel
theorem zck314_971 : (zb314_971.all (zopB 314) && zseq zb314_971 971 977) = true := by decide +kernel
theorem zck314_977 : (zb314_977.all (zopB 314) && zseq zb314_977 977 980) = true := by decide +kernel
theorem zck314_980 : (zb314_980.all (zopB 314) && zseq zb314_980 980 1040) = true := by decide +kernel
theorem zck314_1040 : (zb314_1040.all (zopB 314) && zseq zb314_1040 1040 1057) = true := by decide +kernel
theorem zck314_1057 : (zb314_1057.all (zopB 314) && zseq zb314_1057 1057 1060) = true := by decide +kernel
theorem zck314_1060 : (zb314_1060.all (zopB 314) && zseq zb314_1060 1060 1132) = true := by decide +kernel
theorem zck314_1132 : (zb314_1132.all (zopB 314) && zseq zb314_1132 1132 1149) = true := by decide +kernel
theorem zck314_1149 : (zb314_1149.all (zopB 314) && zseq zb314_1149 1149 1152) = true := by decide +kernel
theorem zck314_1152 : (zb314_1152.all (zopB 314) && zseq zb314_1152 1152 1212) = true := by decide +kernel
theorem zck314_1212 : (zb314_1212.all (zopB 314) && zseq zb314_1212 1212 1229) = true := by decide +kernel
theorem zck314_1229 : (zb314_1229.all (zopB 314) && zseq zb314_1229 1229 1232) = true := by decide +kernel
theorem zck314_1232 : (zb314_1232.all (zopB 314) && zseq zb314_1232 1232 1280) = true := by decide +kernel
theorem zck314_1280 : (zb314_1280.all (zopB 314) && zseq zb314_1280 1280 1297) = true := by decide +kernel
theorem zck314_1297 : (zb314_1297.all (zopB 314) && zseq zb314_1297 1297 1300) = true := by decide +kernel
theorem zck314_1300 : (zb314_1300.all (zopB 314) && zseq zb314_1300 1300 1360) = true := by decide +kernel
theorem zck314_1360 : (zb314_1360.all (zopB 314) && zseq zb314_1360 1360 1377) = true := by decide +kernel
theorem zck314_1377 : (zb314_1377.all (zopB 314) && zseq zb314_1377 1377 1378) = true := by decide +kernel
theorem zck314_1378 : (zb314_1378.all (zopB 314) && zseq zb314_1378 1378 1384) = true := by decide +kernel
theorem zck314_1384 : (zb314_1384.all (zopB 314) && zseq zb314_1384 1384 1387) = true := by decide +kernel
theorem zck314_1387 : (zb314_1387.all (zopB 314) && zseq zb314_1387 1387 1435) = true := by decide +kernel
theorem zck314_1435 : (zb314_1435.all (zopB 314) && zseq zb314_1435 1435 1452) = true := by decide +kernel
theorem zck314_1452 : (zb314_1452.all (zopB 314) && zseq zb314_1452 1452 1455) = true := by decide +kernel
theorem zck314_1455 : (zb314_1455.all (zopB 314) && zseq zb314_1455 1455 1487) = true := by decide +kernel
theorem zck314_1487 : (zb314_1487.all (zopB 314) && zseq zb314_1487 1487 1488) = true := by decide +kernel
theorem zck314_1488 : (zb314_1488.all (zopB 314) && zseq zb314_1488 1488 1526) = true := by decide +kernel
theorem zck314_1526 : (zb314_1526.all (zopB 314) && zseq zb314_1526 1526 1527) = true := by decide +kernel
theorem zck314_1527 : (zb314_1527.all (zopB 314) && zseq zb314_1527 1527 1543) = true := by decide +kernel
theorem zck314_1543 : (zb314_1543.all (zopB 314) && zseq zb314_1543 1543 1560) = true := by decide +kernel
theorem zck314_1560 : (zb314_1560.all (zopB 314) && zseq zb314_1560 1560 1563) = true := by decide +kernel
theorem zck314_1563 : (zb314_1563.all (zopB 314) && zseq zb314_1563 1563 1588) = true := by decide +kernel
theorem zck314_1588 : (zb314_1588.all (zopB 314) && zseq zb314_1588 1588 1624) = true := by decide +kernel
theorem zck314_1624 : (zb314_1624.all (zopB 314) && zseq zb314_1624 1624 1641) = true := by decide +kernel
theorem zck314_1641 : (zb314_1641.all (zopB 314) && zseq zb314_1641 1641 1644) = true := by decide +kernel
theorem zck314_1644 : (zb314_1644.all (zopB 314) && zseq zb314_1644 1644 1692) = true := by decide +kernel
theorem zck314_1692 : (zb314_1692.all (zopB 314) && zseq zb314_1692 1692 1709) = true := by decide +kernel
theorem zck314_1709 : (zb314_1709.all (zopB 314) && zseq zb314_1709 1709 1712) = true := by decide +kernel
theorem zck314_1712 : (zb314_1712.all (zopB 314) && zseq zb314_1712 1712 1760) = true := by decide +kernel
theorem zck314_1760 : (zb314_1760.all (zopB 314) && zseq zb314_1760 1760 1777) = true := by decide +kernel
theorem zck314_1777 : (zb314_1777.all (zopB 314) && zseq zb314_1777 1777 1780) = true := by decide +kernel
theorem zck314_1780 : (zb314_1780.all (zopB 314) && zseq zb314_1780 1780 1828) = true := by decide +kernel
theorem zck314_1828 : (zb314_1828.all (zopB 314) && zseq zb314_1828 1828 1845) = true := by decide +kernel
theorem zck314_1845 : (zb314_1845.all (zopB 314) && zseq zb314_1845 1845 1848) = true := by decide +kernel
theorem zck314_1848 : (zb314_1848.all (zopB 314) && zseq zb314_1848 1848 1896) = true := by decide +kernel
theorem zck314_1896 : (zb314_1896.all (zopB 314) && zseq zb314_1896 1896 1913) = true := by decide +kernel
theorem zck314_1913 : (zb314_1913.all (zopB 314) && zseq zb314_1913 1913 1916) = true := by decide +kernel
theorem zck314_1916 : (zb314_1916.all (zopB 314) && zseq zb314_1916 1916 1964) = true := by decide +kernel
theorem zck314_1964 : (zb314_1964.all (zopB 314) && zseq zb314_1964 1964 1981) = true := by decide +kernel
theorem zck314_1981 : (zb314_1981.all (zopB 314) && zseq zb314_1981 1981 1984) = true := by decide +kernel
theorem zck314_1984 : (zb314_1984.all (zopB 314) && zseq zb314_1984 1984 2020) = true := by decide +kernel
theorem zck314_2020 : (zb314_2020.all (zopB 314) && zseq zb314_2020 2020 2037) = true := by decide +kernel
theorem zck314_2037 : (zb314_2037.all (zopB 314) && zseq zb314_2037 2037 2040) = true := by decide +kernel
theorem zck314_2040 : (zb314_2040.all (zopB 314) && zseq zb314_2040 2040 2076) = true := by decide +kernel
theorem zck314_2076 : (zb314_2076.all (zopB 314) && zseq zb314_2076 2076 2093) = true := by decide +kernel
theorem zck314_2093 : (zb314_2093.all (zopB 314) && zseq zb314_2093 2093 2096) = true := by decide +kernel
theorem zck314_2096 : (zb314_2096.all (zopB 314) && zseq zb314_2096 2096 2132) = true := by decide +kernel
theorem zck314_2132 : (zb314_2132.all (zopB 314) && zseq zb314_2132 2132 2149) = true := by decide +kernel
theorem zck314_2149 : (zb314_2149.all (zopB 314) && zseq zb314_2149 2149 2152) = true := by decide +kernel
theorem zck314_2152 : (zb314_2152.all (zopB 314) && zseq zb314_2152 2152 2188) = true := by decide +kernel
theorem zck314_2188 : (zb314_2188.all (zopB 314) && zseq zb314_2188 2188 2205) = true := by decide +kernel
theorem zck314_2205 : (zb314_2205.all (zopB 314) && zseq zb314_2205 2205 2208) = true := by decide +kernel
theorem zck314_2208 : (zb314_2208.all (zopB 314) && zseq zb314_2208 2208 2221) = true := by decide +kernel
theorem zck314_2221 : (zb314_2221.all (zopB 314) && zseq zb314_2221 2221 2269) = true := by decide +kernel
theorem zck314_2269 : (zb314_2269.all (zopB 314) && zseq zb314_2269 2269 2285) = true := by decide +kernel
theorem zck314_2285 : (zb314_2285.all (zopB 314) && zseq zb314_2285 2285 2288) = true := by decide +kernel
theorem zck314_2288 : (zb314_2288.all (zopB 314) && zseq zb314_2288 2288 2324) = true := by decide +kernel
theorem zck314_2324 : (zb314_2324.all (zopB 314) && zseq zb314_2324 2324 2341) = true := by decide +kernel
theorem zck314_2341 : (zb314_2341.all (zopB 314) && zseq zb314_2341 2341 2344) = true := by decide +kernel
theorem zck314_2344 : (zb314_2344.all (zopB 314) && zseq zb314_2344 2344 2392) = true := by decide +kernel
theorem zck314_2392 : (zb314_2392.all (zopB 314) && zseq zb314_2392 2392 2409) = true := by decide +kernel
theorem zck314_2409 : (zb314_2409.all (zopB 314) && zseq zb314_2409 2409 2412) = true := by decide +kernel
theorem zck314_2412 : (zb314_2412.all (zopB 314) && zseq zb314_2412 2412 2472) = true := by decide +kernel
theorem zck314_2472 : (zb314_2472.all (zopB 314) && zseq zb314_2472 2472 2489) = true := by decide +kernel
theorem zck314_2489 : (zb314_2489.all (zopB 314) && zseq zb314_2489 2489 2492) = true := by decide +kernel
theorem zck314_2492 : (zb314_2492.all (zopB 314) && zseq zb314_2492 2492 2540) = true := by decide +kernel
theorem zck314_2540 : (zb314_2540.all (zopB 314) && zseq zb314_2540 2540 2557) = true := by decide +kernel
theorem zck314_2557 : (zb314_2557.all (zopB 314) && zseq zb314_2557 2557 2560) = true := by decide +kernel
theorem zck314_2560 : (zb314_2560.all (zopB 314) && zseq zb314_2560 2560 2608) = true := by decide +kernel
theorem zck314_2608 : (zb314_2608.all (zopB 314) && zseq zb314_2608 2608 2625) = true := by decide +kernel
theorem zck314_2625 : (zb314_2625.all (zopB 314) && zseq zb314_2625 2625 2628) = true := by decide +kernel
theorem zck314_2628 : (zb314_2628.all (zopB 314) && zseq zb314_2628 2628 2641) = true := by decide +kernel
theorem zck314_2641 : (zb314_2641.all (zopB 314) && zseq zb314_2641 2641 2654) = true := by decide +kernel
theorem zck314_2654 : (zb314_2654.all (zopB 314) && zseq zb314_2654 2654 2679) = true := by decide +kernel
theorem zck314_2679 : (zb314_2679.all (zopB 314) && zseq zb314_2679 2679 2685) = true := by decide +kernel
theorem zck314_2685 : (zb314_2685.all (zopB 314) && zseq zb314_2685 2685 2687) = true := by decide +kernel
theorem zck314 : ∀ q ∈ ([(0, [0], zb314_0, 23), (23, [0, 1, 2, 3, 4], zb314_23, 212), (212, [0, 1, 2, 3, 4], zb314_212, 285), (285, [0, 1, 2, 3, 4], zb314_285, 321), (321, [0, 1, 2, 3, 4, 5, 6], zb314_321, 338), (338, [0, 1, 2, 3, 4], zb314_338, 341), (341, [0, 1, 2, 3, 4], zb314_341, 354), (354, [0, 1, 2, 3, 4], zb314_354, 390), (390, [0, 1, 2, 3, 4, 5, 6], zb314_390, 407), (407, [0, 1, 2, 3, 4], zb314_407, 410), (410, [0, 1, 2, 3, 4], zb314_410, 458), (458, [0, 1, 2, 3, 4, 5, 6], zb314_458, 475), (475, [0, 1, 2, 3, 4], zb314_475, 478), (478, [0, 1, 2, 3, 4], zb314_478, 526), (526, [0, 1, 2, 3, 4, 5, 6], zb314_526, 543), (543, [0, 1, 2, 3, 4], zb314_543, 546), (546, [0, 1, 2, 3, 4], zb314_546, 606), (606, [0, 1, 2, 3, 4, 5, 6], zb314_606, 623), (623, [0, 1, 2, 3, 4], zb314_623, 624), (624, [0, 1, 2, 3, 4], zb314_624, 630), (630, [0, 1, 2, 3, 4], zb314_630, 633), (633, [0, 1, 2, 3, 4], zb314_633, 659), (659, [0, 1, 2, 3, 4], zb314_659, 660), (660, [0, 1, 2, 3, 4], zb314_660, 692), (692, [0, 1, 2, 3, 4, 5], zb314_692, 693), (693, [0, 1, 2, 3, 4, 5], zb314_693, 709), (709, [0, 1, 2, 3, 4, 5, 6], zb314_709, 726), (726, [0, 1, 2, 3, 4], zb314_726, 729), (729, [0, 1, 2, 3, 4], zb314_729, 755), (755, [0, 1, 2, 3, 4], zb314_755, 756), (756, [0, 1, 2, 3, 4], zb314_756, 788), (788, [0, 1, 2, 3, 4, 5], zb314_788, 789), (789, [0, 1, 2, 3, 4, 5], zb314_789, 805), (805, [0, 1, 2, 3, 4, 5, 6], zb314_805, 822), (822, [0, 1, 2, 3, 4], zb314_822, 825), (825, [0, 1, 2, 3, 4], zb314_825, 861), (861, [0, 1, 2, 3, 4, 5, 6], zb314_861, 878), (878, [0, 1, 2, 3, 4], zb314_878, 881), (881, [0, 1, 2, 3, 4], zb314_881, 953), (953, [0, 1, 2, 3, 4, 5, 6], zb314_953, 970), (970, [0, 1, 2, 3, 4], zb314_970, 971), (971, [0, 1, 2, 3, 4], zb314_971, 977), (977, [0, 1, 2, 3, 4], zb314_977, 980), (980, [0, 1, 2, 3, 4], zb314_980, 1040), (1040, [0, 1, 2, 3, 4, 5, 6], zb314_1040, 1057), (1057, [0, 1, 2, 3, 4], zb314_1057, 1060), (1060, [0, 1, 2, 3, 4], zb314_1060, 1132), (1132, [0, 1, 2, 3, 4, 5, 6], zb314_1132, 1149), (1149, [0, 1, 2, 3, 4], zb314_1149, 1152), (1152, [0, 1, 2, 3, 4], zb314_1152, 1212), (1212, [0, 1, 2, 3, 4, 5, 6], zb314_1212, 1229), (1229, [0, 1, 2, 3, 4], zb314_1229, 1232), (1232, [0, 1, 2, 3, 4], zb314_1232, 1280), (1280, [0, 1, 2, 3, 4, 5, 6], zb314_1280, 1297), (1297, [0, 1, 2, 3, 4], zb314_1297, 1300), (1300, [0, 1, 2, 3, 4], zb314_1300, 1360), (1360, [0, 1, 2, 3, 4, 5, 6], zb314_1360, 1377), (1377, [0, 1, 2, 3, 4], zb314_1377, 1378), (1378, [0, 1, 2, 3, 4], zb314_1378, 1384), (1384, [0, 1, 2, 3, 4], zb314_1384, 1387), (1387, [0, 1, 2, 3, 4], zb314_1387, 1435), (1435, [0, 1, 2, 3, 4, 5, 6], zb314_1435, 1452), (1452, [0, 1, 2, 3, 4], zb314_1452, 1455), (1455, [0, 1, 2, 3, 4], zb314_1455, 1487), (1487, [0, 1, 2, 3, 4], zb314_1487, 1488), (1488, [0, 1, 2, 3, 4], zb314_1488, 1526), (1526, [0, 1, 2, 3, 4, 5], zb314_1526, 1527), (1527, [0, 1, 2, 3, 4, 5], zb314_1527, 1543), (1543, [0, 1, 2, 3, 4, 5, 6], zb314_1543, 1560), (1560, [0, 1, 2, 3, 4], zb314_1560, 1563), (1563, [0, 1, 2, 3, 4], zb314_1563, 1588), (1588, [0, 1, 2, 3, 4], zb314_1588, 1624), (1624, [0, 1, 2, 3, 4, 5, 6], zb314_1624, 1641), (1641, [0, 1, 2, 3, 4], zb314_1641, 1644), (1644, [0, 1, 2, 3, 4], zb314_1644, 1692), (1692, [0, 1, 2, 3, 4, 5, 6], zb314_1692, 1709), (1709, [0, 1, 2, 3, 4], zb314_1709, 1712), (1712, [0, 1, 2, 3, 4], zb314_1712, 1760), (1760, [0, 1, 2, 3, 4, 5, 6], zb314_1760, 1777), (1777, [0, 1, 2, 3, 4], zb314_1777, 1780), (1780, [0, 1, 2, 3, 4], zb314_1780, 1828), (1828, [0, 1, 2, 3, 4, 5, 6], zb314_1828, 1845), (1845, [0, 1, 2, 3, 4], zb314_1845, 1848), (1848, [0, 1, 2, 3, 4], zb314_1848, 1896), (1896, [0, 1, 2, 3, 4, 5, 6], zb314_1896, 1913), (1913, [0, 1, 2, 3, 4], zb314_1913, 1916), (1916, [0, 1, 2, 3, 4], zb314_1916, 1964), (1964, [0, 1, 2, 3, 4, 5, 6], zb314_1964, 1981), (1981, [0, 1, 2, 3, 4], zb314_1981, 1984), (1984, [0, 1, 2, 3, 4], zb314_1984, 2020), (2020, [0, 1, 2, 3, 4, 5, 6], zb314_2020, 2037), (2037, [0, 1, 2, 3, 4], zb314_2037, 2040), (2040, [0, 1, 2, 3, 4], zb314_2040, 2076), (2076, [0, 1, 2, 3, 4, 5, 6], zb314_2076, 2093), (2093, [0, 1, 2, 3, 4], zb314_2093, 2096), (2096, [0, 1, 2, 3, 4], zb314_2096, 2132), (2132, [0, 1, 2, 3, 4, 5, 6], zb314_2132, 2149), (2149, [0, 1, 2, 3, 4], zb314_2149, 2152), (2152, [0, 1, 2, 3, 4], zb314_2152, 2188), (2188, [0, 1, 2, 3, 4, 5, 6], zb314_2188, 2205), (2205, [0, 1, 2, 3, 4], zb314_2205, 2208), (2208, [0, 1, 2, 3, 4], zb314_2208, 2221), (2221, [0, 1, 2, 3, 4], zb314_2221, 2269), (2269, [0, 1, 2, 3, 4, 5, 6], zb314_2269, 2285), (2285, [0, 1, 2, 3, 4], zb314_2285, 2288), (2288, [0, 1, 2, 3, 4], zb314_2288, 2324), (2324, [0, 1, 2, 3, 4, 5, 6], zb314_2324, 2341), (2341, [0, 1, 2, 3, 4], zb314_2341, 2344), (2344, [0, 1, 2, 3, 4], zb314_2344, 2392), (2392, [0, 1, 2, 3, 4, 5, 6], zb314_2392, 2409), (2409, [0, 1, 2, 3, 4], zb314_2409, 2412), (2412, [0, 1, 2, 3, 4], zb314_2412, 2472), (2472, [0, 1, 2, 3, 4, 5, 6], zb314_2472, 2489), (2489, [0, 1, 2, 3, 4], zb314_2489, 2492), (2492, [0, 1, 2, 3, 4], zb314_2492, 2540), (2540, [0, 1, 2, 3, 4, 5, 6], zb314_2540, 2557), (2557, [0, 1, 2, 3, 4], zb314_2557, 2560), (2560, [0, 1, 2, 3, 4], zb314_2560, 2608), (2608, [0, 1, 2, 3, 4, 5, 6], zb314_2608, 2625), (2625, [0, 1, 2, 3, 4], zb314_2625, 2628), (2628, [0, 1, 2, 3, 4], zb314_2628, 2641), (2641, [0, 1, 2, 3, 4], zb314_2641, 2654), (2654, [0, 1, 2, 3, 4], zb314_2654, 2679), (2679, [0, 1, 2, 3, 4], zb314_2679, 2685), (2685, [], zb314_2685, 2687)] : List (Nat × List Nat × List zOp × Nat)), (q.2.2.1.all (zopB 314) && zseq q.2.2.1 q.1 q.2.2.2) = true := List.forall_mem_cons.mpr ⟨zck314_0, List.forall_mem_cons.mpr ⟨zck314_23, List.forall_mem_cons.mpr ⟨zck314_212, List.forall_mem_cons.mpr ⟨zck314_285, List.forall_mem_cons.mpr ⟨zck314_321, List.forall_mem_cons.mpr ⟨zck314_338, List.forall_mem_cons.mpr ⟨zck314_341, List.forall_mem_cons.mpr ⟨zck314_354, List.forall_mem_cons.mpr ⟨zck314_390, List.forall_mem_cons.mpr ⟨zck314_407, List.forall_mem_cons.mpr ⟨zck314_410, List.forall_mem_cons.mpr ⟨zck314_458, List.forall_mem_cons.mpr ⟨zck314_475, List.forall_mem_cons.mpr ⟨zck314_478, List.forall_mem_cons.mpr ⟨zck314_526, List.forall_mem_cons.mpr ⟨zck314_543, List.forall_mem_cons.mpr ⟨zck314_546, List.forall_mem_cons.mpr ⟨zck314_606, List.forall_mem_cons.mpr ⟨zck314_623, List.forall_mem_cons.mpr ⟨zck314_624, List.forall_mem_cons.mpr ⟨zck314_630, List.forall_mem_cons.mpr ⟨zck314_633, List.forall_mem_cons.mpr ⟨zck314_659, List.forall_mem_cons.mpr ⟨zck314_660, List.forall_mem_cons.mpr ⟨zck314_692, List.forall_mem_cons.mpr ⟨zck314_693, List.forall_mem_cons.mpr ⟨zck314_709, List.forall_mem_cons.mpr ⟨zck314_726, List.forall_mem_cons.mpr ⟨zck314_729, List.forall_mem_cons.mpr ⟨zck314_755, List.forall_mem_cons.mpr ⟨zck314_756, List.forall_mem_cons.mpr ⟨zck314_788, List.forall_mem_cons.mpr ⟨zck314_789, List.forall_mem_cons.mpr ⟨zck314_805, List.forall_mem_cons.mpr ⟨zck314_822, List.forall_mem_cons.mpr ⟨zck314_825, List.forall_mem_cons.mpr ⟨zck314_861, List.forall_mem_cons.mpr ⟨zck314_878, List.forall_mem_cons.mpr ⟨zck314_881, List.forall_mem_cons.mpr ⟨zck314_953, List.forall_mem_cons.mpr ⟨zck314_970, List.forall_mem_cons.mpr ⟨zck314_971, List.forall_mem_cons.mpr ⟨zck314_977, List.forall_mem_cons.mpr ⟨zck314_980, List.forall_mem_cons.mpr ⟨zck314_1040, List.forall_mem_cons.mpr ⟨zck314_1057, List.forall_mem_cons.mpr ⟨zck314_1060, List.forall_mem_cons.mpr ⟨zck314_1132, List.forall_mem_cons.mpr ⟨zck314_1149, List.forall_mem_cons.mpr ⟨zck314_1152, List.forall_mem_cons.mpr ⟨zck314_1212, List.forall_mem_cons.mpr ⟨zck314_1229, List.forall_mem_cons.mpr ⟨zck314_1232, List.forall_mem_cons.mpr ⟨zck314_1280, List.forall_mem_cons.mpr ⟨zck314_1297, List.forall_mem_cons.mpr ⟨zck314_1300, List.forall_mem_cons.mpr ⟨zck314_1360, List.forall_mem_cons.mpr ⟨zck314_1377, List.forall_mem_cons.mpr ⟨zck314_1378, List.forall_mem_cons.mpr ⟨zck314_1384, List.forall_mem_cons.mpr ⟨zck314_1387, List.forall_mem_cons.mpr ⟨zck314_1435, List.forall_mem_cons.mpr ⟨zck314_1452, List.forall_mem_cons.mpr ⟨zck314_1455, List.forall_mem_cons.mpr ⟨zck314_1487, List.forall_mem_cons.mpr ⟨zck314_1488, List.forall_mem_cons.mpr ⟨zck314_1526, List.forall_mem_cons.mpr ⟨zck314_1527, List.forall_mem_cons.mpr ⟨zck314_1543, List.forall_mem_cons.mpr ⟨zck314_1560, List.forall_mem_cons.mpr ⟨zck314_1563, List.forall_mem_cons.mpr ⟨zck314_1588, List.forall_mem_cons.mpr ⟨zck314_1624, List.forall_mem_cons.mpr ⟨zck314_1641, List.forall_mem_cons.mpr ⟨zck314_1644, List.forall_mem_cons.mpr ⟨zck314_1692, List.forall_mem_cons.mpr ⟨zck314_1709, List.forall_mem_cons.mpr ⟨zck314_1712, List.forall_mem_cons.mpr ⟨zck314_1760, List.forall_mem_cons.mpr ⟨zck314_1777, List.forall_mem_cons.mpr ⟨zck314_1780, List.forall_mem_cons.mpr ⟨zck314_1828, List.forall_mem_cons.mpr ⟨zck314_1845, List.forall_mem_cons.mpr ⟨zck314_1848, List.forall_mem_cons.mpr ⟨zck314_1896, List.forall_mem_cons.mpr ⟨zck314_1913, List.forall_mem_cons.mpr ⟨zck314_1916, List.forall_mem_cons.mpr ⟨zck314_1964, List.forall_mem_cons.mpr ⟨zck314_1981, List.forall_mem_cons.mpr ⟨zck314_1984, List.forall_mem_cons.mpr ⟨zck314_2020, List.forall_mem_cons.mpr ⟨zck314_2037, List.forall_mem_cons.mpr ⟨zck314_2040, List.forall_mem_cons.mpr ⟨zck314_2076, List.forall_mem_cons.mpr ⟨zck314_2093, List.forall_mem_cons.mpr ⟨zck314_2096, List.forall_mem_cons.mpr ⟨zck314_2132, List.forall_mem_cons.mpr ⟨zck314_2149, List.forall_mem_cons.mpr ⟨zck314_2152, List.forall_mem_cons.mpr ⟨zck314_2188, List.forall_mem_cons.mpr ⟨zck314_2205, List.forall_mem_cons.mpr ⟨zck314_2208, List.forall_mem_cons.mpr ⟨zck314_2221, List.forall_mem_cons.mpr ⟨zck314_2269, List.forall_mem_cons.mpr ⟨zck314_2285, List.forall_mem_cons.mpr ⟨zck314_2288, List.forall_mem_cons.mpr ⟨zck314_2324, List.forall_mem_cons.mpr ⟨zck314_2341, List.forall_mem_cons.mpr ⟨zck314_2344, List.forall_mem_cons.mpr ⟨zck314_2392, List.forall_mem_cons.mpr ⟨zck314_2409, List.forall_mem_cons.mpr ⟨zck314_2412, List.forall_mem_cons.mpr ⟨zck314_2472, List.forall_mem_cons.mpr ⟨zck314_2489, List.forall_mem_cons.mpr ⟨zck314_2492, List.forall_mem_cons.mpr ⟨zck314_2540, List.forall_mem_cons.mpr ⟨zck314_2557, List.forall_mem_cons.mpr ⟨zck314_2560, List.forall_mem_cons.mpr ⟨zck314_2608, List.forall_mem_cons.mpr ⟨zck314_2625, List.forall_mem_cons.mpr ⟨zck314_2628, List.forall_mem_cons.mpr ⟨zck314_2641, List.forall_mem_cons.mpr ⟨zck314_2654, List.forall_mem_cons.mpr ⟨zck314_2679, List.forall_mem_cons.mpr ⟨zck314_2685, fun _ h => nomatch h⟩⟩⟩⟩⟩⟩⟩⟩⟩⟩⟩⟩⟩⟩⟩⟩⟩⟩⟩⟩⟩⟩⟩⟩⟩⟩⟩⟩⟩⟩⟩⟩⟩⟩⟩⟩⟩⟩⟩⟩⟩⟩⟩⟩⟩⟩⟩⟩⟩⟩⟩⟩⟩⟩⟩⟩⟩⟩⟩⟩⟩⟩⟩⟩⟩⟩⟩⟩⟩⟩⟩⟩⟩⟩⟩⟩⟩⟩⟩⟩⟩⟩⟩⟩⟩⟩⟩⟩⟩⟩⟩⟩⟩⟩⟩⟩⟩⟩⟩⟩⟩⟩⟩⟩⟩⟩⟩⟩⟩⟩⟩⟩⟩⟩⟩⟩⟩⟩⟩⟩⟩⟩⟩⟩⟩
