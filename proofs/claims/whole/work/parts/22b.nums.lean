/-! numbers of the methods -/
theorem zmc_0 : zmc (zP 0) = 3 := rfl
theorem zms_0 : zms (zP 0) = 600 := rfl
theorem zow_0 : zown (zP 0) = 0 := rfl
theorem zhd_0 : zhd (zP 0) = [] := rfl
theorem zmc_1 : zmc (zP 1) = 3 := rfl
theorem zms_1 : zms (zP 1) = 76 := rfl
theorem zow_1 : zown (zP 1) = 1 := rfl
theorem zhd_1 : zhd (zP 1) = [] := rfl
theorem zmc_2 : zmc (zP 2) = 3 := rfl
theorem zms_2 : zms (zP 2) = 42 := rfl
theorem zow_2 : zown (zP 2) = 2 := rfl
theorem zhd_2 : zhd (zP 2) = [] := rfl
theorem zmc_3 : zmc (zP 3) = 5 := rfl
theorem zms_3 : zms (zP 3) = 107 := rfl
theorem zow_3 : zown (zP 3) = 3 := rfl
theorem zhd_3 : zhd (zP 3) = [] := rfl
theorem zmc_4 : zmc (zP 4) = 1 := rfl
theorem zms_4 : zms (zP 4) = 0 := rfl
theorem zow_4 : zown (zP 4) = 4 := rfl
theorem zhd_4 : zhd (zP 4) = [] := rfl
theorem zmc_5 : zmc (zP 5) = 2 := rfl
theorem zms_5 : zms (zP 5) = 96 := rfl
theorem zow_5 : zown (zP 5) = 5 := rfl
theorem zhd_5 : zhd (zP 5) = [] := rfl
theorem zmc_6 : zmc (zP 6) = 3 := rfl
theorem zms_6 : zms (zP 6) = 96 := rfl
theorem zow_6 : zown (zP 6) = 6 := rfl
theorem zhd_6 : zhd (zP 6) = [] := rfl
theorem zmc_7 : zmc (zP 7) = 4 := rfl
theorem zms_7 : zms (zP 7) = 648 := rfl
theorem zow_7 : zown (zP 7) = 7 := rfl
theorem zhd_7 : zhd (zP 7) = [] := rfl
theorem zmc_8 : zmc (zP 8) = 13 := rfl
theorem zms_8 : zms (zP 8) = 940 := rfl
theorem zow_8 : zown (zP 8) = 8 := rfl
theorem zhd_8 : zhd (zP 8) = [] := rfl
theorem zmc_9 : zmc (zP 9) = 9 := rfl
theorem zms_9 : zms (zP 9) = 688 := rfl
theorem zow_9 : zown (zP 9) = 9 := rfl
theorem zhd_9 : zhd (zP 9) = [] := rfl
theorem zmc_10 : zmc (zP 10) = 71 := rfl
theorem zms_10 : zms (zP 10) = 4821 := rfl
theorem zow_10 : zown (zP 10) = 10 := rfl
theorem zhd_10 : zhd (zP 10) = [] := rfl
theorem zmc_11 : zmc (zP 11) = 0 := rfl
theorem zms_11 : zms (zP 11) = 0 := rfl
theorem zow_11 : zown (zP 11) = 10 := rfl
theorem zhd_11 : zhd (zP 11) = [] := rfl
theorem zmc_12 : zmc (zP 12) = 0 := rfl
theorem zms_12 : zms (zP 12) = 0 := rfl
theorem zow_12 : zown (zP 12) = 10 := rfl
theorem zhd_12 : zhd (zP 12) = [] := rfl
theorem zmc_13 : zmc (zP 13) = 0 := rfl
theorem zms_13 : zms (zP 13) = 0 := rfl
theorem zow_13 : zown (zP 13) = 10 := rfl
theorem zhd_13 : zhd (zP 13) = [] := rfl
theorem zmc_14 : zmc (zP 14) = 0 := rfl
theorem zms_14 : zms (zP 14) = 0 := rfl
theorem zow_14 : zown (zP 14) = 10 := rfl
theorem zhd_14 : zhd (zP 14) = [] := rfl
theorem zmc_15 : zmc (zP 15) = 0 := rfl
theorem zms_15 : zms (zP 15) = 0 := rfl
theorem zow_15 : zown (zP 15) = 10 := rfl
theorem zhd_15 : zhd (zP 15) = [] := rfl
theorem zmc_16 : zmc (zP 16) = 0 := rfl
theorem zms_16 : zms (zP 16) = 0 := rfl
theorem zow_16 : zown (zP 16) = 2 := rfl
theorem zhd_16 : zhd (zP 16) = [] := rfl
theorem zmc_17 : zmc (zP 17) = 0 := rfl
theorem zms_17 : zms (zP 17) = 0 := rfl
theorem zow_17 : zown (zP 17) = 10 := rfl
theorem zhd_17 : zhd (zP 17) = [] := rfl
theorem zmc_18 : zmc (zP 18) = 0 := rfl
theorem zms_18 : zms (zP 18) = 0 := rfl
theorem zow_18 : zown (zP 18) = 10 := rfl
theorem zhd_18 : zhd (zP 18) = [] := rfl
theorem zmc_19 : zmc (zP 19) = 0 := rfl
theorem zms_19 : zms (zP 19) = 0 := rfl
theorem zow_19 : zown (zP 19) = 2 := rfl
theorem zhd_19 : zhd (zP 19) = [] := rfl
theorem zmc_20 : zmc (zP 20) = 0 := rfl
theorem zms_20 : zms (zP 20) = 0 := rfl
theorem zow_20 : zown (zP 20) = 10 := rfl
theorem zhd_20 : zhd (zP 20) = [] := rfl
theorem zmc_21 : zmc (zP 21) = 1 := rfl
theorem zms_21 : zms (zP 21) = 6 := rfl
theorem zow_21 : zown (zP 21) = 10 := rfl
theorem zhd_21 : zhd (zP 21) = [] := rfl
theorem zmc_22 : zmc (zP 22) = 0 := rfl
theorem zms_22 : zms (zP 22) = 0 := rfl
theorem zow_22 : zown (zP 22) = 10 := rfl
theorem zhd_22 : zhd (zP 22) = [] := rfl
theorem zmc_23 : zmc (zP 23) = 0 := rfl
theorem zms_23 : zms (zP 23) = 0 := rfl
theorem zow_23 : zown (zP 23) = 6 := rfl
theorem zhd_23 : zhd (zP 23) = [] := rfl
theorem zmc_24 : zmc (zP 24) = 0 := rfl
theorem zms_24 : zms (zP 24) = 0 := rfl
theorem zow_24 : zown (zP 24) = 6 := rfl
theorem zhd_24 : zhd (zP 24) = [] := rfl
theorem zmc_25 : zmc (zP 25) = 0 := rfl
theorem zms_25 : zms (zP 25) = 0 := rfl
theorem zow_25 : zown (zP 25) = 6 := rfl
theorem zhd_25 : zhd (zP 25) = [] := rfl
theorem zmc_26 : zmc (zP 26) = 0 := rfl
theorem zms_26 : zms (zP 26) = 0 := rfl
theorem zow_26 : zown (zP 26) = 16 := rfl
theorem zhd_26 : zhd (zP 26) = [] := rfl
theorem zmc_27 : zmc (zP 27) = 0 := rfl
theorem zms_27 : zms (zP 27) = 0 := rfl
theorem zow_27 : zown (zP 27) = 0 := rfl
theorem zhd_27 : zhd (zP 27) = [] := rfl
theorem zmc_28 : zmc (zP 28) = 1 := rfl
theorem zms_28 : zms (zP 28) = 6 := rfl
theorem zow_28 : zown (zP 28) = 10 := rfl
theorem zhd_28 : zhd (zP 28) = [] := rfl
theorem zmc_29 : zmc (zP 29) = 1 := rfl
theorem zms_29 : zms (zP 29) = 6 := rfl
theorem zow_29 : zown (zP 29) = 10 := rfl
theorem zhd_29 : zhd (zP 29) = [] := rfl
theorem zmc_30 : zmc (zP 30) = 0 := rfl
theorem zms_30 : zms (zP 30) = 0 := rfl
theorem zow_30 : zown (zP 30) = 0 := rfl
theorem zhd_30 : zhd (zP 30) = [] := rfl
theorem zmc_31 : zmc (zP 31) = 0 := rfl
theorem zms_31 : zms (zP 31) = 0 := rfl
theorem zow_31 : zown (zP 31) = 10 := rfl
theorem zhd_31 : zhd (zP 31) = [] := rfl
theorem zmc_32 : zmc (zP 32) = 0 := rfl
theorem zms_32 : zms (zP 32) = 0 := rfl
theorem zow_32 : zown (zP 32) = 6 := rfl
theorem zhd_32 : zhd (zP 32) = [] := rfl
theorem zmc_33 : zmc (zP 33) = 0 := rfl
theorem zms_33 : zms (zP 33) = 0 := rfl
theorem zow_33 : zown (zP 33) = 8 := rfl
theorem zhd_33 : zhd (zP 33) = [] := rfl
theorem zmc_34 : zmc (zP 34) = 4 := rfl
theorem zms_34 : zms (zP 34) = 24 := rfl
theorem zow_34 : zown (zP 34) = 10 := rfl
theorem zhd_34 : zhd (zP 34) = [] := rfl
theorem zmc_35 : zmc (zP 35) = 4 := rfl
theorem zms_35 : zms (zP 35) = 24 := rfl
theorem zow_35 : zown (zP 35) = 10 := rfl
theorem zhd_35 : zhd (zP 35) = [] := rfl
theorem zmc_36 : zmc (zP 36) = 4 := rfl
theorem zms_36 : zms (zP 36) = 24 := rfl
theorem zow_36 : zown (zP 36) = 13 := rfl
theorem zmc_37 : zmc (zP 37) = 1 := rfl
theorem zms_37 : zms (zP 37) = 6 := rfl
theorem zow_37 : zown (zP 37) = 10 := rfl
theorem zhd_37 : zhd (zP 37) = [] := rfl
theorem zmc_38 : zmc (zP 38) = 1 := rfl
theorem zms_38 : zms (zP 38) = 6 := rfl
theorem zow_38 : zown (zP 38) = 13 := rfl
theorem zmc_39 : zmc (zP 39) = 1 := rfl
theorem zms_39 : zms (zP 39) = 6 := rfl
theorem zow_39 : zown (zP 39) = 10 := rfl
theorem zhd_39 : zhd (zP 39) = [] := rfl
theorem zmc_40 : zmc (zP 40) = 0 := rfl
theorem zms_40 : zms (zP 40) = 0 := rfl
theorem zow_40 : zown (zP 40) = 5 := rfl
theorem zhd_40 : zhd (zP 40) = [] := rfl
theorem zmc_41 : zmc (zP 41) = 0 := rfl
theorem zms_41 : zms (zP 41) = 0 := rfl
theorem zow_41 : zown (zP 41) = 15 := rfl
theorem zhd_41 : zhd (zP 41) = [] := rfl
theorem zmc_42 : zmc (zP 42) = 0 := rfl
theorem zms_42 : zms (zP 42) = 0 := rfl
theorem zow_42 : zown (zP 42) = 10 := rfl
theorem zhd_42 : zhd (zP 42) = [] := rfl
theorem zmc_43 : zmc (zP 43) = 0 := rfl
theorem zms_43 : zms (zP 43) = 0 := rfl
theorem zow_43 : zown (zP 43) = 5 := rfl
theorem zhd_43 : zhd (zP 43) = [] := rfl
theorem zmc_44 : zmc (zP 44) = 0 := rfl
theorem zms_44 : zms (zP 44) = 0 := rfl
theorem zow_44 : zown (zP 44) = 5 := rfl
theorem zhd_44 : zhd (zP 44) = [] := rfl
theorem zmc_45 : zmc (zP 45) = 0 := rfl
theorem zms_45 : zms (zP 45) = 0 := rfl
theorem zow_45 : zown (zP 45) = 5 := rfl
theorem zhd_45 : zhd (zP 45) = [] := rfl
theorem zmc_46 : zmc (zP 46) = 0 := rfl
theorem zms_46 : zms (zP 46) = 0 := rfl
theorem zow_46 : zown (zP 46) = 5 := rfl
theorem zhd_46 : zhd (zP 46) = [] := rfl
theorem zmc_47 : zmc (zP 47) = 0 := rfl
theorem zms_47 : zms (zP 47) = 0 := rfl
theorem zow_47 : zown (zP 47) = 5 := rfl
theorem zhd_47 : zhd (zP 47) = [] := rfl
theorem zmc_48 : zmc (zP 48) = 0 := rfl
theorem zms_48 : zms (zP 48) = 0 := rfl
theorem zow_48 : zown (zP 48) = 9 := rfl
theorem zhd_48 : zhd (zP 48) = [] := rfl
theorem zmc_49 : zmc (zP 49) = 0 := rfl
theorem zms_49 : zms (zP 49) = 0 := rfl
theorem zow_49 : zown (zP 49) = 17 := rfl
theorem zhd_49 : zhd (zP 49) = [] := rfl
theorem zmc_50 : zmc (zP 50) = 0 := rfl
theorem zms_50 : zms (zP 50) = 0 := rfl
theorem zow_50 : zown (zP 50) = 9 := rfl
theorem zhd_50 : zhd (zP 50) = [] := rfl
theorem zmc_51 : zmc (zP 51) = 2 := rfl
theorem zms_51 : zms (zP 51) = 12 := rfl
theorem zow_51 : zown (zP 51) = 10 := rfl
theorem zhd_51 : zhd (zP 51) = [] := rfl
theorem zmc_52 : zmc (zP 52) = 2 := rfl
theorem zms_52 : zms (zP 52) = 12 := rfl
theorem zow_52 : zown (zP 52) = 13 := rfl
theorem zmc_53 : zmc (zP 53) = 1 := rfl
theorem zms_53 : zms (zP 53) = 6 := rfl
theorem zow_53 : zown (zP 53) = 10 := rfl
theorem zhd_53 : zhd (zP 53) = [] := rfl
theorem zmc_54 : zmc (zP 54) = 0 := rfl
theorem zms_54 : zms (zP 54) = 0 := rfl
theorem zow_54 : zown (zP 54) = 16 := rfl
theorem zhd_54 : zhd (zP 54) = [] := rfl
theorem zmc_55 : zmc (zP 55) = 1 := rfl
theorem zms_55 : zms (zP 55) = 65536 := rfl
theorem zow_55 : zown (zP 55) = 3 := rfl
theorem zhd_55 : zhd (zP 55) = [] := rfl
theorem zmc_56 : zmc (zP 56) = 1 := rfl
theorem zms_56 : zms (zP 56) = 65536 := rfl
theorem zow_56 : zown (zP 56) = 3 := rfl
theorem zhd_56 : zhd (zP 56) = [] := rfl
theorem zmc_57 : zmc (zP 57) = 0 := rfl
theorem zms_57 : zms (zP 57) = 0 := rfl
theorem zow_57 : zown (zP 57) = 3 := rfl
theorem zhd_57 : zhd (zP 57) = [] := rfl
theorem zmc_58 : zmc (zP 58) = 1 := rfl
theorem zms_58 : zms (zP 58) = 2304 := rfl
theorem zow_58 : zown (zP 58) = 3 := rfl
theorem zhd_58 : zhd (zP 58) = [] := rfl
theorem zmc_59 : zmc (zP 59) = 0 := rfl
theorem zms_59 : zms (zP 59) = 0 := rfl
theorem zow_59 : zown (zP 59) = 14 := rfl
theorem zhd_59 : zhd (zP 59) = [] := rfl
theorem zmc_60 : zmc (zP 60) = 0 := rfl
theorem zms_60 : zms (zP 60) = 0 := rfl
theorem zow_60 : zown (zP 60) = 3 := rfl
theorem zhd_60 : zhd (zP 60) = [] := rfl
theorem zmc_61 : zmc (zP 61) = 0 := rfl
theorem zms_61 : zms (zP 61) = 0 := rfl
theorem zow_61 : zown (zP 61) = 5 := rfl
theorem zhd_61 : zhd (zP 61) = [] := rfl
theorem zmc_62 : zmc (zP 62) = 2 := rfl
theorem zms_62 : zms (zP 62) = 67840 := rfl
theorem zow_62 : zown (zP 62) = 3 := rfl
theorem zhd_62 : zhd (zP 62) = [] := rfl
theorem zmc_63 : zmc (zP 63) = 4 := rfl
theorem zms_63 : zms (zP 63) = 67852 := rfl
theorem zow_63 : zown (zP 63) = 10 := rfl
theorem zhd_63 : zhd (zP 63) = [] := rfl
theorem zmc_64 : zmc (zP 64) = 4 := rfl
theorem zms_64 : zms (zP 64) = 67852 := rfl
theorem zow_64 : zown (zP 64) = 13 := rfl
theorem zmc_65 : zmc (zP 65) = 0 := rfl
theorem zms_65 : zms (zP 65) = 0 := rfl
theorem zow_65 : zown (zP 65) = 7 := rfl
theorem zhd_65 : zhd (zP 65) = [] := rfl
theorem zmc_66 : zmc (zP 66) = 0 := rfl
theorem zms_66 : zms (zP 66) = 0 := rfl
theorem zow_66 : zown (zP 66) = 7 := rfl
theorem zhd_66 : zhd (zP 66) = [] := rfl
theorem zmc_67 : zmc (zP 67) = 0 := rfl
theorem zms_67 : zms (zP 67) = 0 := rfl
theorem zow_67 : zown (zP 67) = 7 := rfl
theorem zhd_67 : zhd (zP 67) = [] := rfl
theorem zmc_68 : zmc (zP 68) = 0 := rfl
theorem zms_68 : zms (zP 68) = 0 := rfl
theorem zow_68 : zown (zP 68) = 7 := rfl
theorem zhd_68 : zhd (zP 68) = [] := rfl
theorem zmc_69 : zmc (zP 69) = 0 := rfl
theorem zms_69 : zms (zP 69) = 0 := rfl
theorem zow_69 : zown (zP 69) = 7 := rfl
theorem zhd_69 : zhd (zP 69) = [] := rfl
theorem zmc_70 : zmc (zP 70) = 0 := rfl
theorem zms_70 : zms (zP 70) = 0 := rfl
theorem zow_70 : zown (zP 70) = 7 := rfl
theorem zhd_70 : zhd (zP 70) = [] := rfl
theorem zmc_71 : zmc (zP 71) = 2 := rfl
theorem zms_71 : zms (zP 71) = 12 := rfl
theorem zow_71 : zown (zP 71) = 10 := rfl
theorem zhd_71 : zhd (zP 71) = [] := rfl
theorem zmc_72 : zmc (zP 72) = 2 := rfl
theorem zms_72 : zms (zP 72) = 12 := rfl
theorem zow_72 : zown (zP 72) = 13 := rfl
theorem zmc_73 : zmc (zP 73) = 0 := rfl
theorem zms_73 : zms (zP 73) = 0 := rfl
theorem zow_73 : zown (zP 73) = 1 := rfl
theorem zhd_73 : zhd (zP 73) = [] := rfl
theorem zmc_74 : zmc (zP 74) = 0 := rfl
theorem zms_74 : zms (zP 74) = 0 := rfl
theorem zow_74 : zown (zP 74) = 1 := rfl
theorem zhd_74 : zhd (zP 74) = [] := rfl
theorem zmc_75 : zmc (zP 75) = 0 := rfl
theorem zms_75 : zms (zP 75) = 0 := rfl
theorem zow_75 : zown (zP 75) = 1 := rfl
theorem zhd_75 : zhd (zP 75) = [] := rfl
theorem zmc_76 : zmc (zP 76) = 1 := rfl
theorem zms_76 : zms (zP 76) = 6 := rfl
theorem zow_76 : zown (zP 76) = 10 := rfl
theorem zhd_76 : zhd (zP 76) = [] := rfl
theorem zmc_77 : zmc (zP 77) = 1 := rfl
theorem zms_77 : zms (zP 77) = 6 := rfl
theorem zow_77 : zown (zP 77) = 13 := rfl
theorem zmc_78 : zmc (zP 78) = 0 := rfl
theorem zms_78 : zms (zP 78) = 0 := rfl
theorem zow_78 : zown (zP 78) = 1 := rfl
theorem zhd_78 : zhd (zP 78) = [] := rfl
theorem zmc_79 : zmc (zP 79) = 0 := rfl
theorem zms_79 : zms (zP 79) = 0 := rfl
theorem zow_79 : zown (zP 79) = 12 := rfl
theorem zhd_79 : zhd (zP 79) = [] := rfl
theorem zmc_80 : zmc (zP 80) = 0 := rfl
theorem zms_80 : zms (zP 80) = 0 := rfl
theorem zow_80 : zown (zP 80) = 12 := rfl
theorem zhd_80 : zhd (zP 80) = [] := rfl
theorem zmc_81 : zmc (zP 81) = 0 := rfl
theorem zms_81 : zms (zP 81) = 0 := rfl
theorem zow_81 : zown (zP 81) = 1 := rfl
theorem zhd_81 : zhd (zP 81) = [] := rfl
theorem zmc_82 : zmc (zP 82) = 0 := rfl
theorem zms_82 : zms (zP 82) = 0 := rfl
theorem zow_82 : zown (zP 82) = 1 := rfl
theorem zhd_82 : zhd (zP 82) = [] := rfl
theorem zmc_83 : zmc (zP 83) = 0 := rfl
theorem zms_83 : zms (zP 83) = 0 := rfl
theorem zow_83 : zown (zP 83) = 1 := rfl
theorem zhd_83 : zhd (zP 83) = [] := rfl
theorem zmc_84 : zmc (zP 84) = 0 := rfl
theorem zms_84 : zms (zP 84) = 0 := rfl
theorem zow_84 : zown (zP 84) = 1 := rfl
theorem zhd_84 : zhd (zP 84) = [] := rfl
theorem zmc_85 : zmc (zP 85) = 2 := rfl
theorem zms_85 : zms (zP 85) = 12 := rfl
theorem zow_85 : zown (zP 85) = 10 := rfl
theorem zhd_85 : zhd (zP 85) = [] := rfl
theorem zmc_86 : zmc (zP 86) = 2 := rfl
theorem zms_86 : zms (zP 86) = 12 := rfl
theorem zow_86 : zown (zP 86) = 13 := rfl
theorem zmc_87 : zmc (zP 87) = 0 := rfl
theorem zms_87 : zms (zP 87) = 0 := rfl
theorem zow_87 : zown (zP 87) = 9 := rfl
theorem zhd_87 : zhd (zP 87) = [] := rfl
theorem zmc_88 : zmc (zP 88) = 0 := rfl
theorem zms_88 : zms (zP 88) = 0 := rfl
theorem zow_88 : zown (zP 88) = 9 := rfl
theorem zhd_88 : zhd (zP 88) = [] := rfl
theorem zmc_89 : zmc (zP 89) = 2 := rfl
theorem zms_89 : zms (zP 89) = 12 := rfl
theorem zow_89 : zown (zP 89) = 10 := rfl
theorem zhd_89 : zhd (zP 89) = [] := rfl
theorem zmc_90 : zmc (zP 90) = 2 := rfl
theorem zms_90 : zms (zP 90) = 12 := rfl
theorem zow_90 : zown (zP 90) = 13 := rfl
theorem zmc_91 : zmc (zP 91) = 0 := rfl
theorem zms_91 : zms (zP 91) = 0 := rfl
theorem zow_91 : zown (zP 91) = 12 := rfl
theorem zhd_91 : zhd (zP 91) = [] := rfl
theorem zmc_92 : zmc (zP 92) = 0 := rfl
theorem zms_92 : zms (zP 92) = 0 := rfl
theorem zow_92 : zown (zP 92) = 12 := rfl
theorem zhd_92 : zhd (zP 92) = [] := rfl
theorem zmc_93 : zmc (zP 93) = 0 := rfl
theorem zms_93 : zms (zP 93) = 0 := rfl
theorem zow_93 : zown (zP 93) = 12 := rfl
theorem zhd_93 : zhd (zP 93) = [] := rfl
theorem zmc_94 : zmc (zP 94) = 1 := rfl
theorem zms_94 : zms (zP 94) = 6 := rfl
theorem zow_94 : zown (zP 94) = 10 := rfl
theorem zhd_94 : zhd (zP 94) = [] := rfl
theorem zmc_95 : zmc (zP 95) = 1 := rfl
theorem zms_95 : zms (zP 95) = 6 := rfl
theorem zow_95 : zown (zP 95) = 13 := rfl
theorem zmc_96 : zmc (zP 96) = 3 := rfl
theorem zms_96 : zms (zP 96) = 18 := rfl
theorem zow_96 : zown (zP 96) = 10 := rfl
theorem zhd_96 : zhd (zP 96) = [] := rfl
theorem zmc_97 : zmc (zP 97) = 3 := rfl
theorem zms_97 : zms (zP 97) = 18 := rfl
theorem zow_97 : zown (zP 97) = 13 := rfl
theorem zmc_98 : zmc (zP 98) = 0 := rfl
theorem zms_98 : zms (zP 98) = 0 := rfl
theorem zow_98 : zown (zP 98) = 1 := rfl
theorem zhd_98 : zhd (zP 98) = [] := rfl
theorem zmc_99 : zmc (zP 99) = 0 := rfl
theorem zms_99 : zms (zP 99) = 0 := rfl
theorem zow_99 : zown (zP 99) = 12 := rfl
theorem zhd_99 : zhd (zP 99) = [] := rfl
theorem zmc_100 : zmc (zP 100) = 0 := rfl
theorem zms_100 : zms (zP 100) = 0 := rfl
theorem zow_100 : zown (zP 100) = 1 := rfl
theorem zhd_100 : zhd (zP 100) = [] := rfl
theorem zmc_101 : zmc (zP 101) = 0 := rfl
theorem zms_101 : zms (zP 101) = 0 := rfl
theorem zow_101 : zown (zP 101) = 1 := rfl
theorem zhd_101 : zhd (zP 101) = [] := rfl
theorem zmc_102 : zmc (zP 102) = 2 := rfl
theorem zms_102 : zms (zP 102) = 12 := rfl
theorem zow_102 : zown (zP 102) = 10 := rfl
theorem zhd_102 : zhd (zP 102) = [] := rfl
theorem zmc_103 : zmc (zP 103) = 2 := rfl
theorem zms_103 : zms (zP 103) = 12 := rfl
theorem zow_103 : zown (zP 103) = 13 := rfl
theorem zmc_104 : zmc (zP 104) = 2 := rfl
theorem zms_104 : zms (zP 104) = 12 := rfl
theorem zow_104 : zown (zP 104) = 10 := rfl
theorem zhd_104 : zhd (zP 104) = [] := rfl
theorem zmc_105 : zmc (zP 105) = 2 := rfl
theorem zms_105 : zms (zP 105) = 12 := rfl
theorem zow_105 : zown (zP 105) = 13 := rfl
theorem zmc_106 : zmc (zP 106) = 0 := rfl
theorem zms_106 : zms (zP 106) = 0 := rfl
theorem zow_106 : zown (zP 106) = 1 := rfl
theorem zhd_106 : zhd (zP 106) = [] := rfl
theorem zmc_107 : zmc (zP 107) = 2 := rfl
theorem zms_107 : zms (zP 107) = 12 := rfl
theorem zow_107 : zown (zP 107) = 10 := rfl
theorem zhd_107 : zhd (zP 107) = [] := rfl
theorem zmc_108 : zmc (zP 108) = 2 := rfl
theorem zms_108 : zms (zP 108) = 12 := rfl
theorem zow_108 : zown (zP 108) = 13 := rfl
theorem zmc_109 : zmc (zP 109) = 0 := rfl
theorem zms_109 : zms (zP 109) = 0 := rfl
theorem zow_109 : zown (zP 109) = 9 := rfl
theorem zhd_109 : zhd (zP 109) = [] := rfl
theorem zmc_110 : zmc (zP 110) = 0 := rfl
theorem zms_110 : zms (zP 110) = 0 := rfl
theorem zow_110 : zown (zP 110) = 9 := rfl
theorem zhd_110 : zhd (zP 110) = [] := rfl
theorem zmc_111 : zmc (zP 111) = 0 := rfl
theorem zms_111 : zms (zP 111) = 0 := rfl
theorem zow_111 : zown (zP 111) = 9 := rfl
theorem zhd_111 : zhd (zP 111) = [] := rfl
theorem zmc_112 : zmc (zP 112) = 0 := rfl
theorem zms_112 : zms (zP 112) = 0 := rfl
theorem zow_112 : zown (zP 112) = 9 := rfl
theorem zhd_112 : zhd (zP 112) = [] := rfl
theorem zmc_113 : zmc (zP 113) = 0 := rfl
theorem zms_113 : zms (zP 113) = 0 := rfl
theorem zow_113 : zown (zP 113) = 9 := rfl
theorem zhd_113 : zhd (zP 113) = [] := rfl
theorem zmc_114 : zmc (zP 114) = 0 := rfl
theorem zms_114 : zms (zP 114) = 0 := rfl
theorem zow_114 : zown (zP 114) = 9 := rfl
theorem zhd_114 : zhd (zP 114) = [] := rfl
theorem zmc_115 : zmc (zP 115) = 0 := rfl
theorem zms_115 : zms (zP 115) = 0 := rfl
theorem zow_115 : zown (zP 115) = 9 := rfl
theorem zhd_115 : zhd (zP 115) = [] := rfl
theorem zmc_116 : zmc (zP 116) = 1 := rfl
theorem zms_116 : zms (zP 116) = 6 := rfl
theorem zow_116 : zown (zP 116) = 10 := rfl
theorem zhd_116 : zhd (zP 116) = [] := rfl
theorem zmc_117 : zmc (zP 117) = 2 := rfl
theorem zms_117 : zms (zP 117) = 12 := rfl
theorem zow_117 : zown (zP 117) = 10 := rfl
theorem zhd_117 : zhd (zP 117) = [] := rfl
theorem zmc_118 : zmc (zP 118) = 2 := rfl
theorem zms_118 : zms (zP 118) = 12 := rfl
theorem zow_118 : zown (zP 118) = 13 := rfl
theorem zmc_119 : zmc (zP 119) = 0 := rfl
theorem zms_119 : zms (zP 119) = 0 := rfl
theorem zow_119 : zown (zP 119) = 8 := rfl
theorem zhd_119 : zhd (zP 119) = [] := rfl
theorem zmc_120 : zmc (zP 120) = 1 := rfl
theorem zms_120 : zms (zP 120) = 6 := rfl
theorem zow_120 : zown (zP 120) = 10 := rfl
theorem zhd_120 : zhd (zP 120) = [] := rfl
theorem zmc_121 : zmc (zP 121) = 3 := rfl
theorem zms_121 : zms (zP 121) = 18 := rfl
theorem zow_121 : zown (zP 121) = 10 := rfl
theorem zhd_121 : zhd (zP 121) = [] := rfl
theorem zmc_122 : zmc (zP 122) = 3 := rfl
theorem zms_122 : zms (zP 122) = 18 := rfl
theorem zow_122 : zown (zP 122) = 13 := rfl
theorem zmc_123 : zmc (zP 123) = 2 := rfl
theorem zms_123 : zms (zP 123) = 12 := rfl
theorem zow_123 : zown (zP 123) = 10 := rfl
theorem zhd_123 : zhd (zP 123) = [] := rfl
theorem zmc_124 : zmc (zP 124) = 2 := rfl
theorem zms_124 : zms (zP 124) = 12 := rfl
theorem zow_124 : zown (zP 124) = 13 := rfl
theorem zmc_125 : zmc (zP 125) = 0 := rfl
theorem zms_125 : zms (zP 125) = 0 := rfl
theorem zow_125 : zown (zP 125) = 12 := rfl
theorem zhd_125 : zhd (zP 125) = [] := rfl
theorem zmc_126 : zmc (zP 126) = 2 := rfl
theorem zms_126 : zms (zP 126) = 12 := rfl
theorem zow_126 : zown (zP 126) = 10 := rfl
theorem zhd_126 : zhd (zP 126) = [] := rfl
theorem zmc_127 : zmc (zP 127) = 2 := rfl
theorem zms_127 : zms (zP 127) = 12 := rfl
theorem zow_127 : zown (zP 127) = 13 := rfl
theorem zmc_128 : zmc (zP 128) = 0 := rfl
theorem zms_128 : zms (zP 128) = 0 := rfl
theorem zow_128 : zown (zP 128) = 12 := rfl
theorem zhd_128 : zhd (zP 128) = [] := rfl
theorem zmc_129 : zmc (zP 129) = 3 := rfl
theorem zms_129 : zms (zP 129) = 18 := rfl
theorem zow_129 : zown (zP 129) = 10 := rfl
theorem zhd_129 : zhd (zP 129) = [] := rfl
theorem zmc_130 : zmc (zP 130) = 3 := rfl
theorem zms_130 : zms (zP 130) = 18 := rfl
theorem zow_130 : zown (zP 130) = 13 := rfl
theorem zmc_131 : zmc (zP 131) = 3 := rfl
theorem zms_131 : zms (zP 131) = 18 := rfl
theorem zow_131 : zown (zP 131) = 10 := rfl
theorem zhd_131 : zhd (zP 131) = [] := rfl
theorem zmc_132 : zmc (zP 132) = 3 := rfl
theorem zms_132 : zms (zP 132) = 18 := rfl
theorem zow_132 : zown (zP 132) = 13 := rfl
theorem zmc_133 : zmc (zP 133) = 0 := rfl
theorem zms_133 : zms (zP 133) = 0 := rfl
theorem zow_133 : zown (zP 133) = 3 := rfl
theorem zhd_133 : zhd (zP 133) = [] := rfl
theorem zmc_134 : zmc (zP 134) = 0 := rfl
theorem zms_134 : zms (zP 134) = 0 := rfl
theorem zow_134 : zown (zP 134) = 3 := rfl
theorem zhd_134 : zhd (zP 134) = [] := rfl
theorem zmc_135 : zmc (zP 135) = 0 := rfl
theorem zms_135 : zms (zP 135) = 0 := rfl
theorem zow_135 : zown (zP 135) = 3 := rfl
theorem zhd_135 : zhd (zP 135) = [] := rfl
theorem zmc_136 : zmc (zP 136) = 0 := rfl
theorem zms_136 : zms (zP 136) = 0 := rfl
theorem zow_136 : zown (zP 136) = 3 := rfl
theorem zhd_136 : zhd (zP 136) = [] := rfl
theorem zmc_137 : zmc (zP 137) = 1 := rfl
theorem zms_137 : zms (zP 137) = 2304 := rfl
theorem zow_137 : zown (zP 137) = 3 := rfl
theorem zhd_137 : zhd (zP 137) = [] := rfl
theorem zmc_138 : zmc (zP 138) = 0 := rfl
theorem zms_138 : zms (zP 138) = 0 := rfl
theorem zow_138 : zown (zP 138) = 3 := rfl
theorem zhd_138 : zhd (zP 138) = [] := rfl
theorem zmc_139 : zmc (zP 139) = 2 := rfl
theorem zms_139 : zms (zP 139) = 67840 := rfl
theorem zow_139 : zown (zP 139) = 3 := rfl
theorem zhd_139 : zhd (zP 139) = [] := rfl
theorem zmc_140 : zmc (zP 140) = 4 := rfl
theorem zms_140 : zms (zP 140) = 67852 := rfl
theorem zow_140 : zown (zP 140) = 10 := rfl
theorem zhd_140 : zhd (zP 140) = [] := rfl
theorem zmc_141 : zmc (zP 141) = 4 := rfl
theorem zms_141 : zms (zP 141) = 67852 := rfl
theorem zow_141 : zown (zP 141) = 13 := rfl
theorem zmc_142 : zmc (zP 142) = 4 := rfl
theorem zms_142 : zms (zP 142) = 24 := rfl
theorem zow_142 : zown (zP 142) = 10 := rfl
theorem zhd_142 : zhd (zP 142) = [] := rfl
theorem zmc_143 : zmc (zP 143) = 4 := rfl
theorem zms_143 : zms (zP 143) = 24 := rfl
theorem zow_143 : zown (zP 143) = 13 := rfl
theorem zmc_144 : zmc (zP 144) = 3 := rfl
theorem zms_144 : zms (zP 144) = 18 := rfl
theorem zow_144 : zown (zP 144) = 10 := rfl
theorem zhd_144 : zhd (zP 144) = [] := rfl
theorem zmc_145 : zmc (zP 145) = 3 := rfl
theorem zms_145 : zms (zP 145) = 18 := rfl
theorem zow_145 : zown (zP 145) = 13 := rfl
theorem zmc_146 : zmc (zP 146) = 4 := rfl
theorem zms_146 : zms (zP 146) = 24 := rfl
theorem zow_146 : zown (zP 146) = 10 := rfl
theorem zhd_146 : zhd (zP 146) = [] := rfl
theorem zmc_147 : zmc (zP 147) = 4 := rfl
theorem zms_147 : zms (zP 147) = 24 := rfl
theorem zow_147 : zown (zP 147) = 13 := rfl
theorem zmc_148 : zmc (zP 148) = 3 := rfl
theorem zms_148 : zms (zP 148) = 18 := rfl
theorem zow_148 : zown (zP 148) = 10 := rfl
theorem zhd_148 : zhd (zP 148) = [] := rfl
theorem zmc_149 : zmc (zP 149) = 3 := rfl
theorem zms_149 : zms (zP 149) = 18 := rfl
theorem zow_149 : zown (zP 149) = 13 := rfl
theorem zmc_150 : zmc (zP 150) = 2 := rfl
theorem zms_150 : zms (zP 150) = 12 := rfl
theorem zow_150 : zown (zP 150) = 10 := rfl
theorem zhd_150 : zhd (zP 150) = [] := rfl
theorem zmc_151 : zmc (zP 151) = 2 := rfl
theorem zms_151 : zms (zP 151) = 12 := rfl
theorem zow_151 : zown (zP 151) = 13 := rfl
theorem zmc_152 : zmc (zP 152) = 0 := rfl
theorem zms_152 : zms (zP 152) = 0 := rfl
theorem zow_152 : zown (zP 152) = 7 := rfl
theorem zhd_152 : zhd (zP 152) = [] := rfl
theorem zmc_153 : zmc (zP 153) = 0 := rfl
theorem zms_153 : zms (zP 153) = 0 := rfl
theorem zow_153 : zown (zP 153) = 7 := rfl
theorem zhd_153 : zhd (zP 153) = [] := rfl
theorem zmc_154 : zmc (zP 154) = 0 := rfl
theorem zms_154 : zms (zP 154) = 0 := rfl
theorem zow_154 : zown (zP 154) = 7 := rfl
theorem zhd_154 : zhd (zP 154) = [] := rfl
theorem zmc_155 : zmc (zP 155) = 0 := rfl
theorem zms_155 : zms (zP 155) = 0 := rfl
theorem zow_155 : zown (zP 155) = 7 := rfl
theorem zhd_155 : zhd (zP 155) = [] := rfl
theorem zmc_156 : zmc (zP 156) = 0 := rfl
theorem zms_156 : zms (zP 156) = 0 := rfl
theorem zow_156 : zown (zP 156) = 7 := rfl
theorem zhd_156 : zhd (zP 156) = [] := rfl
theorem zmc_157 : zmc (zP 157) = 1 := rfl
theorem zms_157 : zms (zP 157) = 6 := rfl
theorem zow_157 : zown (zP 157) = 10 := rfl
theorem zhd_157 : zhd (zP 157) = [] := rfl
theorem zmc_158 : zmc (zP 158) = 1 := rfl
theorem zms_158 : zms (zP 158) = 6 := rfl
theorem zow_158 : zown (zP 158) = 13 := rfl
theorem zmc_159 : zmc (zP 159) = 0 := rfl
theorem zms_159 : zms (zP 159) = 0 := rfl
theorem zow_159 : zown (zP 159) = 7 := rfl
theorem zhd_159 : zhd (zP 159) = [] := rfl
theorem zmc_160 : zmc (zP 160) = 1 := rfl
theorem zms_160 : zms (zP 160) = 6 := rfl
theorem zow_160 : zown (zP 160) = 10 := rfl
theorem zhd_160 : zhd (zP 160) = [] := rfl
theorem zmc_161 : zmc (zP 161) = 1 := rfl
theorem zms_161 : zms (zP 161) = 6 := rfl
theorem zow_161 : zown (zP 161) = 13 := rfl
theorem zmc_162 : zmc (zP 162) = 3 := rfl
theorem zms_162 : zms (zP 162) = 18 := rfl
theorem zow_162 : zown (zP 162) = 10 := rfl
theorem zhd_162 : zhd (zP 162) = [] := rfl
theorem zmc_163 : zmc (zP 163) = 3 := rfl
theorem zms_163 : zms (zP 163) = 18 := rfl
theorem zow_163 : zown (zP 163) = 13 := rfl
theorem zmc_164 : zmc (zP 164) = 1 := rfl
theorem zms_164 : zms (zP 164) = 6 := rfl
theorem zow_164 : zown (zP 164) = 10 := rfl
theorem zhd_164 : zhd (zP 164) = [] := rfl
theorem zmc_165 : zmc (zP 165) = 1 := rfl
theorem zms_165 : zms (zP 165) = 6 := rfl
theorem zow_165 : zown (zP 165) = 13 := rfl
theorem zmc_166 : zmc (zP 166) = 0 := rfl
theorem zms_166 : zms (zP 166) = 0 := rfl
theorem zow_166 : zown (zP 166) = 4 := rfl
theorem zhd_166 : zhd (zP 166) = [] := rfl
theorem zmc_167 : zmc (zP 167) = 0 := rfl
theorem zms_167 : zms (zP 167) = 0 := rfl
theorem zow_167 : zown (zP 167) = 4 := rfl
theorem zhd_167 : zhd (zP 167) = [] := rfl
theorem zmc_168 : zmc (zP 168) = 0 := rfl
theorem zms_168 : zms (zP 168) = 0 := rfl
theorem zow_168 : zown (zP 168) = 4 := rfl
theorem zhd_168 : zhd (zP 168) = [] := rfl
theorem zmc_169 : zmc (zP 169) = 0 := rfl
theorem zms_169 : zms (zP 169) = 0 := rfl
theorem zow_169 : zown (zP 169) = 4 := rfl
theorem zhd_169 : zhd (zP 169) = [] := rfl
theorem zmc_170 : zmc (zP 170) = 0 := rfl
theorem zms_170 : zms (zP 170) = 0 := rfl
theorem zow_170 : zown (zP 170) = 4 := rfl
theorem zhd_170 : zhd (zP 170) = [] := rfl
theorem zmc_171 : zmc (zP 171) = 0 := rfl
theorem zms_171 : zms (zP 171) = 0 := rfl
theorem zow_171 : zown (zP 171) = 4 := rfl
theorem zhd_171 : zhd (zP 171) = [] := rfl
theorem zmc_172 : zmc (zP 172) = 0 := rfl
theorem zms_172 : zms (zP 172) = 0 := rfl
theorem zow_172 : zown (zP 172) = 4 := rfl
theorem zhd_172 : zhd (zP 172) = [] := rfl
theorem zmc_173 : zmc (zP 173) = 0 := rfl
theorem zms_173 : zms (zP 173) = 0 := rfl
theorem zow_173 : zown (zP 173) = 4 := rfl
theorem zhd_173 : zhd (zP 173) = [] := rfl
theorem zmc_174 : zmc (zP 174) = 0 := rfl
theorem zms_174 : zms (zP 174) = 0 := rfl
theorem zow_174 : zown (zP 174) = 4 := rfl
theorem zhd_174 : zhd (zP 174) = [] := rfl
theorem zmc_175 : zmc (zP 175) = 0 := rfl
theorem zms_175 : zms (zP 175) = 0 := rfl
theorem zow_175 : zown (zP 175) = 4 := rfl
theorem zhd_175 : zhd (zP 175) = [] := rfl
theorem zmc_176 : zmc (zP 176) = 0 := rfl
theorem zms_176 : zms (zP 176) = 0 := rfl
theorem zow_176 : zown (zP 176) = 8 := rfl
theorem zhd_176 : zhd (zP 176) = [] := rfl
theorem zmc_177 : zmc (zP 177) = 0 := rfl
theorem zms_177 : zms (zP 177) = 0 := rfl
theorem zow_177 : zown (zP 177) = 8 := rfl
theorem zhd_177 : zhd (zP 177) = [] := rfl
theorem zmc_178 : zmc (zP 178) = 0 := rfl
theorem zms_178 : zms (zP 178) = 0 := rfl
theorem zow_178 : zown (zP 178) = 4 := rfl
theorem zhd_178 : zhd (zP 178) = [] := rfl
theorem zmc_179 : zmc (zP 179) = 0 := rfl
theorem zms_179 : zms (zP 179) = 0 := rfl
theorem zow_179 : zown (zP 179) = 4 := rfl
theorem zhd_179 : zhd (zP 179) = [] := rfl
theorem zmc_180 : zmc (zP 180) = 0 := rfl
theorem zms_180 : zms (zP 180) = 0 := rfl
theorem zow_180 : zown (zP 180) = 4 := rfl
theorem zhd_180 : zhd (zP 180) = [] := rfl
theorem zmc_181 : zmc (zP 181) = 0 := rfl
theorem zms_181 : zms (zP 181) = 0 := rfl
theorem zow_181 : zown (zP 181) = 8 := rfl
theorem zhd_181 : zhd (zP 181) = [] := rfl
theorem zmc_182 : zmc (zP 182) = 0 := rfl
theorem zms_182 : zms (zP 182) = 0 := rfl
theorem zow_182 : zown (zP 182) = 4 := rfl
theorem zhd_182 : zhd (zP 182) = [] := rfl
theorem zmc_183 : zmc (zP 183) = 0 := rfl
theorem zms_183 : zms (zP 183) = 0 := rfl
theorem zow_183 : zown (zP 183) = 8 := rfl
theorem zhd_183 : zhd (zP 183) = [] := rfl
theorem zmc_184 : zmc (zP 184) = 0 := rfl
theorem zms_184 : zms (zP 184) = 0 := rfl
theorem zow_184 : zown (zP 184) = 4 := rfl
theorem zhd_184 : zhd (zP 184) = [] := rfl
theorem zmc_185 : zmc (zP 185) = 0 := rfl
theorem zms_185 : zms (zP 185) = 0 := rfl
theorem zow_185 : zown (zP 185) = 4 := rfl
theorem zhd_185 : zhd (zP 185) = [] := rfl
theorem zmc_186 : zmc (zP 186) = 0 := rfl
theorem zms_186 : zms (zP 186) = 0 := rfl
theorem zow_186 : zown (zP 186) = 8 := rfl
theorem zhd_186 : zhd (zP 186) = [] := rfl
theorem zmc_187 : zmc (zP 187) = 0 := rfl
theorem zms_187 : zms (zP 187) = 0 := rfl
theorem zow_187 : zown (zP 187) = 4 := rfl
theorem zhd_187 : zhd (zP 187) = [] := rfl
theorem zmc_188 : zmc (zP 188) = 0 := rfl
theorem zms_188 : zms (zP 188) = 0 := rfl
theorem zow_188 : zown (zP 188) = 17 := rfl
theorem zhd_188 : zhd (zP 188) = [] := rfl
theorem zmc_189 : zmc (zP 189) = 0 := rfl
theorem zms_189 : zms (zP 189) = 0 := rfl
theorem zow_189 : zown (zP 189) = 8 := rfl
theorem zhd_189 : zhd (zP 189) = [] := rfl
theorem zmc_190 : zmc (zP 190) = 0 := rfl
theorem zms_190 : zms (zP 190) = 0 := rfl
theorem zow_190 : zown (zP 190) = 8 := rfl
theorem zhd_190 : zhd (zP 190) = [] := rfl
theorem zmc_191 : zmc (zP 191) = 0 := rfl
theorem zms_191 : zms (zP 191) = 0 := rfl
theorem zow_191 : zown (zP 191) = 8 := rfl
theorem zhd_191 : zhd (zP 191) = [] := rfl
theorem zmc_192 : zmc (zP 192) = 0 := rfl
theorem zms_192 : zms (zP 192) = 0 := rfl
theorem zow_192 : zown (zP 192) = 8 := rfl
theorem zhd_192 : zhd (zP 192) = [] := rfl
theorem zmc_193 : zmc (zP 193) = 0 := rfl
theorem zms_193 : zms (zP 193) = 0 := rfl
theorem zow_193 : zown (zP 193) = 8 := rfl
theorem zhd_193 : zhd (zP 193) = [] := rfl
theorem zmc_194 : zmc (zP 194) = 0 := rfl
theorem zms_194 : zms (zP 194) = 0 := rfl
theorem zow_194 : zown (zP 194) = 4 := rfl
theorem zhd_194 : zhd (zP 194) = [] := rfl
theorem zmc_195 : zmc (zP 195) = 1 := rfl
theorem zms_195 : zms (zP 195) = 6 := rfl
theorem zow_195 : zown (zP 195) = 10 := rfl
theorem zhd_195 : zhd (zP 195) = [] := rfl
theorem zmc_196 : zmc (zP 196) = 1 := rfl
theorem zms_196 : zms (zP 196) = 6 := rfl
theorem zow_196 : zown (zP 196) = 13 := rfl
theorem zmc_197 : zmc (zP 197) = 0 := rfl
theorem zms_197 : zms (zP 197) = 0 := rfl
theorem zow_197 : zown (zP 197) = 9 := rfl
theorem zhd_197 : zhd (zP 197) = [] := rfl
theorem zmc_198 : zmc (zP 198) = 0 := rfl
theorem zms_198 : zms (zP 198) = 0 := rfl
theorem zow_198 : zown (zP 198) = 9 := rfl
theorem zhd_198 : zhd (zP 198) = [] := rfl
theorem zmc_199 : zmc (zP 199) = 2 := rfl
theorem zms_199 : zms (zP 199) = 12 := rfl
theorem zow_199 : zown (zP 199) = 10 := rfl
theorem zhd_199 : zhd (zP 199) = [] := rfl
theorem zmc_200 : zmc (zP 200) = 2 := rfl
theorem zms_200 : zms (zP 200) = 12 := rfl
theorem zow_200 : zown (zP 200) = 13 := rfl
theorem zmc_201 : zmc (zP 201) = 2 := rfl
theorem zms_201 : zms (zP 201) = 12 := rfl
theorem zow_201 : zown (zP 201) = 10 := rfl
theorem zhd_201 : zhd (zP 201) = [] := rfl
theorem zmc_202 : zmc (zP 202) = 2 := rfl
theorem zms_202 : zms (zP 202) = 12 := rfl
theorem zow_202 : zown (zP 202) = 13 := rfl
theorem zmc_203 : zmc (zP 203) = 1193 := rfl
theorem zms_203 : zms (zP 203) = 95230 := rfl
theorem zow_203 : zown (zP 203) = 11 := rfl
theorem zhd_203 : zhd (zP 203) = [] := rfl
theorem zmc_204 : zmc (zP 204) = 0 := rfl
theorem zms_204 : zms (zP 204) = 0 := rfl
theorem zow_204 : zown (zP 204) = 11 := rfl
theorem zhd_204 : zhd (zP 204) = [] := rfl
theorem zmc_205 : zmc (zP 205) = 0 := rfl
theorem zms_205 : zms (zP 205) = 0 := rfl
theorem zow_205 : zown (zP 205) = 11 := rfl
theorem zhd_205 : zhd (zP 205) = [] := rfl
theorem zmc_206 : zmc (zP 206) = 0 := rfl
theorem zms_206 : zms (zP 206) = 0 := rfl
theorem zow_206 : zown (zP 206) = 11 := rfl
theorem zhd_206 : zhd (zP 206) = [] := rfl
theorem zmc_207 : zmc (zP 207) = 0 := rfl
theorem zms_207 : zms (zP 207) = 0 := rfl
theorem zow_207 : zown (zP 207) = 11 := rfl
theorem zhd_207 : zhd (zP 207) = [] := rfl
theorem zmc_208 : zmc (zP 208) = 0 := rfl
theorem zms_208 : zms (zP 208) = 0 := rfl
theorem zow_208 : zown (zP 208) = 11 := rfl
theorem zhd_208 : zhd (zP 208) = [] := rfl
theorem zmc_209 : zmc (zP 209) = 0 := rfl
theorem zms_209 : zms (zP 209) = 0 := rfl
theorem zow_209 : zown (zP 209) = 11 := rfl
theorem zhd_209 : zhd (zP 209) = [] := rfl
theorem zmc_210 : zmc (zP 210) = 0 := rfl
theorem zms_210 : zms (zP 210) = 0 := rfl
theorem zow_210 : zown (zP 210) = 11 := rfl
theorem zhd_210 : zhd (zP 210) = [] := rfl
theorem zmc_211 : zmc (zP 211) = 0 := rfl
theorem zms_211 : zms (zP 211) = 0 := rfl
theorem zow_211 : zown (zP 211) = 11 := rfl
theorem zhd_211 : zhd (zP 211) = [] := rfl
theorem zmc_212 : zmc (zP 212) = 0 := rfl
theorem zms_212 : zms (zP 212) = 0 := rfl
theorem zow_212 : zown (zP 212) = 11 := rfl
theorem zhd_212 : zhd (zP 212) = [] := rfl
theorem zmc_213 : zmc (zP 213) = 0 := rfl
theorem zms_213 : zms (zP 213) = 0 := rfl
theorem zow_213 : zown (zP 213) = 11 := rfl
theorem zhd_213 : zhd (zP 213) = [] := rfl
theorem zmc_214 : zmc (zP 214) = 0 := rfl
theorem zms_214 : zms (zP 214) = 0 := rfl
theorem zow_214 : zown (zP 214) = 11 := rfl
theorem zhd_214 : zhd (zP 214) = [] := rfl
theorem zmc_215 : zmc (zP 215) = 0 := rfl
theorem zms_215 : zms (zP 215) = 0 := rfl
theorem zow_215 : zown (zP 215) = 11 := rfl
theorem zhd_215 : zhd (zP 215) = [] := rfl
theorem zmc_216 : zmc (zP 216) = 0 := rfl
theorem zms_216 : zms (zP 216) = 0 := rfl
theorem zow_216 : zown (zP 216) = 11 := rfl
theorem zhd_216 : zhd (zP 216) = [] := rfl
theorem zmc_217 : zmc (zP 217) = 0 := rfl
theorem zms_217 : zms (zP 217) = 0 := rfl
theorem zow_217 : zown (zP 217) = 11 := rfl
theorem zhd_217 : zhd (zP 217) = [] := rfl
theorem zmc_218 : zmc (zP 218) = 0 := rfl
theorem zms_218 : zms (zP 218) = 0 := rfl
theorem zow_218 : zown (zP 218) = 11 := rfl
theorem zhd_218 : zhd (zP 218) = [] := rfl
theorem zmc_219 : zmc (zP 219) = 0 := rfl
theorem zms_219 : zms (zP 219) = 0 := rfl
theorem zow_219 : zown (zP 219) = 11 := rfl
theorem zhd_219 : zhd (zP 219) = [] := rfl
theorem zmc_220 : zmc (zP 220) = 0 := rfl
theorem zms_220 : zms (zP 220) = 0 := rfl
theorem zow_220 : zown (zP 220) = 11 := rfl
theorem zhd_220 : zhd (zP 220) = [] := rfl
theorem zmc_221 : zmc (zP 221) = 0 := rfl
theorem zms_221 : zms (zP 221) = 0 := rfl
theorem zow_221 : zown (zP 221) = 11 := rfl
theorem zhd_221 : zhd (zP 221) = [] := rfl
theorem zmc_222 : zmc (zP 222) = 0 := rfl
theorem zms_222 : zms (zP 222) = 0 := rfl
theorem zow_222 : zown (zP 222) = 11 := rfl
theorem zhd_222 : zhd (zP 222) = [] := rfl
theorem zmc_223 : zmc (zP 223) = 0 := rfl
theorem zms_223 : zms (zP 223) = 0 := rfl
theorem zow_223 : zown (zP 223) = 11 := rfl
theorem zhd_223 : zhd (zP 223) = [] := rfl
theorem zmc_224 : zmc (zP 224) = 0 := rfl
theorem zms_224 : zms (zP 224) = 0 := rfl
theorem zow_224 : zown (zP 224) = 11 := rfl
theorem zhd_224 : zhd (zP 224) = [] := rfl
theorem zmc_225 : zmc (zP 225) = 0 := rfl
theorem zms_225 : zms (zP 225) = 0 := rfl
theorem zow_225 : zown (zP 225) = 11 := rfl
theorem zhd_225 : zhd (zP 225) = [] := rfl
theorem zmc_226 : zmc (zP 226) = 0 := rfl
theorem zms_226 : zms (zP 226) = 0 := rfl
theorem zow_226 : zown (zP 226) = 11 := rfl
theorem zhd_226 : zhd (zP 226) = [] := rfl
theorem zmc_227 : zmc (zP 227) = 0 := rfl
theorem zms_227 : zms (zP 227) = 0 := rfl
theorem zow_227 : zown (zP 227) = 11 := rfl
theorem zhd_227 : zhd (zP 227) = [] := rfl
theorem zmc_228 : zmc (zP 228) = 0 := rfl
theorem zms_228 : zms (zP 228) = 0 := rfl
theorem zow_228 : zown (zP 228) = 11 := rfl
theorem zhd_228 : zhd (zP 228) = [] := rfl
theorem zmc_229 : zmc (zP 229) = 1 := rfl
theorem zms_229 : zms (zP 229) = 24 := rfl
theorem zow_229 : zown (zP 229) = 11 := rfl
theorem zhd_229 : zhd (zP 229) = [] := rfl
theorem zmc_230 : zmc (zP 230) = 0 := rfl
theorem zms_230 : zms (zP 230) = 0 := rfl
theorem zow_230 : zown (zP 230) = 11 := rfl
theorem zhd_230 : zhd (zP 230) = [] := rfl
theorem zmc_231 : zmc (zP 231) = 0 := rfl
theorem zms_231 : zms (zP 231) = 0 := rfl
theorem zow_231 : zown (zP 231) = 11 := rfl
theorem zhd_231 : zhd (zP 231) = [] := rfl
theorem zmc_232 : zmc (zP 232) = 0 := rfl
theorem zms_232 : zms (zP 232) = 0 := rfl
theorem zow_232 : zown (zP 232) = 11 := rfl
theorem zhd_232 : zhd (zP 232) = [] := rfl
theorem zmc_233 : zmc (zP 233) = 0 := rfl
theorem zms_233 : zms (zP 233) = 0 := rfl
theorem zow_233 : zown (zP 233) = 11 := rfl
theorem zhd_233 : zhd (zP 233) = [] := rfl
theorem zmc_234 : zmc (zP 234) = 0 := rfl
theorem zms_234 : zms (zP 234) = 0 := rfl
theorem zow_234 : zown (zP 234) = 11 := rfl
theorem zhd_234 : zhd (zP 234) = [] := rfl
theorem zmc_235 : zmc (zP 235) = 0 := rfl
theorem zms_235 : zms (zP 235) = 0 := rfl
theorem zow_235 : zown (zP 235) = 11 := rfl
theorem zhd_235 : zhd (zP 235) = [] := rfl
theorem zmc_236 : zmc (zP 236) = 0 := rfl
theorem zms_236 : zms (zP 236) = 0 := rfl
theorem zow_236 : zown (zP 236) = 11 := rfl
theorem zhd_236 : zhd (zP 236) = [] := rfl
theorem zmc_237 : zmc (zP 237) = 0 := rfl
theorem zms_237 : zms (zP 237) = 0 := rfl
theorem zow_237 : zown (zP 237) = 11 := rfl
theorem zhd_237 : zhd (zP 237) = [] := rfl
theorem zmc_238 : zmc (zP 238) = 0 := rfl
theorem zms_238 : zms (zP 238) = 0 := rfl
theorem zow_238 : zown (zP 238) = 11 := rfl
theorem zhd_238 : zhd (zP 238) = [] := rfl
theorem zmc_239 : zmc (zP 239) = 0 := rfl
theorem zms_239 : zms (zP 239) = 0 := rfl
theorem zow_239 : zown (zP 239) = 11 := rfl
theorem zhd_239 : zhd (zP 239) = [] := rfl
theorem zmc_240 : zmc (zP 240) = 0 := rfl
theorem zms_240 : zms (zP 240) = 0 := rfl
theorem zow_240 : zown (zP 240) = 11 := rfl
theorem zhd_240 : zhd (zP 240) = [] := rfl
theorem zmc_241 : zmc (zP 241) = 0 := rfl
theorem zms_241 : zms (zP 241) = 0 := rfl
theorem zow_241 : zown (zP 241) = 11 := rfl
theorem zhd_241 : zhd (zP 241) = [] := rfl
theorem zmc_242 : zmc (zP 242) = 0 := rfl
theorem zms_242 : zms (zP 242) = 0 := rfl
theorem zow_242 : zown (zP 242) = 11 := rfl
theorem zhd_242 : zhd (zP 242) = [] := rfl
theorem zmc_243 : zmc (zP 243) = 0 := rfl
theorem zms_243 : zms (zP 243) = 0 := rfl
theorem zow_243 : zown (zP 243) = 11 := rfl
theorem zhd_243 : zhd (zP 243) = [] := rfl
theorem zmc_244 : zmc (zP 244) = 0 := rfl
theorem zms_244 : zms (zP 244) = 0 := rfl
theorem zow_244 : zown (zP 244) = 11 := rfl
theorem zhd_244 : zhd (zP 244) = [] := rfl
theorem zmc_245 : zmc (zP 245) = 0 := rfl
theorem zms_245 : zms (zP 245) = 0 := rfl
theorem zow_245 : zown (zP 245) = 11 := rfl
theorem zhd_245 : zhd (zP 245) = [] := rfl
theorem zmc_246 : zmc (zP 246) = 0 := rfl
theorem zms_246 : zms (zP 246) = 0 := rfl
theorem zow_246 : zown (zP 246) = 11 := rfl
theorem zhd_246 : zhd (zP 246) = [] := rfl
theorem zmc_247 : zmc (zP 247) = 0 := rfl
theorem zms_247 : zms (zP 247) = 0 := rfl
theorem zow_247 : zown (zP 247) = 11 := rfl
theorem zhd_247 : zhd (zP 247) = [] := rfl
theorem zmc_248 : zmc (zP 248) = 0 := rfl
theorem zms_248 : zms (zP 248) = 0 := rfl
theorem zow_248 : zown (zP 248) = 11 := rfl
theorem zhd_248 : zhd (zP 248) = [] := rfl
theorem zmc_249 : zmc (zP 249) = 0 := rfl
theorem zms_249 : zms (zP 249) = 0 := rfl
theorem zow_249 : zown (zP 249) = 11 := rfl
theorem zhd_249 : zhd (zP 249) = [] := rfl
theorem zmc_250 : zmc (zP 250) = 0 := rfl
theorem zms_250 : zms (zP 250) = 0 := rfl
theorem zow_250 : zown (zP 250) = 11 := rfl
theorem zhd_250 : zhd (zP 250) = [] := rfl
theorem zmc_251 : zmc (zP 251) = 1 := rfl
theorem zms_251 : zms (zP 251) = 16 := rfl
theorem zow_251 : zown (zP 251) = 11 := rfl
theorem zhd_251 : zhd (zP 251) = [] := rfl
theorem zmc_252 : zmc (zP 252) = 0 := rfl
theorem zms_252 : zms (zP 252) = 0 := rfl
theorem zow_252 : zown (zP 252) = 11 := rfl
theorem zhd_252 : zhd (zP 252) = [] := rfl
theorem zmc_253 : zmc (zP 253) = 0 := rfl
theorem zms_253 : zms (zP 253) = 0 := rfl
theorem zow_253 : zown (zP 253) = 11 := rfl
theorem zhd_253 : zhd (zP 253) = [] := rfl
theorem zmc_254 : zmc (zP 254) = 0 := rfl
theorem zms_254 : zms (zP 254) = 0 := rfl
theorem zow_254 : zown (zP 254) = 11 := rfl
theorem zhd_254 : zhd (zP 254) = [] := rfl
theorem zmc_255 : zmc (zP 255) = 0 := rfl
theorem zms_255 : zms (zP 255) = 0 := rfl
theorem zow_255 : zown (zP 255) = 11 := rfl
theorem zhd_255 : zhd (zP 255) = [] := rfl
theorem zmc_256 : zmc (zP 256) = 0 := rfl
theorem zms_256 : zms (zP 256) = 0 := rfl
theorem zow_256 : zown (zP 256) = 11 := rfl
theorem zhd_256 : zhd (zP 256) = [] := rfl
theorem zmc_257 : zmc (zP 257) = 0 := rfl
theorem zms_257 : zms (zP 257) = 0 := rfl
theorem zow_257 : zown (zP 257) = 11 := rfl
theorem zhd_257 : zhd (zP 257) = [] := rfl
theorem zmc_258 : zmc (zP 258) = 0 := rfl
theorem zms_258 : zms (zP 258) = 0 := rfl
theorem zow_258 : zown (zP 258) = 11 := rfl
theorem zhd_258 : zhd (zP 258) = [] := rfl
theorem zmc_259 : zmc (zP 259) = 0 := rfl
theorem zms_259 : zms (zP 259) = 0 := rfl
theorem zow_259 : zown (zP 259) = 11 := rfl
theorem zhd_259 : zhd (zP 259) = [] := rfl
theorem zmc_260 : zmc (zP 260) = 0 := rfl
theorem zms_260 : zms (zP 260) = 0 := rfl
theorem zow_260 : zown (zP 260) = 11 := rfl
theorem zhd_260 : zhd (zP 260) = [] := rfl
theorem zmc_261 : zmc (zP 261) = 0 := rfl
theorem zms_261 : zms (zP 261) = 0 := rfl
theorem zow_261 : zown (zP 261) = 11 := rfl
theorem zhd_261 : zhd (zP 261) = [] := rfl
theorem zmc_262 : zmc (zP 262) = 0 := rfl
theorem zms_262 : zms (zP 262) = 0 := rfl
theorem zow_262 : zown (zP 262) = 11 := rfl
theorem zhd_262 : zhd (zP 262) = [] := rfl
theorem zmc_263 : zmc (zP 263) = 0 := rfl
theorem zms_263 : zms (zP 263) = 0 := rfl
theorem zow_263 : zown (zP 263) = 11 := rfl
theorem zhd_263 : zhd (zP 263) = [] := rfl
theorem zmc_264 : zmc (zP 264) = 0 := rfl
theorem zms_264 : zms (zP 264) = 0 := rfl
theorem zow_264 : zown (zP 264) = 11 := rfl
theorem zhd_264 : zhd (zP 264) = [] := rfl
theorem zmc_265 : zmc (zP 265) = 0 := rfl
theorem zms_265 : zms (zP 265) = 0 := rfl
theorem zow_265 : zown (zP 265) = 11 := rfl
theorem zhd_265 : zhd (zP 265) = [] := rfl
theorem zmc_266 : zmc (zP 266) = 0 := rfl
theorem zms_266 : zms (zP 266) = 0 := rfl
theorem zow_266 : zown (zP 266) = 11 := rfl
theorem zhd_266 : zhd (zP 266) = [] := rfl
theorem zmc_267 : zmc (zP 267) = 0 := rfl
theorem zms_267 : zms (zP 267) = 0 := rfl
theorem zow_267 : zown (zP 267) = 11 := rfl
theorem zhd_267 : zhd (zP 267) = [] := rfl
theorem zmc_268 : zmc (zP 268) = 0 := rfl
theorem zms_268 : zms (zP 268) = 0 := rfl
theorem zow_268 : zown (zP 268) = 11 := rfl
theorem zhd_268 : zhd (zP 268) = [] := rfl
theorem zmc_269 : zmc (zP 269) = 0 := rfl
theorem zms_269 : zms (zP 269) = 0 := rfl
theorem zow_269 : zown (zP 269) = 11 := rfl
theorem zhd_269 : zhd (zP 269) = [] := rfl
theorem zmc_270 : zmc (zP 270) = 0 := rfl
theorem zms_270 : zms (zP 270) = 0 := rfl
theorem zow_270 : zown (zP 270) = 11 := rfl
theorem zhd_270 : zhd (zP 270) = [] := rfl
theorem zmc_271 : zmc (zP 271) = 0 := rfl
theorem zms_271 : zms (zP 271) = 0 := rfl
theorem zow_271 : zown (zP 271) = 11 := rfl
theorem zhd_271 : zhd (zP 271) = [] := rfl
theorem zmc_272 : zmc (zP 272) = 0 := rfl
theorem zms_272 : zms (zP 272) = 0 := rfl
theorem zow_272 : zown (zP 272) = 11 := rfl
theorem zhd_272 : zhd (zP 272) = [] := rfl
theorem zmc_273 : zmc (zP 273) = 0 := rfl
theorem zms_273 : zms (zP 273) = 0 := rfl
theorem zow_273 : zown (zP 273) = 11 := rfl
theorem zhd_273 : zhd (zP 273) = [] := rfl
theorem zmc_274 : zmc (zP 274) = 0 := rfl
theorem zms_274 : zms (zP 274) = 0 := rfl
theorem zow_274 : zown (zP 274) = 11 := rfl
theorem zhd_274 : zhd (zP 274) = [] := rfl
theorem zmc_275 : zmc (zP 275) = 0 := rfl
theorem zms_275 : zms (zP 275) = 0 := rfl
theorem zow_275 : zown (zP 275) = 11 := rfl
theorem zhd_275 : zhd (zP 275) = [] := rfl
theorem zmc_276 : zmc (zP 276) = 0 := rfl
theorem zms_276 : zms (zP 276) = 0 := rfl
theorem zow_276 : zown (zP 276) = 11 := rfl
theorem zhd_276 : zhd (zP 276) = [] := rfl
theorem zmc_277 : zmc (zP 277) = 0 := rfl
theorem zms_277 : zms (zP 277) = 0 := rfl
theorem zow_277 : zown (zP 277) = 11 := rfl
theorem zhd_277 : zhd (zP 277) = [] := rfl
theorem zmc_278 : zmc (zP 278) = 0 := rfl
theorem zms_278 : zms (zP 278) = 0 := rfl
theorem zow_278 : zown (zP 278) = 11 := rfl
theorem zhd_278 : zhd (zP 278) = [] := rfl
theorem zmc_279 : zmc (zP 279) = 0 := rfl
theorem zms_279 : zms (zP 279) = 0 := rfl
theorem zow_279 : zown (zP 279) = 11 := rfl
theorem zhd_279 : zhd (zP 279) = [] := rfl
theorem zmc_280 : zmc (zP 280) = 0 := rfl
theorem zms_280 : zms (zP 280) = 0 := rfl
theorem zow_280 : zown (zP 280) = 11 := rfl
theorem zhd_280 : zhd (zP 280) = [] := rfl
theorem zmc_281 : zmc (zP 281) = 0 := rfl
theorem zms_281 : zms (zP 281) = 0 := rfl
theorem zow_281 : zown (zP 281) = 11 := rfl
theorem zhd_281 : zhd (zP 281) = [] := rfl
theorem zmc_282 : zmc (zP 282) = 0 := rfl
theorem zms_282 : zms (zP 282) = 0 := rfl
theorem zow_282 : zown (zP 282) = 11 := rfl
theorem zhd_282 : zhd (zP 282) = [] := rfl
theorem zmc_283 : zmc (zP 283) = 0 := rfl
theorem zms_283 : zms (zP 283) = 0 := rfl
theorem zow_283 : zown (zP 283) = 11 := rfl
theorem zhd_283 : zhd (zP 283) = [] := rfl
theorem zmc_284 : zmc (zP 284) = 0 := rfl
theorem zms_284 : zms (zP 284) = 0 := rfl
theorem zow_284 : zown (zP 284) = 11 := rfl
theorem zhd_284 : zhd (zP 284) = [] := rfl
theorem zmc_285 : zmc (zP 285) = 0 := rfl
theorem zms_285 : zms (zP 285) = 0 := rfl
theorem zow_285 : zown (zP 285) = 11 := rfl
theorem zhd_285 : zhd (zP 285) = [] := rfl
theorem zmc_286 : zmc (zP 286) = 0 := rfl
theorem zms_286 : zms (zP 286) = 0 := rfl
theorem zow_286 : zown (zP 286) = 11 := rfl
theorem zhd_286 : zhd (zP 286) = [] := rfl
theorem zmc_287 : zmc (zP 287) = 0 := rfl
theorem zms_287 : zms (zP 287) = 0 := rfl
theorem zow_287 : zown (zP 287) = 11 := rfl
theorem zhd_287 : zhd (zP 287) = [] := rfl
theorem zmc_288 : zmc (zP 288) = 0 := rfl
theorem zms_288 : zms (zP 288) = 0 := rfl
theorem zow_288 : zown (zP 288) = 11 := rfl
theorem zhd_288 : zhd (zP 288) = [] := rfl
theorem zmc_289 : zmc (zP 289) = 0 := rfl
theorem zms_289 : zms (zP 289) = 0 := rfl
theorem zow_289 : zown (zP 289) = 11 := rfl
theorem zhd_289 : zhd (zP 289) = [] := rfl
theorem zmc_290 : zmc (zP 290) = 0 := rfl
theorem zms_290 : zms (zP 290) = 0 := rfl
theorem zow_290 : zown (zP 290) = 11 := rfl
theorem zhd_290 : zhd (zP 290) = [] := rfl
theorem zmc_291 : zmc (zP 291) = 0 := rfl
theorem zms_291 : zms (zP 291) = 0 := rfl
theorem zow_291 : zown (zP 291) = 11 := rfl
theorem zhd_291 : zhd (zP 291) = [] := rfl
theorem zmc_292 : zmc (zP 292) = 0 := rfl
theorem zms_292 : zms (zP 292) = 0 := rfl
theorem zow_292 : zown (zP 292) = 11 := rfl
theorem zhd_292 : zhd (zP 292) = [] := rfl
theorem zmc_293 : zmc (zP 293) = 0 := rfl
theorem zms_293 : zms (zP 293) = 0 := rfl
theorem zow_293 : zown (zP 293) = 11 := rfl
theorem zhd_293 : zhd (zP 293) = [] := rfl
theorem zmc_294 : zmc (zP 294) = 0 := rfl
theorem zms_294 : zms (zP 294) = 0 := rfl
theorem zow_294 : zown (zP 294) = 11 := rfl
theorem zhd_294 : zhd (zP 294) = [] := rfl
theorem zmc_295 : zmc (zP 295) = 0 := rfl
theorem zms_295 : zms (zP 295) = 0 := rfl
theorem zow_295 : zown (zP 295) = 11 := rfl
theorem zhd_295 : zhd (zP 295) = [] := rfl
theorem zmc_296 : zmc (zP 296) = 0 := rfl
theorem zms_296 : zms (zP 296) = 0 := rfl
theorem zow_296 : zown (zP 296) = 11 := rfl
theorem zhd_296 : zhd (zP 296) = [] := rfl
theorem zmc_297 : zmc (zP 297) = 0 := rfl
theorem zms_297 : zms (zP 297) = 0 := rfl
theorem zow_297 : zown (zP 297) = 11 := rfl
theorem zhd_297 : zhd (zP 297) = [] := rfl
theorem zmc_298 : zmc (zP 298) = 0 := rfl
theorem zms_298 : zms (zP 298) = 0 := rfl
theorem zow_298 : zown (zP 298) = 11 := rfl
theorem zhd_298 : zhd (zP 298) = [] := rfl
theorem zmc_299 : zmc (zP 299) = 0 := rfl
theorem zms_299 : zms (zP 299) = 0 := rfl
theorem zow_299 : zown (zP 299) = 11 := rfl
theorem zhd_299 : zhd (zP 299) = [] := rfl
theorem zmc_300 : zmc (zP 300) = 0 := rfl
theorem zms_300 : zms (zP 300) = 0 := rfl
theorem zow_300 : zown (zP 300) = 11 := rfl
theorem zhd_300 : zhd (zP 300) = [] := rfl
theorem zmc_301 : zmc (zP 301) = 0 := rfl
theorem zms_301 : zms (zP 301) = 0 := rfl
theorem zow_301 : zown (zP 301) = 11 := rfl
theorem zhd_301 : zhd (zP 301) = [] := rfl
theorem zmc_302 : zmc (zP 302) = 0 := rfl
theorem zms_302 : zms (zP 302) = 0 := rfl
theorem zow_302 : zown (zP 302) = 11 := rfl
theorem zhd_302 : zhd (zP 302) = [] := rfl
theorem zmc_303 : zmc (zP 303) = 0 := rfl
theorem zms_303 : zms (zP 303) = 0 := rfl
theorem zow_303 : zown (zP 303) = 11 := rfl
theorem zhd_303 : zhd (zP 303) = [] := rfl
theorem zmc_304 : zmc (zP 304) = 0 := rfl
theorem zms_304 : zms (zP 304) = 0 := rfl
theorem zow_304 : zown (zP 304) = 11 := rfl
theorem zhd_304 : zhd (zP 304) = [] := rfl
theorem zmc_305 : zmc (zP 305) = 0 := rfl
theorem zms_305 : zms (zP 305) = 0 := rfl
theorem zow_305 : zown (zP 305) = 11 := rfl
theorem zhd_305 : zhd (zP 305) = [] := rfl
theorem zmc_306 : zmc (zP 306) = 0 := rfl
theorem zms_306 : zms (zP 306) = 0 := rfl
theorem zow_306 : zown (zP 306) = 11 := rfl
theorem zhd_306 : zhd (zP 306) = [] := rfl
theorem zmc_307 : zmc (zP 307) = 0 := rfl
theorem zms_307 : zms (zP 307) = 0 := rfl
theorem zow_307 : zown (zP 307) = 11 := rfl
theorem zhd_307 : zhd (zP 307) = [] := rfl
theorem zmc_308 : zmc (zP 308) = 0 := rfl
theorem zms_308 : zms (zP 308) = 0 := rfl
theorem zow_308 : zown (zP 308) = 11 := rfl
theorem zhd_308 : zhd (zP 308) = [] := rfl
theorem zmc_309 : zmc (zP 309) = 0 := rfl
theorem zms_309 : zms (zP 309) = 0 := rfl
theorem zow_309 : zown (zP 309) = 11 := rfl
theorem zhd_309 : zhd (zP 309) = [] := rfl
theorem zmc_310 : zmc (zP 310) = 0 := rfl
theorem zms_310 : zms (zP 310) = 0 := rfl
theorem zow_310 : zown (zP 310) = 11 := rfl
theorem zhd_310 : zhd (zP 310) = [] := rfl
theorem zmc_311 : zmc (zP 311) = 0 := rfl
theorem zms_311 : zms (zP 311) = 0 := rfl
theorem zow_311 : zown (zP 311) = 11 := rfl
theorem zhd_311 : zhd (zP 311) = [] := rfl
theorem zmc_312 : zmc (zP 312) = 0 := rfl
theorem zms_312 : zms (zP 312) = 0 := rfl
theorem zow_312 : zown (zP 312) = 11 := rfl
theorem zhd_312 : zhd (zP 312) = [] := rfl
theorem zmc_313 : zmc (zP 313) = 0 := rfl
theorem zms_313 : zms (zP 313) = 0 := rfl
theorem zow_313 : zown (zP 313) = 11 := rfl
theorem zhd_313 : zhd (zP 313) = [] := rfl
theorem zmc_314 : zmc (zP 314) = 600128 := rfl
theorem zms_314 : zms (zP 314) = 7301098 := rfl
theorem zow_314 : zown (zP 314) = 13 := rfl
theorem zhd_314 : zhd (zP 314) = [] := rfl
theorem zthr_nil {pc : Nat} {E : String} : zthr [] pc E = none := rfl
theorem zwt_nil : zwt [] = 0 := rfl
theorem zwt_i {x : Int32} {S : List Value} : zwt (.int x :: S) = 1 + zwt S := rfl
theorem zwt_l {x : Int64} {S : List Value} : zwt (.long x :: S) = 2 + zwt S := rfl
theorem zwt_r {x : Nat} {S : List Value} : zwt (.ref x :: S) = 1 + zwt S := rfl
theorem zcall_of {P : Nat → zM} {k a : Nat} {av : List Value} {h : zH} {Q : zQ} (hl : a < k) (hw : zW P a av h Q) : zcall P k a av h Q := ⟨hl, hw⟩
theorem lgc0 {x y : Int64} : (lg_cmp x y = 0) = (x = y) := by
  apply propext
  unfold lg_cmp
  constructor
  · intro h
    by_cases h1 : x > y
    · rw [if_pos h1] at h; cases h
    · rw [if_neg h1] at h
      by_cases h2 : x = y
      · exact h2
      · rw [if_neg h2] at h; cases h
  · intro h
    subst h
    rw [if_neg (by intro z; exact absurd z Int64.lt_irrefl), if_pos rfl]
theorem zaI_c {q : Nat} {s : zS} {F : Nat → (Nat → Int32) → Prop} (h : gD s q = 1) : zaI ((hOf s).1 q) F = F (gN s q) (gA s q) := by
  show zaI (cel s q) F = _
  rw [cel_I h]
  rfl
theorem zaL_c {q : Nat} {s : zS} {F : Nat → (Nat → Int64) → Prop} (h : gD s q = 2) : zaL ((hOf s).1 q) F = F (gN s q) (gB s q) := by
  show zaL (cel s q) F = _
  rw [cel_L h]
  rfl
theorem zaR_c {q : Nat} {s : zS} {F : Nat → (Nat → Option Nat) → Prop} (h : gD s q = 3) : zaR ((hOf s).1 q) F = F (gN s q) (fun j => if j < gN s q then some (q + 1 + j) else none) := by
  show zaR (cel s q) F = _
  rw [cel_R h]
  rfl
theorem zlen_I {q : Nat} {s : zS} {F : Nat → Prop} (h : gD s q = 1) : zlen ((hOf s).1 q) F = F (gN s q) := by
  show zlen (cel s q) F = _
  rw [cel_I h]
  exact propext ⟨fun z => z.2, fun z => ⟨by decide, z⟩⟩
theorem zlen_L {q : Nat} {s : zS} {F : Nat → Prop} (h : gD s q = 2) : zlen ((hOf s).1 q) F = F (gN s q) := by
  show zlen (cel s q) F = _
  rw [cel_L h]
  exact propext ⟨fun z => z.2, fun z => ⟨by decide, z⟩⟩
theorem zlen_R {q : Nat} {s : zS} {F : Nat → Prop} (h : gD s q = 3) : zlen ((hOf s).1 q) F = F (gN s q) := by
  show zlen (cel s q) F = _
  rw [cel_R h]
  exact propext ⟨fun z => z.2, fun z => ⟨by decide, z⟩⟩
theorem zob_c {q c : Nat} {s : zS} {F : List Value → Prop} (h : gD s q = c + 4) : zob ((hOf s).1 q) c F = F (fls s q c) := by
  show zob (cel s q) c F = _
  rw [cel_O h]
  exact propext ⟨fun z => z.2, fun z => ⟨rfl, z⟩⟩
theorem zfd_c {q c k : Nat} {s : zS} {F : Value → Prop} (h : k < zsz.getD c 0) : zfd (fls s q c) k F = F (fvl s q c k) := by
  unfold zfd
  rw [fls_get h]
theorem hOf_2 {s : zS} : (hOf s).2 = gT s := rfl
/-! the store's readers over its writers -/
theorem gD_sI {s : zS} {a k : Nat} {x : Int32} : gD (sI s a k x) = gD s := rfl
theorem gN_sI {s : zS} {a k : Nat} {x : Int32} : gN (sI s a k x) = gN s := rfl
theorem gI_sI {s : zS} {a k : Nat} {x : Int32} {b j : Nat} : gI (sI s a k x) b j = if b = a ∧ j = k then x else gI s b j := rfl
theorem gJ_sI {s : zS} {a k : Nat} {x : Int32} : gJ (sI s a k x) = gJ s := rfl
theorem gR_sI {s : zS} {a k : Nat} {x : Int32} : gR (sI s a k x) = gR s := rfl
theorem gA_sI {s : zS} {a k : Nat} {x : Int32} : gA (sI s a k x) = gA s := rfl
theorem gB_sI {s : zS} {a k : Nat} {x : Int32} : gB (sI s a k x) = gB s := rfl
theorem gT_sI {s : zS} {a k : Nat} {x : Int32} : gT (sI s a k x) = gT s := rfl
theorem gD_sJ {s : zS} {a k : Nat} {x : Int64} : gD (sJ s a k x) = gD s := rfl
theorem gN_sJ {s : zS} {a k : Nat} {x : Int64} : gN (sJ s a k x) = gN s := rfl
theorem gI_sJ {s : zS} {a k : Nat} {x : Int64} : gI (sJ s a k x) = gI s := rfl
theorem gJ_sJ {s : zS} {a k : Nat} {x : Int64} {b j : Nat} : gJ (sJ s a k x) b j = if b = a ∧ j = k then x else gJ s b j := rfl
theorem gR_sJ {s : zS} {a k : Nat} {x : Int64} : gR (sJ s a k x) = gR s := rfl
theorem gA_sJ {s : zS} {a k : Nat} {x : Int64} : gA (sJ s a k x) = gA s := rfl
theorem gB_sJ {s : zS} {a k : Nat} {x : Int64} : gB (sJ s a k x) = gB s := rfl
theorem gT_sJ {s : zS} {a k : Nat} {x : Int64} : gT (sJ s a k x) = gT s := rfl
theorem gD_sR {s : zS} {a k x : Nat} : gD (sR s a k x) = gD s := rfl
theorem gN_sR {s : zS} {a k x : Nat} : gN (sR s a k x) = gN s := rfl
theorem gI_sR {s : zS} {a k x : Nat} : gI (sR s a k x) = gI s := rfl
theorem gJ_sR {s : zS} {a k x : Nat} : gJ (sR s a k x) = gJ s := rfl
theorem gR_sR {s : zS} {a k x : Nat} {b j : Nat} : gR (sR s a k x) b j = if b = a ∧ j = k then x else gR s b j := rfl
theorem gA_sR {s : zS} {a k x : Nat} : gA (sR s a k x) = gA s := rfl
theorem gB_sR {s : zS} {a k x : Nat} : gB (sR s a k x) = gB s := rfl
theorem gT_sR {s : zS} {a k x : Nat} : gT (sR s a k x) = gT s := rfl
theorem gD_sA {s : zS} {a : Nat} {g : Nat → Int32} : gD (sA s a g) = gD s := rfl
theorem gN_sA {s : zS} {a : Nat} {g : Nat → Int32} : gN (sA s a g) = gN s := rfl
theorem gI_sA {s : zS} {a : Nat} {g : Nat → Int32} : gI (sA s a g) = gI s := rfl
theorem gJ_sA {s : zS} {a : Nat} {g : Nat → Int32} : gJ (sA s a g) = gJ s := rfl
theorem gR_sA {s : zS} {a : Nat} {g : Nat → Int32} : gR (sA s a g) = gR s := rfl
theorem gA_sA {s : zS} {a : Nat} {g : Nat → Int32} {b : Nat} : gA (sA s a g) b = if b = a then g else gA s b := rfl
theorem gB_sA {s : zS} {a : Nat} {g : Nat → Int32} : gB (sA s a g) = gB s := rfl
theorem gT_sA {s : zS} {a : Nat} {g : Nat → Int32} : gT (sA s a g) = gT s := rfl
theorem gD_sB {s : zS} {a : Nat} {g : Nat → Int64} : gD (sB s a g) = gD s := rfl
theorem gN_sB {s : zS} {a : Nat} {g : Nat → Int64} : gN (sB s a g) = gN s := rfl
theorem gI_sB {s : zS} {a : Nat} {g : Nat → Int64} : gI (sB s a g) = gI s := rfl
theorem gJ_sB {s : zS} {a : Nat} {g : Nat → Int64} : gJ (sB s a g) = gJ s := rfl
theorem gR_sB {s : zS} {a : Nat} {g : Nat → Int64} : gR (sB s a g) = gR s := rfl
theorem gA_sB {s : zS} {a : Nat} {g : Nat → Int64} : gA (sB s a g) = gA s := rfl
theorem gB_sB {s : zS} {a : Nat} {g : Nat → Int64} {b : Nat} : gB (sB s a g) b = if b = a then g else gB s b := rfl
theorem gT_sB {s : zS} {a : Nat} {g : Nat → Int64} : gT (sB s a g) = gT s := rfl
theorem fv_0_0 {s : zS} {q : Nat} : fvl s q 0 0 = .int (gI s q 0) := rfl
theorem fv_0_1 {s : zS} {q : Nat} : fvl s q 0 1 = .ref (gR s q 1) := rfl
theorem fv_0_2 {s : zS} {q : Nat} : fvl s q 0 2 = .ref (gR s q 2) := rfl
theorem fv_0_3 {s : zS} {q : Nat} : fvl s q 0 3 = .ref (gR s q 3) := rfl
theorem fv_1_0 {s : zS} {q : Nat} : fvl s q 1 0 = .int (gI s q 0) := rfl
theorem fv_1_1 {s : zS} {q : Nat} : fvl s q 1 1 = .int (gI s q 1) := rfl
theorem fv_1_2 {s : zS} {q : Nat} : fvl s q 1 2 = .int (gI s q 2) := rfl
theorem fv_1_3 {s : zS} {q : Nat} : fvl s q 1 3 = .ref (gR s q 3) := rfl
theorem fv_1_4 {s : zS} {q : Nat} : fvl s q 1 4 = .ref (gR s q 4) := rfl
theorem fv_1_5 {s : zS} {q : Nat} : fvl s q 1 5 = .ref (gR s q 5) := rfl
theorem fv_1_6 {s : zS} {q : Nat} : fvl s q 1 6 = .int (gI s q 6) := rfl
theorem fv_2_0 {s : zS} {q : Nat} : fvl s q 2 0 = .int (gI s q 0) := rfl
theorem fv_2_1 {s : zS} {q : Nat} : fvl s q 2 1 = .ref (gR s q 1) := rfl
theorem fv_2_2 {s : zS} {q : Nat} : fvl s q 2 2 = .ref (gR s q 2) := rfl
theorem fv_2_3 {s : zS} {q : Nat} : fvl s q 2 3 = .ref (gR s q 3) := rfl
theorem fv_3_0 {s : zS} {q : Nat} : fvl s q 3 0 = .ref (gR s q 0) := rfl
theorem fv_3_1 {s : zS} {q : Nat} : fvl s q 3 1 = .ref (gR s q 1) := rfl
theorem fv_3_2 {s : zS} {q : Nat} : fvl s q 3 2 = .ref (gR s q 2) := rfl
theorem fv_3_3 {s : zS} {q : Nat} : fvl s q 3 3 = .int (gI s q 3) := rfl
theorem fv_3_4 {s : zS} {q : Nat} : fvl s q 3 4 = .ref (gR s q 4) := rfl
theorem fv_3_5 {s : zS} {q : Nat} : fvl s q 3 5 = .ref (gR s q 5) := rfl
theorem fv_3_6 {s : zS} {q : Nat} : fvl s q 3 6 = .int (gI s q 6) := rfl
theorem fv_4_0 {s : zS} {q : Nat} : fvl s q 4 0 = .int (gI s q 0) := rfl
theorem fv_4_1 {s : zS} {q : Nat} : fvl s q 4 1 = .int (gI s q 1) := rfl
theorem fv_4_2 {s : zS} {q : Nat} : fvl s q 4 2 = .ref (gR s q 2) := rfl
theorem fv_4_3 {s : zS} {q : Nat} : fvl s q 4 3 = .int (gI s q 3) := rfl
theorem fv_4_4 {s : zS} {q : Nat} : fvl s q 4 4 = .int (gI s q 4) := rfl
theorem fv_4_5 {s : zS} {q : Nat} : fvl s q 4 5 = .int (gI s q 5) := rfl
theorem fv_5_0 {s : zS} {q : Nat} : fvl s q 5 0 = .ref (gR s q 0) := rfl
theorem fv_5_1 {s : zS} {q : Nat} : fvl s q 5 1 = .ref (gR s q 1) := rfl
theorem fv_5_2 {s : zS} {q : Nat} : fvl s q 5 2 = .int (gI s q 2) := rfl
theorem fv_6_0 {s : zS} {q : Nat} : fvl s q 6 0 = .ref (gR s q 0) := rfl
theorem fv_6_1 {s : zS} {q : Nat} : fvl s q 6 1 = .ref (gR s q 1) := rfl
theorem fv_6_2 {s : zS} {q : Nat} : fvl s q 6 2 = .ref (gR s q 2) := rfl
theorem fv_7_0 {s : zS} {q : Nat} : fvl s q 7 0 = .int (gI s q 0) := rfl
theorem fv_7_1 {s : zS} {q : Nat} : fvl s q 7 1 = .ref (gR s q 1) := rfl
theorem fv_7_2 {s : zS} {q : Nat} : fvl s q 7 2 = .ref (gR s q 2) := rfl
theorem fv_7_3 {s : zS} {q : Nat} : fvl s q 7 3 = .ref (gR s q 3) := rfl
theorem fv_7_4 {s : zS} {q : Nat} : fvl s q 7 4 = .ref (gR s q 4) := rfl
theorem fv_7_5 {s : zS} {q : Nat} : fvl s q 7 5 = .int (gI s q 5) := rfl
theorem fv_8_0 {s : zS} {q : Nat} : fvl s q 8 0 = .int (gI s q 0) := rfl
theorem fv_8_1 {s : zS} {q : Nat} : fvl s q 8 1 = .int (gI s q 1) := rfl
theorem fv_8_2 {s : zS} {q : Nat} : fvl s q 8 2 = .int (gI s q 2) := rfl
theorem fv_8_3 {s : zS} {q : Nat} : fvl s q 8 3 = .int (gI s q 3) := rfl
theorem fv_8_4 {s : zS} {q : Nat} : fvl s q 8 4 = .int (gI s q 4) := rfl
theorem fv_8_5 {s : zS} {q : Nat} : fvl s q 8 5 = .long (gJ s q 5) := rfl
theorem fv_8_6 {s : zS} {q : Nat} : fvl s q 8 6 = .ref (gR s q 6) := rfl
theorem fv_8_7 {s : zS} {q : Nat} : fvl s q 8 7 = .ref (gR s q 7) := rfl
theorem fv_8_8 {s : zS} {q : Nat} : fvl s q 8 8 = .ref (gR s q 8) := rfl
theorem fv_8_9 {s : zS} {q : Nat} : fvl s q 8 9 = .ref (gR s q 9) := rfl
theorem fv_8_10 {s : zS} {q : Nat} : fvl s q 8 10 = .ref (gR s q 10) := rfl
theorem fv_8_11 {s : zS} {q : Nat} : fvl s q 8 11 = .ref (gR s q 11) := rfl
theorem fv_8_12 {s : zS} {q : Nat} : fvl s q 8 12 = .ref (gR s q 12) := rfl
theorem fv_8_13 {s : zS} {q : Nat} : fvl s q 8 13 = .ref (gR s q 13) := rfl
theorem fv_8_14 {s : zS} {q : Nat} : fvl s q 8 14 = .ref (gR s q 14) := rfl
theorem fv_8_15 {s : zS} {q : Nat} : fvl s q 8 15 = .ref (gR s q 15) := rfl
theorem fv_8_16 {s : zS} {q : Nat} : fvl s q 8 16 = .ref (gR s q 16) := rfl
theorem fv_8_17 {s : zS} {q : Nat} : fvl s q 8 17 = .ref (gR s q 17) := rfl
theorem fv_8_18 {s : zS} {q : Nat} : fvl s q 8 18 = .ref (gR s q 18) := rfl
theorem fv_9_0 {s : zS} {q : Nat} : fvl s q 9 0 = .int (gI s q 0) := rfl
theorem fv_9_1 {s : zS} {q : Nat} : fvl s q 9 1 = .ref (gR s q 1) := rfl
theorem fv_9_2 {s : zS} {q : Nat} : fvl s q 9 2 = .ref (gR s q 2) := rfl
theorem fv_9_3 {s : zS} {q : Nat} : fvl s q 9 3 = .ref (gR s q 3) := rfl
theorem fv_9_4 {s : zS} {q : Nat} : fvl s q 9 4 = .ref (gR s q 4) := rfl
theorem fv_9_5 {s : zS} {q : Nat} : fvl s q 9 5 = .ref (gR s q 5) := rfl
theorem fv_9_6 {s : zS} {q : Nat} : fvl s q 9 6 = .ref (gR s q 6) := rfl
theorem fv_9_7 {s : zS} {q : Nat} : fvl s q 9 7 = .ref (gR s q 7) := rfl
theorem fv_9_8 {s : zS} {q : Nat} : fvl s q 9 8 = .ref (gR s q 8) := rfl
theorem fv_9_9 {s : zS} {q : Nat} : fvl s q 9 9 = .ref (gR s q 9) := rfl
theorem fv_10_0 {s : zS} {q : Nat} : fvl s q 10 0 = .ref (gR s q 0) := rfl
theorem fv_10_1 {s : zS} {q : Nat} : fvl s q 10 1 = .int (gI s q 1) := rfl
theorem fv_10_2 {s : zS} {q : Nat} : fvl s q 10 2 = .int (gI s q 2) := rfl
theorem fv_10_3 {s : zS} {q : Nat} : fvl s q 10 3 = .ref (gR s q 3) := rfl
theorem fv_10_4 {s : zS} {q : Nat} : fvl s q 10 4 = .ref (gR s q 4) := rfl
theorem fv_10_5 {s : zS} {q : Nat} : fvl s q 10 5 = .ref (gR s q 5) := rfl
theorem fv_10_6 {s : zS} {q : Nat} : fvl s q 10 6 = .ref (gR s q 6) := rfl
theorem fv_10_7 {s : zS} {q : Nat} : fvl s q 10 7 = .ref (gR s q 7) := rfl
theorem fv_10_8 {s : zS} {q : Nat} : fvl s q 10 8 = .ref (gR s q 8) := rfl
theorem fv_10_9 {s : zS} {q : Nat} : fvl s q 10 9 = .ref (gR s q 9) := rfl
theorem fv_10_10 {s : zS} {q : Nat} : fvl s q 10 10 = .ref (gR s q 10) := rfl
theorem fv_10_11 {s : zS} {q : Nat} : fvl s q 10 11 = .ref (gR s q 11) := rfl
theorem fv_10_12 {s : zS} {q : Nat} : fvl s q 10 12 = .ref (gR s q 12) := rfl
theorem fv_10_13 {s : zS} {q : Nat} : fvl s q 10 13 = .ref (gR s q 13) := rfl
theorem fv_11_0 {s : zS} {q : Nat} : fvl s q 11 0 = .int (gI s q 0) := rfl
theorem fv_11_1 {s : zS} {q : Nat} : fvl s q 11 1 = .int (gI s q 1) := rfl
theorem fv_11_2 {s : zS} {q : Nat} : fvl s q 11 2 = .int (gI s q 2) := rfl
theorem fv_11_3 {s : zS} {q : Nat} : fvl s q 11 3 = .int (gI s q 3) := rfl
theorem fv_11_4 {s : zS} {q : Nat} : fvl s q 11 4 = .int (gI s q 4) := rfl
theorem fv_11_5 {s : zS} {q : Nat} : fvl s q 11 5 = .int (gI s q 5) := rfl
theorem fv_11_6 {s : zS} {q : Nat} : fvl s q 11 6 = .int (gI s q 6) := rfl
theorem fv_11_7 {s : zS} {q : Nat} : fvl s q 11 7 = .int (gI s q 7) := rfl
theorem fv_11_8 {s : zS} {q : Nat} : fvl s q 11 8 = .ref (gR s q 8) := rfl
theorem fv_11_9 {s : zS} {q : Nat} : fvl s q 11 9 = .ref (gR s q 9) := rfl
theorem fv_11_10 {s : zS} {q : Nat} : fvl s q 11 10 = .ref (gR s q 10) := rfl
theorem fv_11_11 {s : zS} {q : Nat} : fvl s q 11 11 = .ref (gR s q 11) := rfl
theorem fv_11_12 {s : zS} {q : Nat} : fvl s q 11 12 = .ref (gR s q 12) := rfl
theorem fv_11_13 {s : zS} {q : Nat} : fvl s q 11 13 = .ref (gR s q 13) := rfl
theorem fv_11_14 {s : zS} {q : Nat} : fvl s q 11 14 = .ref (gR s q 14) := rfl
theorem fv_11_15 {s : zS} {q : Nat} : fvl s q 11 15 = .ref (gR s q 15) := rfl
theorem fv_11_16 {s : zS} {q : Nat} : fvl s q 11 16 = .ref (gR s q 16) := rfl
theorem fv_11_17 {s : zS} {q : Nat} : fvl s q 11 17 = .ref (gR s q 17) := rfl
theorem fv_11_18 {s : zS} {q : Nat} : fvl s q 11 18 = .ref (gR s q 18) := rfl
theorem fv_11_19 {s : zS} {q : Nat} : fvl s q 11 19 = .int (gI s q 19) := rfl
theorem fv_11_20 {s : zS} {q : Nat} : fvl s q 11 20 = .ref (gR s q 20) := rfl
theorem fv_11_21 {s : zS} {q : Nat} : fvl s q 11 21 = .ref (gR s q 21) := rfl
theorem fv_11_22 {s : zS} {q : Nat} : fvl s q 11 22 = .ref (gR s q 22) := rfl
theorem fv_11_23 {s : zS} {q : Nat} : fvl s q 11 23 = .ref (gR s q 23) := rfl
theorem fv_11_24 {s : zS} {q : Nat} : fvl s q 11 24 = .ref (gR s q 24) := rfl
theorem fv_11_25 {s : zS} {q : Nat} : fvl s q 11 25 = .ref (gR s q 25) := rfl
theorem fv_11_26 {s : zS} {q : Nat} : fvl s q 11 26 = .ref (gR s q 26) := rfl
theorem fv_11_27 {s : zS} {q : Nat} : fvl s q 11 27 = .int (gI s q 27) := rfl
theorem fv_11_28 {s : zS} {q : Nat} : fvl s q 11 28 = .int (gI s q 28) := rfl
theorem fv_11_29 {s : zS} {q : Nat} : fvl s q 11 29 = .int (gI s q 29) := rfl
theorem fv_11_30 {s : zS} {q : Nat} : fvl s q 11 30 = .ref (gR s q 30) := rfl
theorem fv_11_31 {s : zS} {q : Nat} : fvl s q 11 31 = .ref (gR s q 31) := rfl
theorem fv_11_32 {s : zS} {q : Nat} : fvl s q 11 32 = .ref (gR s q 32) := rfl
theorem fv_11_33 {s : zS} {q : Nat} : fvl s q 11 33 = .int (gI s q 33) := rfl
theorem fv_11_34 {s : zS} {q : Nat} : fvl s q 11 34 = .int (gI s q 34) := rfl
theorem fv_11_35 {s : zS} {q : Nat} : fvl s q 11 35 = .int (gI s q 35) := rfl
theorem fv_11_36 {s : zS} {q : Nat} : fvl s q 11 36 = .ref (gR s q 36) := rfl
theorem fv_11_37 {s : zS} {q : Nat} : fvl s q 11 37 = .ref (gR s q 37) := rfl
theorem fv_11_38 {s : zS} {q : Nat} : fvl s q 11 38 = .ref (gR s q 38) := rfl
theorem fv_11_39 {s : zS} {q : Nat} : fvl s q 11 39 = .ref (gR s q 39) := rfl
theorem fv_11_40 {s : zS} {q : Nat} : fvl s q 11 40 = .ref (gR s q 40) := rfl
theorem fv_11_41 {s : zS} {q : Nat} : fvl s q 11 41 = .ref (gR s q 41) := rfl
theorem fv_11_42 {s : zS} {q : Nat} : fvl s q 11 42 = .ref (gR s q 42) := rfl
theorem fv_11_43 {s : zS} {q : Nat} : fvl s q 11 43 = .int (gI s q 43) := rfl
theorem fv_11_44 {s : zS} {q : Nat} : fvl s q 11 44 = .ref (gR s q 44) := rfl
theorem fv_11_45 {s : zS} {q : Nat} : fvl s q 11 45 = .int (gI s q 45) := rfl
theorem fv_11_46 {s : zS} {q : Nat} : fvl s q 11 46 = .ref (gR s q 46) := rfl
theorem fv_11_47 {s : zS} {q : Nat} : fvl s q 11 47 = .ref (gR s q 47) := rfl
theorem fv_11_48 {s : zS} {q : Nat} : fvl s q 11 48 = .ref (gR s q 48) := rfl
theorem fv_11_49 {s : zS} {q : Nat} : fvl s q 11 49 = .ref (gR s q 49) := rfl
theorem fv_11_50 {s : zS} {q : Nat} : fvl s q 11 50 = .ref (gR s q 50) := rfl
theorem fv_11_51 {s : zS} {q : Nat} : fvl s q 11 51 = .ref (gR s q 51) := rfl
theorem fv_11_52 {s : zS} {q : Nat} : fvl s q 11 52 = .ref (gR s q 52) := rfl
theorem fv_11_53 {s : zS} {q : Nat} : fvl s q 11 53 = .ref (gR s q 53) := rfl
theorem fv_11_54 {s : zS} {q : Nat} : fvl s q 11 54 = .int (gI s q 54) := rfl
theorem fv_11_55 {s : zS} {q : Nat} : fvl s q 11 55 = .int (gI s q 55) := rfl
theorem fv_11_56 {s : zS} {q : Nat} : fvl s q 11 56 = .int (gI s q 56) := rfl
theorem fv_11_57 {s : zS} {q : Nat} : fvl s q 11 57 = .long (gJ s q 57) := rfl
theorem fv_11_58 {s : zS} {q : Nat} : fvl s q 11 58 = .int (gI s q 58) := rfl
theorem fv_11_59 {s : zS} {q : Nat} : fvl s q 11 59 = .int (gI s q 59) := rfl
theorem zfitI {c k : Nat} {x : Int32} (h : zty c k = .int) : zfit (zty c k) (.int x) = true := by rw [h]; rfl
theorem zfitJ {c k : Nat} {x : Int64} (h : zty c k = .long) : zfit (zty c k) (.long x) = true := by rw [h]; rfl
theorem pf_0_0 {s : zS} {q : Nat} {x : Int32} {F : zH → Prop} (h : gD s q = 4) (h16 : 16 ≤ q) : (zob ((hOf s).1 q) 0 fun fs => 16 ≤ q ∧ 0 < fs.length ∧ zfit (zty 0 0) (.int x) = true ∧ F (zup (hOf s) q (.inr (0 + 1, fs.set 0 (.int x))))) = F (hOf (sI s q 0 x)) := by
  rw [zob_c (c := 0) h, fls_len, up_fI (c := 0) h rfl]
  exact propext ⟨fun z => z.2.2.2, fun z => ⟨h16, by decide, rfl, z⟩⟩
theorem pf_0_1 {s : zS} {q x : Nat} {F : zH → Prop} (h : gD s q = 4) (h16 : 16 ≤ q) : (zob ((hOf s).1 q) 0 fun fs => 16 ≤ q ∧ 1 < fs.length ∧ zfit (zty 0 1) (.ref x) = true ∧ F (zup (hOf s) q (.inr (0 + 1, fs.set 1 (.ref x))))) = F (hOf (sR s q 1 x)) := by
  rw [zob_c (c := 0) h, fls_len, up_fR (c := 0) h (by decide) (by decide)]
  exact propext ⟨fun z => z.2.2.2, fun z => ⟨h16, by decide, rfl, z⟩⟩
theorem pf_0_2 {s : zS} {q x : Nat} {F : zH → Prop} (h : gD s q = 4) (h16 : 16 ≤ q) : (zob ((hOf s).1 q) 0 fun fs => 16 ≤ q ∧ 2 < fs.length ∧ zfit (zty 0 2) (.ref x) = true ∧ F (zup (hOf s) q (.inr (0 + 1, fs.set 2 (.ref x))))) = F (hOf (sR s q 2 x)) := by
  rw [zob_c (c := 0) h, fls_len, up_fR (c := 0) h (by decide) (by decide)]
  exact propext ⟨fun z => z.2.2.2, fun z => ⟨h16, by decide, rfl, z⟩⟩
theorem pf_0_3 {s : zS} {q x : Nat} {F : zH → Prop} (h : gD s q = 4) (h16 : 16 ≤ q) : (zob ((hOf s).1 q) 0 fun fs => 16 ≤ q ∧ 3 < fs.length ∧ zfit (zty 0 3) (.ref x) = true ∧ F (zup (hOf s) q (.inr (0 + 1, fs.set 3 (.ref x))))) = F (hOf (sR s q 3 x)) := by
  rw [zob_c (c := 0) h, fls_len, up_fR (c := 0) h (by decide) (by decide)]
  exact propext ⟨fun z => z.2.2.2, fun z => ⟨h16, by decide, rfl, z⟩⟩
theorem pf_1_0 {s : zS} {q : Nat} {x : Int32} {F : zH → Prop} (h : gD s q = 5) (h16 : 16 ≤ q) : (zob ((hOf s).1 q) 1 fun fs => 16 ≤ q ∧ 0 < fs.length ∧ zfit (zty 1 0) (.int x) = true ∧ F (zup (hOf s) q (.inr (1 + 1, fs.set 0 (.int x))))) = F (hOf (sI s q 0 x)) := by
  rw [zob_c (c := 1) h, fls_len, up_fI (c := 1) h rfl]
  exact propext ⟨fun z => z.2.2.2, fun z => ⟨h16, by decide, rfl, z⟩⟩
theorem pf_1_1 {s : zS} {q : Nat} {x : Int32} {F : zH → Prop} (h : gD s q = 5) (h16 : 16 ≤ q) : (zob ((hOf s).1 q) 1 fun fs => 16 ≤ q ∧ 1 < fs.length ∧ zfit (zty 1 1) (.int x) = true ∧ F (zup (hOf s) q (.inr (1 + 1, fs.set 1 (.int x))))) = F (hOf (sI s q 1 x)) := by
  rw [zob_c (c := 1) h, fls_len, up_fI (c := 1) h rfl]
  exact propext ⟨fun z => z.2.2.2, fun z => ⟨h16, by decide, rfl, z⟩⟩
theorem pf_1_2 {s : zS} {q : Nat} {x : Int32} {F : zH → Prop} (h : gD s q = 5) (h16 : 16 ≤ q) : (zob ((hOf s).1 q) 1 fun fs => 16 ≤ q ∧ 2 < fs.length ∧ zfit (zty 1 2) (.int x) = true ∧ F (zup (hOf s) q (.inr (1 + 1, fs.set 2 (.int x))))) = F (hOf (sI s q 2 x)) := by
  rw [zob_c (c := 1) h, fls_len, up_fI (c := 1) h rfl]
  exact propext ⟨fun z => z.2.2.2, fun z => ⟨h16, by decide, rfl, z⟩⟩
theorem pf_1_3 {s : zS} {q x : Nat} {F : zH → Prop} (h : gD s q = 5) (h16 : 16 ≤ q) : (zob ((hOf s).1 q) 1 fun fs => 16 ≤ q ∧ 3 < fs.length ∧ zfit (zty 1 3) (.ref x) = true ∧ F (zup (hOf s) q (.inr (1 + 1, fs.set 3 (.ref x))))) = F (hOf (sR s q 3 x)) := by
  rw [zob_c (c := 1) h, fls_len, up_fR (c := 1) h (by decide) (by decide)]
  exact propext ⟨fun z => z.2.2.2, fun z => ⟨h16, by decide, rfl, z⟩⟩
theorem pf_1_4 {s : zS} {q x : Nat} {F : zH → Prop} (h : gD s q = 5) (h16 : 16 ≤ q) : (zob ((hOf s).1 q) 1 fun fs => 16 ≤ q ∧ 4 < fs.length ∧ zfit (zty 1 4) (.ref x) = true ∧ F (zup (hOf s) q (.inr (1 + 1, fs.set 4 (.ref x))))) = F (hOf (sR s q 4 x)) := by
  rw [zob_c (c := 1) h, fls_len, up_fR (c := 1) h (by decide) (by decide)]
  exact propext ⟨fun z => z.2.2.2, fun z => ⟨h16, by decide, rfl, z⟩⟩
theorem pf_1_5 {s : zS} {q x : Nat} {F : zH → Prop} (h : gD s q = 5) (h16 : 16 ≤ q) : (zob ((hOf s).1 q) 1 fun fs => 16 ≤ q ∧ 5 < fs.length ∧ zfit (zty 1 5) (.ref x) = true ∧ F (zup (hOf s) q (.inr (1 + 1, fs.set 5 (.ref x))))) = F (hOf (sR s q 5 x)) := by
  rw [zob_c (c := 1) h, fls_len, up_fR (c := 1) h (by decide) (by decide)]
  exact propext ⟨fun z => z.2.2.2, fun z => ⟨h16, by decide, rfl, z⟩⟩
theorem pf_1_6 {s : zS} {q : Nat} {x : Int32} {F : zH → Prop} (h : gD s q = 5) (h16 : 16 ≤ q) : (zob ((hOf s).1 q) 1 fun fs => 16 ≤ q ∧ 6 < fs.length ∧ zfit (zty 1 6) (.int x) = true ∧ F (zup (hOf s) q (.inr (1 + 1, fs.set 6 (.int x))))) = F (hOf (sI s q 6 x)) := by
  rw [zob_c (c := 1) h, fls_len, up_fI (c := 1) h rfl]
  exact propext ⟨fun z => z.2.2.2, fun z => ⟨h16, by decide, rfl, z⟩⟩
theorem pf_2_0 {s : zS} {q : Nat} {x : Int32} {F : zH → Prop} (h : gD s q = 6) (h16 : 16 ≤ q) : (zob ((hOf s).1 q) 2 fun fs => 16 ≤ q ∧ 0 < fs.length ∧ zfit (zty 2 0) (.int x) = true ∧ F (zup (hOf s) q (.inr (2 + 1, fs.set 0 (.int x))))) = F (hOf (sI s q 0 x)) := by
  rw [zob_c (c := 2) h, fls_len, up_fI (c := 2) h rfl]
  exact propext ⟨fun z => z.2.2.2, fun z => ⟨h16, by decide, rfl, z⟩⟩
theorem pf_2_1 {s : zS} {q x : Nat} {F : zH → Prop} (h : gD s q = 6) (h16 : 16 ≤ q) : (zob ((hOf s).1 q) 2 fun fs => 16 ≤ q ∧ 1 < fs.length ∧ zfit (zty 2 1) (.ref x) = true ∧ F (zup (hOf s) q (.inr (2 + 1, fs.set 1 (.ref x))))) = F (hOf (sR s q 1 x)) := by
  rw [zob_c (c := 2) h, fls_len, up_fR (c := 2) h (by decide) (by decide)]
  exact propext ⟨fun z => z.2.2.2, fun z => ⟨h16, by decide, rfl, z⟩⟩
theorem pf_2_2 {s : zS} {q x : Nat} {F : zH → Prop} (h : gD s q = 6) (h16 : 16 ≤ q) : (zob ((hOf s).1 q) 2 fun fs => 16 ≤ q ∧ 2 < fs.length ∧ zfit (zty 2 2) (.ref x) = true ∧ F (zup (hOf s) q (.inr (2 + 1, fs.set 2 (.ref x))))) = F (hOf (sR s q 2 x)) := by
  rw [zob_c (c := 2) h, fls_len, up_fR (c := 2) h (by decide) (by decide)]
  exact propext ⟨fun z => z.2.2.2, fun z => ⟨h16, by decide, rfl, z⟩⟩
theorem pf_2_3 {s : zS} {q x : Nat} {F : zH → Prop} (h : gD s q = 6) (h16 : 16 ≤ q) : (zob ((hOf s).1 q) 2 fun fs => 16 ≤ q ∧ 3 < fs.length ∧ zfit (zty 2 3) (.ref x) = true ∧ F (zup (hOf s) q (.inr (2 + 1, fs.set 3 (.ref x))))) = F (hOf (sR s q 3 x)) := by
  rw [zob_c (c := 2) h, fls_len, up_fR (c := 2) h (by decide) (by decide)]
  exact propext ⟨fun z => z.2.2.2, fun z => ⟨h16, by decide, rfl, z⟩⟩
theorem pf_3_0 {s : zS} {q x : Nat} {F : zH → Prop} (h : gD s q = 7) (h16 : 16 ≤ q) : (zob ((hOf s).1 q) 3 fun fs => 16 ≤ q ∧ 0 < fs.length ∧ zfit (zty 3 0) (.ref x) = true ∧ F (zup (hOf s) q (.inr (3 + 1, fs.set 0 (.ref x))))) = F (hOf (sR s q 0 x)) := by
  rw [zob_c (c := 3) h, fls_len, up_fR (c := 3) h (by decide) (by decide)]
  exact propext ⟨fun z => z.2.2.2, fun z => ⟨h16, by decide, rfl, z⟩⟩
theorem pf_3_1 {s : zS} {q x : Nat} {F : zH → Prop} (h : gD s q = 7) (h16 : 16 ≤ q) : (zob ((hOf s).1 q) 3 fun fs => 16 ≤ q ∧ 1 < fs.length ∧ zfit (zty 3 1) (.ref x) = true ∧ F (zup (hOf s) q (.inr (3 + 1, fs.set 1 (.ref x))))) = F (hOf (sR s q 1 x)) := by
  rw [zob_c (c := 3) h, fls_len, up_fR (c := 3) h (by decide) (by decide)]
  exact propext ⟨fun z => z.2.2.2, fun z => ⟨h16, by decide, rfl, z⟩⟩
theorem pf_3_2 {s : zS} {q x : Nat} {F : zH → Prop} (h : gD s q = 7) (h16 : 16 ≤ q) : (zob ((hOf s).1 q) 3 fun fs => 16 ≤ q ∧ 2 < fs.length ∧ zfit (zty 3 2) (.ref x) = true ∧ F (zup (hOf s) q (.inr (3 + 1, fs.set 2 (.ref x))))) = F (hOf (sR s q 2 x)) := by
  rw [zob_c (c := 3) h, fls_len, up_fR (c := 3) h (by decide) (by decide)]
  exact propext ⟨fun z => z.2.2.2, fun z => ⟨h16, by decide, rfl, z⟩⟩
theorem pf_3_3 {s : zS} {q : Nat} {x : Int32} {F : zH → Prop} (h : gD s q = 7) (h16 : 16 ≤ q) : (zob ((hOf s).1 q) 3 fun fs => 16 ≤ q ∧ 3 < fs.length ∧ zfit (zty 3 3) (.int x) = true ∧ F (zup (hOf s) q (.inr (3 + 1, fs.set 3 (.int x))))) = F (hOf (sI s q 3 x)) := by
  rw [zob_c (c := 3) h, fls_len, up_fI (c := 3) h rfl]
  exact propext ⟨fun z => z.2.2.2, fun z => ⟨h16, by decide, rfl, z⟩⟩
theorem pf_3_4 {s : zS} {q x : Nat} {F : zH → Prop} (h : gD s q = 7) (h16 : 16 ≤ q) : (zob ((hOf s).1 q) 3 fun fs => 16 ≤ q ∧ 4 < fs.length ∧ zfit (zty 3 4) (.ref x) = true ∧ F (zup (hOf s) q (.inr (3 + 1, fs.set 4 (.ref x))))) = F (hOf (sR s q 4 x)) := by
  rw [zob_c (c := 3) h, fls_len, up_fR (c := 3) h (by decide) (by decide)]
  exact propext ⟨fun z => z.2.2.2, fun z => ⟨h16, by decide, rfl, z⟩⟩
theorem pf_3_5 {s : zS} {q x : Nat} {F : zH → Prop} (h : gD s q = 7) (h16 : 16 ≤ q) : (zob ((hOf s).1 q) 3 fun fs => 16 ≤ q ∧ 5 < fs.length ∧ zfit (zty 3 5) (.ref x) = true ∧ F (zup (hOf s) q (.inr (3 + 1, fs.set 5 (.ref x))))) = F (hOf (sR s q 5 x)) := by
  rw [zob_c (c := 3) h, fls_len, up_fR (c := 3) h (by decide) (by decide)]
  exact propext ⟨fun z => z.2.2.2, fun z => ⟨h16, by decide, rfl, z⟩⟩
theorem pf_3_6 {s : zS} {q : Nat} {x : Int32} {F : zH → Prop} (h : gD s q = 7) (h16 : 16 ≤ q) : (zob ((hOf s).1 q) 3 fun fs => 16 ≤ q ∧ 6 < fs.length ∧ zfit (zty 3 6) (.int x) = true ∧ F (zup (hOf s) q (.inr (3 + 1, fs.set 6 (.int x))))) = F (hOf (sI s q 6 x)) := by
  rw [zob_c (c := 3) h, fls_len, up_fI (c := 3) h rfl]
  exact propext ⟨fun z => z.2.2.2, fun z => ⟨h16, by decide, rfl, z⟩⟩
theorem pf_4_0 {s : zS} {q : Nat} {x : Int32} {F : zH → Prop} (h : gD s q = 8) (h16 : 16 ≤ q) : (zob ((hOf s).1 q) 4 fun fs => 16 ≤ q ∧ 0 < fs.length ∧ zfit (zty 4 0) (.int x) = true ∧ F (zup (hOf s) q (.inr (4 + 1, fs.set 0 (.int x))))) = F (hOf (sI s q 0 x)) := by
  rw [zob_c (c := 4) h, fls_len, up_fI (c := 4) h rfl]
  exact propext ⟨fun z => z.2.2.2, fun z => ⟨h16, by decide, rfl, z⟩⟩
theorem pf_4_1 {s : zS} {q : Nat} {x : Int32} {F : zH → Prop} (h : gD s q = 8) (h16 : 16 ≤ q) : (zob ((hOf s).1 q) 4 fun fs => 16 ≤ q ∧ 1 < fs.length ∧ zfit (zty 4 1) (.int x) = true ∧ F (zup (hOf s) q (.inr (4 + 1, fs.set 1 (.int x))))) = F (hOf (sI s q 1 x)) := by
  rw [zob_c (c := 4) h, fls_len, up_fI (c := 4) h rfl]
  exact propext ⟨fun z => z.2.2.2, fun z => ⟨h16, by decide, rfl, z⟩⟩
theorem pf_4_2 {s : zS} {q x : Nat} {F : zH → Prop} (h : gD s q = 8) (h16 : 16 ≤ q) : (zob ((hOf s).1 q) 4 fun fs => 16 ≤ q ∧ 2 < fs.length ∧ zfit (zty 4 2) (.ref x) = true ∧ F (zup (hOf s) q (.inr (4 + 1, fs.set 2 (.ref x))))) = F (hOf (sR s q 2 x)) := by
  rw [zob_c (c := 4) h, fls_len, up_fR (c := 4) h (by decide) (by decide)]
  exact propext ⟨fun z => z.2.2.2, fun z => ⟨h16, by decide, rfl, z⟩⟩
theorem pf_4_3 {s : zS} {q : Nat} {x : Int32} {F : zH → Prop} (h : gD s q = 8) (h16 : 16 ≤ q) : (zob ((hOf s).1 q) 4 fun fs => 16 ≤ q ∧ 3 < fs.length ∧ zfit (zty 4 3) (.int x) = true ∧ F (zup (hOf s) q (.inr (4 + 1, fs.set 3 (.int x))))) = F (hOf (sI s q 3 x)) := by
  rw [zob_c (c := 4) h, fls_len, up_fI (c := 4) h rfl]
  exact propext ⟨fun z => z.2.2.2, fun z => ⟨h16, by decide, rfl, z⟩⟩
theorem pf_4_4 {s : zS} {q : Nat} {x : Int32} {F : zH → Prop} (h : gD s q = 8) (h16 : 16 ≤ q) : (zob ((hOf s).1 q) 4 fun fs => 16 ≤ q ∧ 4 < fs.length ∧ zfit (zty 4 4) (.int x) = true ∧ F (zup (hOf s) q (.inr (4 + 1, fs.set 4 (.int x))))) = F (hOf (sI s q 4 x)) := by
  rw [zob_c (c := 4) h, fls_len, up_fI (c := 4) h rfl]
  exact propext ⟨fun z => z.2.2.2, fun z => ⟨h16, by decide, rfl, z⟩⟩
theorem pf_4_5 {s : zS} {q : Nat} {x : Int32} {F : zH → Prop} (h : gD s q = 8) (h16 : 16 ≤ q) : (zob ((hOf s).1 q) 4 fun fs => 16 ≤ q ∧ 5 < fs.length ∧ zfit (zty 4 5) (.int x) = true ∧ F (zup (hOf s) q (.inr (4 + 1, fs.set 5 (.int x))))) = F (hOf (sI s q 5 x)) := by
  rw [zob_c (c := 4) h, fls_len, up_fI (c := 4) h rfl]
  exact propext ⟨fun z => z.2.2.2, fun z => ⟨h16, by decide, rfl, z⟩⟩
theorem pf_5_0 {s : zS} {q x : Nat} {F : zH → Prop} (h : gD s q = 9) (h16 : 16 ≤ q) : (zob ((hOf s).1 q) 5 fun fs => 16 ≤ q ∧ 0 < fs.length ∧ zfit (zty 5 0) (.ref x) = true ∧ F (zup (hOf s) q (.inr (5 + 1, fs.set 0 (.ref x))))) = F (hOf (sR s q 0 x)) := by
  rw [zob_c (c := 5) h, fls_len, up_fR (c := 5) h (by decide) (by decide)]
  exact propext ⟨fun z => z.2.2.2, fun z => ⟨h16, by decide, rfl, z⟩⟩
theorem pf_5_1 {s : zS} {q x : Nat} {F : zH → Prop} (h : gD s q = 9) (h16 : 16 ≤ q) : (zob ((hOf s).1 q) 5 fun fs => 16 ≤ q ∧ 1 < fs.length ∧ zfit (zty 5 1) (.ref x) = true ∧ F (zup (hOf s) q (.inr (5 + 1, fs.set 1 (.ref x))))) = F (hOf (sR s q 1 x)) := by
  rw [zob_c (c := 5) h, fls_len, up_fR (c := 5) h (by decide) (by decide)]
  exact propext ⟨fun z => z.2.2.2, fun z => ⟨h16, by decide, rfl, z⟩⟩
theorem pf_5_2 {s : zS} {q : Nat} {x : Int32} {F : zH → Prop} (h : gD s q = 9) (h16 : 16 ≤ q) : (zob ((hOf s).1 q) 5 fun fs => 16 ≤ q ∧ 2 < fs.length ∧ zfit (zty 5 2) (.int x) = true ∧ F (zup (hOf s) q (.inr (5 + 1, fs.set 2 (.int x))))) = F (hOf (sI s q 2 x)) := by
  rw [zob_c (c := 5) h, fls_len, up_fI (c := 5) h rfl]
  exact propext ⟨fun z => z.2.2.2, fun z => ⟨h16, by decide, rfl, z⟩⟩
theorem pf_6_0 {s : zS} {q x : Nat} {F : zH → Prop} (h : gD s q = 10) (h16 : 16 ≤ q) : (zob ((hOf s).1 q) 6 fun fs => 16 ≤ q ∧ 0 < fs.length ∧ zfit (zty 6 0) (.ref x) = true ∧ F (zup (hOf s) q (.inr (6 + 1, fs.set 0 (.ref x))))) = F (hOf (sR s q 0 x)) := by
  rw [zob_c (c := 6) h, fls_len, up_fR (c := 6) h (by decide) (by decide)]
  exact propext ⟨fun z => z.2.2.2, fun z => ⟨h16, by decide, rfl, z⟩⟩
theorem pf_6_1 {s : zS} {q x : Nat} {F : zH → Prop} (h : gD s q = 10) (h16 : 16 ≤ q) : (zob ((hOf s).1 q) 6 fun fs => 16 ≤ q ∧ 1 < fs.length ∧ zfit (zty 6 1) (.ref x) = true ∧ F (zup (hOf s) q (.inr (6 + 1, fs.set 1 (.ref x))))) = F (hOf (sR s q 1 x)) := by
  rw [zob_c (c := 6) h, fls_len, up_fR (c := 6) h (by decide) (by decide)]
  exact propext ⟨fun z => z.2.2.2, fun z => ⟨h16, by decide, rfl, z⟩⟩
theorem pf_6_2 {s : zS} {q x : Nat} {F : zH → Prop} (h : gD s q = 10) (h16 : 16 ≤ q) : (zob ((hOf s).1 q) 6 fun fs => 16 ≤ q ∧ 2 < fs.length ∧ zfit (zty 6 2) (.ref x) = true ∧ F (zup (hOf s) q (.inr (6 + 1, fs.set 2 (.ref x))))) = F (hOf (sR s q 2 x)) := by
  rw [zob_c (c := 6) h, fls_len, up_fR (c := 6) h (by decide) (by decide)]
  exact propext ⟨fun z => z.2.2.2, fun z => ⟨h16, by decide, rfl, z⟩⟩
theorem pf_7_0 {s : zS} {q : Nat} {x : Int32} {F : zH → Prop} (h : gD s q = 11) (h16 : 16 ≤ q) : (zob ((hOf s).1 q) 7 fun fs => 16 ≤ q ∧ 0 < fs.length ∧ zfit (zty 7 0) (.int x) = true ∧ F (zup (hOf s) q (.inr (7 + 1, fs.set 0 (.int x))))) = F (hOf (sI s q 0 x)) := by
  rw [zob_c (c := 7) h, fls_len, up_fI (c := 7) h rfl]
  exact propext ⟨fun z => z.2.2.2, fun z => ⟨h16, by decide, rfl, z⟩⟩
theorem pf_7_1 {s : zS} {q x : Nat} {F : zH → Prop} (h : gD s q = 11) (h16 : 16 ≤ q) : (zob ((hOf s).1 q) 7 fun fs => 16 ≤ q ∧ 1 < fs.length ∧ zfit (zty 7 1) (.ref x) = true ∧ F (zup (hOf s) q (.inr (7 + 1, fs.set 1 (.ref x))))) = F (hOf (sR s q 1 x)) := by
  rw [zob_c (c := 7) h, fls_len, up_fR (c := 7) h (by decide) (by decide)]
  exact propext ⟨fun z => z.2.2.2, fun z => ⟨h16, by decide, rfl, z⟩⟩
theorem pf_7_2 {s : zS} {q x : Nat} {F : zH → Prop} (h : gD s q = 11) (h16 : 16 ≤ q) : (zob ((hOf s).1 q) 7 fun fs => 16 ≤ q ∧ 2 < fs.length ∧ zfit (zty 7 2) (.ref x) = true ∧ F (zup (hOf s) q (.inr (7 + 1, fs.set 2 (.ref x))))) = F (hOf (sR s q 2 x)) := by
  rw [zob_c (c := 7) h, fls_len, up_fR (c := 7) h (by decide) (by decide)]
  exact propext ⟨fun z => z.2.2.2, fun z => ⟨h16, by decide, rfl, z⟩⟩
theorem pf_7_3 {s : zS} {q x : Nat} {F : zH → Prop} (h : gD s q = 11) (h16 : 16 ≤ q) : (zob ((hOf s).1 q) 7 fun fs => 16 ≤ q ∧ 3 < fs.length ∧ zfit (zty 7 3) (.ref x) = true ∧ F (zup (hOf s) q (.inr (7 + 1, fs.set 3 (.ref x))))) = F (hOf (sR s q 3 x)) := by
  rw [zob_c (c := 7) h, fls_len, up_fR (c := 7) h (by decide) (by decide)]
  exact propext ⟨fun z => z.2.2.2, fun z => ⟨h16, by decide, rfl, z⟩⟩
theorem pf_7_4 {s : zS} {q x : Nat} {F : zH → Prop} (h : gD s q = 11) (h16 : 16 ≤ q) : (zob ((hOf s).1 q) 7 fun fs => 16 ≤ q ∧ 4 < fs.length ∧ zfit (zty 7 4) (.ref x) = true ∧ F (zup (hOf s) q (.inr (7 + 1, fs.set 4 (.ref x))))) = F (hOf (sR s q 4 x)) := by
  rw [zob_c (c := 7) h, fls_len, up_fR (c := 7) h (by decide) (by decide)]
  exact propext ⟨fun z => z.2.2.2, fun z => ⟨h16, by decide, rfl, z⟩⟩
theorem pf_7_5 {s : zS} {q : Nat} {x : Int32} {F : zH → Prop} (h : gD s q = 11) (h16 : 16 ≤ q) : (zob ((hOf s).1 q) 7 fun fs => 16 ≤ q ∧ 5 < fs.length ∧ zfit (zty 7 5) (.int x) = true ∧ F (zup (hOf s) q (.inr (7 + 1, fs.set 5 (.int x))))) = F (hOf (sI s q 5 x)) := by
  rw [zob_c (c := 7) h, fls_len, up_fI (c := 7) h rfl]
  exact propext ⟨fun z => z.2.2.2, fun z => ⟨h16, by decide, rfl, z⟩⟩
theorem pf_8_0 {s : zS} {q : Nat} {x : Int32} {F : zH → Prop} (h : gD s q = 12) (h16 : 16 ≤ q) : (zob ((hOf s).1 q) 8 fun fs => 16 ≤ q ∧ 0 < fs.length ∧ zfit (zty 8 0) (.int x) = true ∧ F (zup (hOf s) q (.inr (8 + 1, fs.set 0 (.int x))))) = F (hOf (sI s q 0 x)) := by
  rw [zob_c (c := 8) h, fls_len, up_fI (c := 8) h rfl]
  exact propext ⟨fun z => z.2.2.2, fun z => ⟨h16, by decide, rfl, z⟩⟩
theorem pf_8_1 {s : zS} {q : Nat} {x : Int32} {F : zH → Prop} (h : gD s q = 12) (h16 : 16 ≤ q) : (zob ((hOf s).1 q) 8 fun fs => 16 ≤ q ∧ 1 < fs.length ∧ zfit (zty 8 1) (.int x) = true ∧ F (zup (hOf s) q (.inr (8 + 1, fs.set 1 (.int x))))) = F (hOf (sI s q 1 x)) := by
  rw [zob_c (c := 8) h, fls_len, up_fI (c := 8) h rfl]
  exact propext ⟨fun z => z.2.2.2, fun z => ⟨h16, by decide, rfl, z⟩⟩
theorem pf_8_2 {s : zS} {q : Nat} {x : Int32} {F : zH → Prop} (h : gD s q = 12) (h16 : 16 ≤ q) : (zob ((hOf s).1 q) 8 fun fs => 16 ≤ q ∧ 2 < fs.length ∧ zfit (zty 8 2) (.int x) = true ∧ F (zup (hOf s) q (.inr (8 + 1, fs.set 2 (.int x))))) = F (hOf (sI s q 2 x)) := by
  rw [zob_c (c := 8) h, fls_len, up_fI (c := 8) h rfl]
  exact propext ⟨fun z => z.2.2.2, fun z => ⟨h16, by decide, rfl, z⟩⟩
theorem pf_8_3 {s : zS} {q : Nat} {x : Int32} {F : zH → Prop} (h : gD s q = 12) (h16 : 16 ≤ q) : (zob ((hOf s).1 q) 8 fun fs => 16 ≤ q ∧ 3 < fs.length ∧ zfit (zty 8 3) (.int x) = true ∧ F (zup (hOf s) q (.inr (8 + 1, fs.set 3 (.int x))))) = F (hOf (sI s q 3 x)) := by
  rw [zob_c (c := 8) h, fls_len, up_fI (c := 8) h rfl]
  exact propext ⟨fun z => z.2.2.2, fun z => ⟨h16, by decide, rfl, z⟩⟩
theorem pf_8_4 {s : zS} {q : Nat} {x : Int32} {F : zH → Prop} (h : gD s q = 12) (h16 : 16 ≤ q) : (zob ((hOf s).1 q) 8 fun fs => 16 ≤ q ∧ 4 < fs.length ∧ zfit (zty 8 4) (.int x) = true ∧ F (zup (hOf s) q (.inr (8 + 1, fs.set 4 (.int x))))) = F (hOf (sI s q 4 x)) := by
  rw [zob_c (c := 8) h, fls_len, up_fI (c := 8) h rfl]
  exact propext ⟨fun z => z.2.2.2, fun z => ⟨h16, by decide, rfl, z⟩⟩
theorem pf_8_5 {s : zS} {q : Nat} {x : Int64} {F : zH → Prop} (h : gD s q = 12) (h16 : 16 ≤ q) : (zob ((hOf s).1 q) 8 fun fs => 16 ≤ q ∧ 5 < fs.length ∧ zfit (zty 8 5) (.long x) = true ∧ F (zup (hOf s) q (.inr (8 + 1, fs.set 5 (.long x))))) = F (hOf (sJ s q 5 x)) := by
  rw [zob_c (c := 8) h, fls_len, up_fJ (c := 8) h rfl]
  exact propext ⟨fun z => z.2.2.2, fun z => ⟨h16, by decide, rfl, z⟩⟩
theorem pf_8_6 {s : zS} {q x : Nat} {F : zH → Prop} (h : gD s q = 12) (h16 : 16 ≤ q) : (zob ((hOf s).1 q) 8 fun fs => 16 ≤ q ∧ 6 < fs.length ∧ zfit (zty 8 6) (.ref x) = true ∧ F (zup (hOf s) q (.inr (8 + 1, fs.set 6 (.ref x))))) = F (hOf (sR s q 6 x)) := by
  rw [zob_c (c := 8) h, fls_len, up_fR (c := 8) h (by decide) (by decide)]
  exact propext ⟨fun z => z.2.2.2, fun z => ⟨h16, by decide, rfl, z⟩⟩
theorem pf_8_7 {s : zS} {q x : Nat} {F : zH → Prop} (h : gD s q = 12) (h16 : 16 ≤ q) : (zob ((hOf s).1 q) 8 fun fs => 16 ≤ q ∧ 7 < fs.length ∧ zfit (zty 8 7) (.ref x) = true ∧ F (zup (hOf s) q (.inr (8 + 1, fs.set 7 (.ref x))))) = F (hOf (sR s q 7 x)) := by
  rw [zob_c (c := 8) h, fls_len, up_fR (c := 8) h (by decide) (by decide)]
  exact propext ⟨fun z => z.2.2.2, fun z => ⟨h16, by decide, rfl, z⟩⟩
theorem pf_8_8 {s : zS} {q x : Nat} {F : zH → Prop} (h : gD s q = 12) (h16 : 16 ≤ q) : (zob ((hOf s).1 q) 8 fun fs => 16 ≤ q ∧ 8 < fs.length ∧ zfit (zty 8 8) (.ref x) = true ∧ F (zup (hOf s) q (.inr (8 + 1, fs.set 8 (.ref x))))) = F (hOf (sR s q 8 x)) := by
  rw [zob_c (c := 8) h, fls_len, up_fR (c := 8) h (by decide) (by decide)]
  exact propext ⟨fun z => z.2.2.2, fun z => ⟨h16, by decide, rfl, z⟩⟩
theorem pf_8_9 {s : zS} {q x : Nat} {F : zH → Prop} (h : gD s q = 12) (h16 : 16 ≤ q) : (zob ((hOf s).1 q) 8 fun fs => 16 ≤ q ∧ 9 < fs.length ∧ zfit (zty 8 9) (.ref x) = true ∧ F (zup (hOf s) q (.inr (8 + 1, fs.set 9 (.ref x))))) = F (hOf (sR s q 9 x)) := by
  rw [zob_c (c := 8) h, fls_len, up_fR (c := 8) h (by decide) (by decide)]
  exact propext ⟨fun z => z.2.2.2, fun z => ⟨h16, by decide, rfl, z⟩⟩
theorem pf_8_10 {s : zS} {q x : Nat} {F : zH → Prop} (h : gD s q = 12) (h16 : 16 ≤ q) : (zob ((hOf s).1 q) 8 fun fs => 16 ≤ q ∧ 10 < fs.length ∧ zfit (zty 8 10) (.ref x) = true ∧ F (zup (hOf s) q (.inr (8 + 1, fs.set 10 (.ref x))))) = F (hOf (sR s q 10 x)) := by
  rw [zob_c (c := 8) h, fls_len, up_fR (c := 8) h (by decide) (by decide)]
  exact propext ⟨fun z => z.2.2.2, fun z => ⟨h16, by decide, rfl, z⟩⟩
theorem pf_8_11 {s : zS} {q x : Nat} {F : zH → Prop} (h : gD s q = 12) (h16 : 16 ≤ q) : (zob ((hOf s).1 q) 8 fun fs => 16 ≤ q ∧ 11 < fs.length ∧ zfit (zty 8 11) (.ref x) = true ∧ F (zup (hOf s) q (.inr (8 + 1, fs.set 11 (.ref x))))) = F (hOf (sR s q 11 x)) := by
  rw [zob_c (c := 8) h, fls_len, up_fR (c := 8) h (by decide) (by decide)]
  exact propext ⟨fun z => z.2.2.2, fun z => ⟨h16, by decide, rfl, z⟩⟩
theorem pf_8_12 {s : zS} {q x : Nat} {F : zH → Prop} (h : gD s q = 12) (h16 : 16 ≤ q) : (zob ((hOf s).1 q) 8 fun fs => 16 ≤ q ∧ 12 < fs.length ∧ zfit (zty 8 12) (.ref x) = true ∧ F (zup (hOf s) q (.inr (8 + 1, fs.set 12 (.ref x))))) = F (hOf (sR s q 12 x)) := by
  rw [zob_c (c := 8) h, fls_len, up_fR (c := 8) h (by decide) (by decide)]
  exact propext ⟨fun z => z.2.2.2, fun z => ⟨h16, by decide, rfl, z⟩⟩
theorem pf_8_13 {s : zS} {q x : Nat} {F : zH → Prop} (h : gD s q = 12) (h16 : 16 ≤ q) : (zob ((hOf s).1 q) 8 fun fs => 16 ≤ q ∧ 13 < fs.length ∧ zfit (zty 8 13) (.ref x) = true ∧ F (zup (hOf s) q (.inr (8 + 1, fs.set 13 (.ref x))))) = F (hOf (sR s q 13 x)) := by
  rw [zob_c (c := 8) h, fls_len, up_fR (c := 8) h (by decide) (by decide)]
  exact propext ⟨fun z => z.2.2.2, fun z => ⟨h16, by decide, rfl, z⟩⟩
theorem pf_8_14 {s : zS} {q x : Nat} {F : zH → Prop} (h : gD s q = 12) (h16 : 16 ≤ q) : (zob ((hOf s).1 q) 8 fun fs => 16 ≤ q ∧ 14 < fs.length ∧ zfit (zty 8 14) (.ref x) = true ∧ F (zup (hOf s) q (.inr (8 + 1, fs.set 14 (.ref x))))) = F (hOf (sR s q 14 x)) := by
  rw [zob_c (c := 8) h, fls_len, up_fR (c := 8) h (by decide) (by decide)]
  exact propext ⟨fun z => z.2.2.2, fun z => ⟨h16, by decide, rfl, z⟩⟩
theorem pf_8_15 {s : zS} {q x : Nat} {F : zH → Prop} (h : gD s q = 12) (h16 : 16 ≤ q) : (zob ((hOf s).1 q) 8 fun fs => 16 ≤ q ∧ 15 < fs.length ∧ zfit (zty 8 15) (.ref x) = true ∧ F (zup (hOf s) q (.inr (8 + 1, fs.set 15 (.ref x))))) = F (hOf (sR s q 15 x)) := by
  rw [zob_c (c := 8) h, fls_len, up_fR (c := 8) h (by decide) (by decide)]
  exact propext ⟨fun z => z.2.2.2, fun z => ⟨h16, by decide, rfl, z⟩⟩
theorem pf_8_16 {s : zS} {q x : Nat} {F : zH → Prop} (h : gD s q = 12) (h16 : 16 ≤ q) : (zob ((hOf s).1 q) 8 fun fs => 16 ≤ q ∧ 16 < fs.length ∧ zfit (zty 8 16) (.ref x) = true ∧ F (zup (hOf s) q (.inr (8 + 1, fs.set 16 (.ref x))))) = F (hOf (sR s q 16 x)) := by
  rw [zob_c (c := 8) h, fls_len, up_fR (c := 8) h (by decide) (by decide)]
  exact propext ⟨fun z => z.2.2.2, fun z => ⟨h16, by decide, rfl, z⟩⟩
theorem pf_8_17 {s : zS} {q x : Nat} {F : zH → Prop} (h : gD s q = 12) (h16 : 16 ≤ q) : (zob ((hOf s).1 q) 8 fun fs => 16 ≤ q ∧ 17 < fs.length ∧ zfit (zty 8 17) (.ref x) = true ∧ F (zup (hOf s) q (.inr (8 + 1, fs.set 17 (.ref x))))) = F (hOf (sR s q 17 x)) := by
  rw [zob_c (c := 8) h, fls_len, up_fR (c := 8) h (by decide) (by decide)]
  exact propext ⟨fun z => z.2.2.2, fun z => ⟨h16, by decide, rfl, z⟩⟩
theorem pf_8_18 {s : zS} {q x : Nat} {F : zH → Prop} (h : gD s q = 12) (h16 : 16 ≤ q) : (zob ((hOf s).1 q) 8 fun fs => 16 ≤ q ∧ 18 < fs.length ∧ zfit (zty 8 18) (.ref x) = true ∧ F (zup (hOf s) q (.inr (8 + 1, fs.set 18 (.ref x))))) = F (hOf (sR s q 18 x)) := by
  rw [zob_c (c := 8) h, fls_len, up_fR (c := 8) h (by decide) (by decide)]
  exact propext ⟨fun z => z.2.2.2, fun z => ⟨h16, by decide, rfl, z⟩⟩
theorem pf_9_0 {s : zS} {q : Nat} {x : Int32} {F : zH → Prop} (h : gD s q = 13) (h16 : 16 ≤ q) : (zob ((hOf s).1 q) 9 fun fs => 16 ≤ q ∧ 0 < fs.length ∧ zfit (zty 9 0) (.int x) = true ∧ F (zup (hOf s) q (.inr (9 + 1, fs.set 0 (.int x))))) = F (hOf (sI s q 0 x)) := by
  rw [zob_c (c := 9) h, fls_len, up_fI (c := 9) h rfl]
  exact propext ⟨fun z => z.2.2.2, fun z => ⟨h16, by decide, rfl, z⟩⟩
theorem pf_9_1 {s : zS} {q x : Nat} {F : zH → Prop} (h : gD s q = 13) (h16 : 16 ≤ q) : (zob ((hOf s).1 q) 9 fun fs => 16 ≤ q ∧ 1 < fs.length ∧ zfit (zty 9 1) (.ref x) = true ∧ F (zup (hOf s) q (.inr (9 + 1, fs.set 1 (.ref x))))) = F (hOf (sR s q 1 x)) := by
  rw [zob_c (c := 9) h, fls_len, up_fR (c := 9) h (by decide) (by decide)]
  exact propext ⟨fun z => z.2.2.2, fun z => ⟨h16, by decide, rfl, z⟩⟩
theorem pf_9_2 {s : zS} {q x : Nat} {F : zH → Prop} (h : gD s q = 13) (h16 : 16 ≤ q) : (zob ((hOf s).1 q) 9 fun fs => 16 ≤ q ∧ 2 < fs.length ∧ zfit (zty 9 2) (.ref x) = true ∧ F (zup (hOf s) q (.inr (9 + 1, fs.set 2 (.ref x))))) = F (hOf (sR s q 2 x)) := by
  rw [zob_c (c := 9) h, fls_len, up_fR (c := 9) h (by decide) (by decide)]
  exact propext ⟨fun z => z.2.2.2, fun z => ⟨h16, by decide, rfl, z⟩⟩
theorem pf_9_3 {s : zS} {q x : Nat} {F : zH → Prop} (h : gD s q = 13) (h16 : 16 ≤ q) : (zob ((hOf s).1 q) 9 fun fs => 16 ≤ q ∧ 3 < fs.length ∧ zfit (zty 9 3) (.ref x) = true ∧ F (zup (hOf s) q (.inr (9 + 1, fs.set 3 (.ref x))))) = F (hOf (sR s q 3 x)) := by
  rw [zob_c (c := 9) h, fls_len, up_fR (c := 9) h (by decide) (by decide)]
  exact propext ⟨fun z => z.2.2.2, fun z => ⟨h16, by decide, rfl, z⟩⟩
theorem pf_9_4 {s : zS} {q x : Nat} {F : zH → Prop} (h : gD s q = 13) (h16 : 16 ≤ q) : (zob ((hOf s).1 q) 9 fun fs => 16 ≤ q ∧ 4 < fs.length ∧ zfit (zty 9 4) (.ref x) = true ∧ F (zup (hOf s) q (.inr (9 + 1, fs.set 4 (.ref x))))) = F (hOf (sR s q 4 x)) := by
  rw [zob_c (c := 9) h, fls_len, up_fR (c := 9) h (by decide) (by decide)]
  exact propext ⟨fun z => z.2.2.2, fun z => ⟨h16, by decide, rfl, z⟩⟩
theorem pf_9_5 {s : zS} {q x : Nat} {F : zH → Prop} (h : gD s q = 13) (h16 : 16 ≤ q) : (zob ((hOf s).1 q) 9 fun fs => 16 ≤ q ∧ 5 < fs.length ∧ zfit (zty 9 5) (.ref x) = true ∧ F (zup (hOf s) q (.inr (9 + 1, fs.set 5 (.ref x))))) = F (hOf (sR s q 5 x)) := by
  rw [zob_c (c := 9) h, fls_len, up_fR (c := 9) h (by decide) (by decide)]
  exact propext ⟨fun z => z.2.2.2, fun z => ⟨h16, by decide, rfl, z⟩⟩
theorem pf_9_6 {s : zS} {q x : Nat} {F : zH → Prop} (h : gD s q = 13) (h16 : 16 ≤ q) : (zob ((hOf s).1 q) 9 fun fs => 16 ≤ q ∧ 6 < fs.length ∧ zfit (zty 9 6) (.ref x) = true ∧ F (zup (hOf s) q (.inr (9 + 1, fs.set 6 (.ref x))))) = F (hOf (sR s q 6 x)) := by
  rw [zob_c (c := 9) h, fls_len, up_fR (c := 9) h (by decide) (by decide)]
  exact propext ⟨fun z => z.2.2.2, fun z => ⟨h16, by decide, rfl, z⟩⟩
theorem pf_9_7 {s : zS} {q x : Nat} {F : zH → Prop} (h : gD s q = 13) (h16 : 16 ≤ q) : (zob ((hOf s).1 q) 9 fun fs => 16 ≤ q ∧ 7 < fs.length ∧ zfit (zty 9 7) (.ref x) = true ∧ F (zup (hOf s) q (.inr (9 + 1, fs.set 7 (.ref x))))) = F (hOf (sR s q 7 x)) := by
  rw [zob_c (c := 9) h, fls_len, up_fR (c := 9) h (by decide) (by decide)]
  exact propext ⟨fun z => z.2.2.2, fun z => ⟨h16, by decide, rfl, z⟩⟩
theorem pf_9_8 {s : zS} {q x : Nat} {F : zH → Prop} (h : gD s q = 13) (h16 : 16 ≤ q) : (zob ((hOf s).1 q) 9 fun fs => 16 ≤ q ∧ 8 < fs.length ∧ zfit (zty 9 8) (.ref x) = true ∧ F (zup (hOf s) q (.inr (9 + 1, fs.set 8 (.ref x))))) = F (hOf (sR s q 8 x)) := by
  rw [zob_c (c := 9) h, fls_len, up_fR (c := 9) h (by decide) (by decide)]
  exact propext ⟨fun z => z.2.2.2, fun z => ⟨h16, by decide, rfl, z⟩⟩
theorem pf_9_9 {s : zS} {q x : Nat} {F : zH → Prop} (h : gD s q = 13) (h16 : 16 ≤ q) : (zob ((hOf s).1 q) 9 fun fs => 16 ≤ q ∧ 9 < fs.length ∧ zfit (zty 9 9) (.ref x) = true ∧ F (zup (hOf s) q (.inr (9 + 1, fs.set 9 (.ref x))))) = F (hOf (sR s q 9 x)) := by
  rw [zob_c (c := 9) h, fls_len, up_fR (c := 9) h (by decide) (by decide)]
  exact propext ⟨fun z => z.2.2.2, fun z => ⟨h16, by decide, rfl, z⟩⟩
theorem pf_10_0 {s : zS} {q x : Nat} {F : zH → Prop} (h : gD s q = 14) (h16 : 16 ≤ q) : (zob ((hOf s).1 q) 10 fun fs => 16 ≤ q ∧ 0 < fs.length ∧ zfit (zty 10 0) (.ref x) = true ∧ F (zup (hOf s) q (.inr (10 + 1, fs.set 0 (.ref x))))) = F (hOf (sR s q 0 x)) := by
  rw [zob_c (c := 10) h, fls_len, up_fR (c := 10) h (by decide) (by decide)]
  exact propext ⟨fun z => z.2.2.2, fun z => ⟨h16, by decide, rfl, z⟩⟩
theorem pf_10_1 {s : zS} {q : Nat} {x : Int32} {F : zH → Prop} (h : gD s q = 14) (h16 : 16 ≤ q) : (zob ((hOf s).1 q) 10 fun fs => 16 ≤ q ∧ 1 < fs.length ∧ zfit (zty 10 1) (.int x) = true ∧ F (zup (hOf s) q (.inr (10 + 1, fs.set 1 (.int x))))) = F (hOf (sI s q 1 x)) := by
  rw [zob_c (c := 10) h, fls_len, up_fI (c := 10) h rfl]
  exact propext ⟨fun z => z.2.2.2, fun z => ⟨h16, by decide, rfl, z⟩⟩
theorem pf_10_2 {s : zS} {q : Nat} {x : Int32} {F : zH → Prop} (h : gD s q = 14) (h16 : 16 ≤ q) : (zob ((hOf s).1 q) 10 fun fs => 16 ≤ q ∧ 2 < fs.length ∧ zfit (zty 10 2) (.int x) = true ∧ F (zup (hOf s) q (.inr (10 + 1, fs.set 2 (.int x))))) = F (hOf (sI s q 2 x)) := by
  rw [zob_c (c := 10) h, fls_len, up_fI (c := 10) h rfl]
  exact propext ⟨fun z => z.2.2.2, fun z => ⟨h16, by decide, rfl, z⟩⟩
theorem pf_10_3 {s : zS} {q x : Nat} {F : zH → Prop} (h : gD s q = 14) (h16 : 16 ≤ q) : (zob ((hOf s).1 q) 10 fun fs => 16 ≤ q ∧ 3 < fs.length ∧ zfit (zty 10 3) (.ref x) = true ∧ F (zup (hOf s) q (.inr (10 + 1, fs.set 3 (.ref x))))) = F (hOf (sR s q 3 x)) := by
  rw [zob_c (c := 10) h, fls_len, up_fR (c := 10) h (by decide) (by decide)]
  exact propext ⟨fun z => z.2.2.2, fun z => ⟨h16, by decide, rfl, z⟩⟩
theorem pf_10_4 {s : zS} {q x : Nat} {F : zH → Prop} (h : gD s q = 14) (h16 : 16 ≤ q) : (zob ((hOf s).1 q) 10 fun fs => 16 ≤ q ∧ 4 < fs.length ∧ zfit (zty 10 4) (.ref x) = true ∧ F (zup (hOf s) q (.inr (10 + 1, fs.set 4 (.ref x))))) = F (hOf (sR s q 4 x)) := by
  rw [zob_c (c := 10) h, fls_len, up_fR (c := 10) h (by decide) (by decide)]
  exact propext ⟨fun z => z.2.2.2, fun z => ⟨h16, by decide, rfl, z⟩⟩
theorem pf_10_5 {s : zS} {q x : Nat} {F : zH → Prop} (h : gD s q = 14) (h16 : 16 ≤ q) : (zob ((hOf s).1 q) 10 fun fs => 16 ≤ q ∧ 5 < fs.length ∧ zfit (zty 10 5) (.ref x) = true ∧ F (zup (hOf s) q (.inr (10 + 1, fs.set 5 (.ref x))))) = F (hOf (sR s q 5 x)) := by
  rw [zob_c (c := 10) h, fls_len, up_fR (c := 10) h (by decide) (by decide)]
  exact propext ⟨fun z => z.2.2.2, fun z => ⟨h16, by decide, rfl, z⟩⟩
theorem pf_10_6 {s : zS} {q x : Nat} {F : zH → Prop} (h : gD s q = 14) (h16 : 16 ≤ q) : (zob ((hOf s).1 q) 10 fun fs => 16 ≤ q ∧ 6 < fs.length ∧ zfit (zty 10 6) (.ref x) = true ∧ F (zup (hOf s) q (.inr (10 + 1, fs.set 6 (.ref x))))) = F (hOf (sR s q 6 x)) := by
  rw [zob_c (c := 10) h, fls_len, up_fR (c := 10) h (by decide) (by decide)]
  exact propext ⟨fun z => z.2.2.2, fun z => ⟨h16, by decide, rfl, z⟩⟩
theorem pf_10_7 {s : zS} {q x : Nat} {F : zH → Prop} (h : gD s q = 14) (h16 : 16 ≤ q) : (zob ((hOf s).1 q) 10 fun fs => 16 ≤ q ∧ 7 < fs.length ∧ zfit (zty 10 7) (.ref x) = true ∧ F (zup (hOf s) q (.inr (10 + 1, fs.set 7 (.ref x))))) = F (hOf (sR s q 7 x)) := by
  rw [zob_c (c := 10) h, fls_len, up_fR (c := 10) h (by decide) (by decide)]
  exact propext ⟨fun z => z.2.2.2, fun z => ⟨h16, by decide, rfl, z⟩⟩
theorem pf_10_8 {s : zS} {q x : Nat} {F : zH → Prop} (h : gD s q = 14) (h16 : 16 ≤ q) : (zob ((hOf s).1 q) 10 fun fs => 16 ≤ q ∧ 8 < fs.length ∧ zfit (zty 10 8) (.ref x) = true ∧ F (zup (hOf s) q (.inr (10 + 1, fs.set 8 (.ref x))))) = F (hOf (sR s q 8 x)) := by
  rw [zob_c (c := 10) h, fls_len, up_fR (c := 10) h (by decide) (by decide)]
  exact propext ⟨fun z => z.2.2.2, fun z => ⟨h16, by decide, rfl, z⟩⟩
theorem pf_10_9 {s : zS} {q x : Nat} {F : zH → Prop} (h : gD s q = 14) (h16 : 16 ≤ q) : (zob ((hOf s).1 q) 10 fun fs => 16 ≤ q ∧ 9 < fs.length ∧ zfit (zty 10 9) (.ref x) = true ∧ F (zup (hOf s) q (.inr (10 + 1, fs.set 9 (.ref x))))) = F (hOf (sR s q 9 x)) := by
  rw [zob_c (c := 10) h, fls_len, up_fR (c := 10) h (by decide) (by decide)]
  exact propext ⟨fun z => z.2.2.2, fun z => ⟨h16, by decide, rfl, z⟩⟩
theorem pf_10_10 {s : zS} {q x : Nat} {F : zH → Prop} (h : gD s q = 14) (h16 : 16 ≤ q) : (zob ((hOf s).1 q) 10 fun fs => 16 ≤ q ∧ 10 < fs.length ∧ zfit (zty 10 10) (.ref x) = true ∧ F (zup (hOf s) q (.inr (10 + 1, fs.set 10 (.ref x))))) = F (hOf (sR s q 10 x)) := by
  rw [zob_c (c := 10) h, fls_len, up_fR (c := 10) h (by decide) (by decide)]
  exact propext ⟨fun z => z.2.2.2, fun z => ⟨h16, by decide, rfl, z⟩⟩
theorem pf_10_11 {s : zS} {q x : Nat} {F : zH → Prop} (h : gD s q = 14) (h16 : 16 ≤ q) : (zob ((hOf s).1 q) 10 fun fs => 16 ≤ q ∧ 11 < fs.length ∧ zfit (zty 10 11) (.ref x) = true ∧ F (zup (hOf s) q (.inr (10 + 1, fs.set 11 (.ref x))))) = F (hOf (sR s q 11 x)) := by
  rw [zob_c (c := 10) h, fls_len, up_fR (c := 10) h (by decide) (by decide)]
  exact propext ⟨fun z => z.2.2.2, fun z => ⟨h16, by decide, rfl, z⟩⟩
theorem pf_10_12 {s : zS} {q x : Nat} {F : zH → Prop} (h : gD s q = 14) (h16 : 16 ≤ q) : (zob ((hOf s).1 q) 10 fun fs => 16 ≤ q ∧ 12 < fs.length ∧ zfit (zty 10 12) (.ref x) = true ∧ F (zup (hOf s) q (.inr (10 + 1, fs.set 12 (.ref x))))) = F (hOf (sR s q 12 x)) := by
  rw [zob_c (c := 10) h, fls_len, up_fR (c := 10) h (by decide) (by decide)]
  exact propext ⟨fun z => z.2.2.2, fun z => ⟨h16, by decide, rfl, z⟩⟩
theorem pf_10_13 {s : zS} {q x : Nat} {F : zH → Prop} (h : gD s q = 14) (h16 : 16 ≤ q) : (zob ((hOf s).1 q) 10 fun fs => 16 ≤ q ∧ 13 < fs.length ∧ zfit (zty 10 13) (.ref x) = true ∧ F (zup (hOf s) q (.inr (10 + 1, fs.set 13 (.ref x))))) = F (hOf (sR s q 13 x)) := by
  rw [zob_c (c := 10) h, fls_len, up_fR (c := 10) h (by decide) (by decide)]
  exact propext ⟨fun z => z.2.2.2, fun z => ⟨h16, by decide, rfl, z⟩⟩
theorem pf_11_0 {s : zS} {q : Nat} {x : Int32} {F : zH → Prop} (h : gD s q = 15) (h16 : 16 ≤ q) : (zob ((hOf s).1 q) 11 fun fs => 16 ≤ q ∧ 0 < fs.length ∧ zfit (zty 11 0) (.int x) = true ∧ F (zup (hOf s) q (.inr (11 + 1, fs.set 0 (.int x))))) = F (hOf (sI s q 0 x)) := by
  rw [zob_c (c := 11) h, fls_len, up_fI (c := 11) h rfl]
  exact propext ⟨fun z => z.2.2.2, fun z => ⟨h16, by decide, rfl, z⟩⟩
theorem pf_11_1 {s : zS} {q : Nat} {x : Int32} {F : zH → Prop} (h : gD s q = 15) (h16 : 16 ≤ q) : (zob ((hOf s).1 q) 11 fun fs => 16 ≤ q ∧ 1 < fs.length ∧ zfit (zty 11 1) (.int x) = true ∧ F (zup (hOf s) q (.inr (11 + 1, fs.set 1 (.int x))))) = F (hOf (sI s q 1 x)) := by
  rw [zob_c (c := 11) h, fls_len, up_fI (c := 11) h rfl]
  exact propext ⟨fun z => z.2.2.2, fun z => ⟨h16, by decide, rfl, z⟩⟩
theorem pf_11_2 {s : zS} {q : Nat} {x : Int32} {F : zH → Prop} (h : gD s q = 15) (h16 : 16 ≤ q) : (zob ((hOf s).1 q) 11 fun fs => 16 ≤ q ∧ 2 < fs.length ∧ zfit (zty 11 2) (.int x) = true ∧ F (zup (hOf s) q (.inr (11 + 1, fs.set 2 (.int x))))) = F (hOf (sI s q 2 x)) := by
  rw [zob_c (c := 11) h, fls_len, up_fI (c := 11) h rfl]
  exact propext ⟨fun z => z.2.2.2, fun z => ⟨h16, by decide, rfl, z⟩⟩
theorem pf_11_3 {s : zS} {q : Nat} {x : Int32} {F : zH → Prop} (h : gD s q = 15) (h16 : 16 ≤ q) : (zob ((hOf s).1 q) 11 fun fs => 16 ≤ q ∧ 3 < fs.length ∧ zfit (zty 11 3) (.int x) = true ∧ F (zup (hOf s) q (.inr (11 + 1, fs.set 3 (.int x))))) = F (hOf (sI s q 3 x)) := by
  rw [zob_c (c := 11) h, fls_len, up_fI (c := 11) h rfl]
  exact propext ⟨fun z => z.2.2.2, fun z => ⟨h16, by decide, rfl, z⟩⟩
theorem pf_11_4 {s : zS} {q : Nat} {x : Int32} {F : zH → Prop} (h : gD s q = 15) (h16 : 16 ≤ q) : (zob ((hOf s).1 q) 11 fun fs => 16 ≤ q ∧ 4 < fs.length ∧ zfit (zty 11 4) (.int x) = true ∧ F (zup (hOf s) q (.inr (11 + 1, fs.set 4 (.int x))))) = F (hOf (sI s q 4 x)) := by
  rw [zob_c (c := 11) h, fls_len, up_fI (c := 11) h rfl]
  exact propext ⟨fun z => z.2.2.2, fun z => ⟨h16, by decide, rfl, z⟩⟩
theorem pf_11_5 {s : zS} {q : Nat} {x : Int32} {F : zH → Prop} (h : gD s q = 15) (h16 : 16 ≤ q) : (zob ((hOf s).1 q) 11 fun fs => 16 ≤ q ∧ 5 < fs.length ∧ zfit (zty 11 5) (.int x) = true ∧ F (zup (hOf s) q (.inr (11 + 1, fs.set 5 (.int x))))) = F (hOf (sI s q 5 x)) := by
  rw [zob_c (c := 11) h, fls_len, up_fI (c := 11) h rfl]
  exact propext ⟨fun z => z.2.2.2, fun z => ⟨h16, by decide, rfl, z⟩⟩
theorem pf_11_6 {s : zS} {q : Nat} {x : Int32} {F : zH → Prop} (h : gD s q = 15) (h16 : 16 ≤ q) : (zob ((hOf s).1 q) 11 fun fs => 16 ≤ q ∧ 6 < fs.length ∧ zfit (zty 11 6) (.int x) = true ∧ F (zup (hOf s) q (.inr (11 + 1, fs.set 6 (.int x))))) = F (hOf (sI s q 6 x)) := by
  rw [zob_c (c := 11) h, fls_len, up_fI (c := 11) h rfl]
  exact propext ⟨fun z => z.2.2.2, fun z => ⟨h16, by decide, rfl, z⟩⟩
theorem pf_11_7 {s : zS} {q : Nat} {x : Int32} {F : zH → Prop} (h : gD s q = 15) (h16 : 16 ≤ q) : (zob ((hOf s).1 q) 11 fun fs => 16 ≤ q ∧ 7 < fs.length ∧ zfit (zty 11 7) (.int x) = true ∧ F (zup (hOf s) q (.inr (11 + 1, fs.set 7 (.int x))))) = F (hOf (sI s q 7 x)) := by
  rw [zob_c (c := 11) h, fls_len, up_fI (c := 11) h rfl]
  exact propext ⟨fun z => z.2.2.2, fun z => ⟨h16, by decide, rfl, z⟩⟩
theorem pf_11_8 {s : zS} {q x : Nat} {F : zH → Prop} (h : gD s q = 15) (h16 : 16 ≤ q) : (zob ((hOf s).1 q) 11 fun fs => 16 ≤ q ∧ 8 < fs.length ∧ zfit (zty 11 8) (.ref x) = true ∧ F (zup (hOf s) q (.inr (11 + 1, fs.set 8 (.ref x))))) = F (hOf (sR s q 8 x)) := by
  rw [zob_c (c := 11) h, fls_len, up_fR (c := 11) h (by decide) (by decide)]
  exact propext ⟨fun z => z.2.2.2, fun z => ⟨h16, by decide, rfl, z⟩⟩
theorem pf_11_9 {s : zS} {q x : Nat} {F : zH → Prop} (h : gD s q = 15) (h16 : 16 ≤ q) : (zob ((hOf s).1 q) 11 fun fs => 16 ≤ q ∧ 9 < fs.length ∧ zfit (zty 11 9) (.ref x) = true ∧ F (zup (hOf s) q (.inr (11 + 1, fs.set 9 (.ref x))))) = F (hOf (sR s q 9 x)) := by
  rw [zob_c (c := 11) h, fls_len, up_fR (c := 11) h (by decide) (by decide)]
  exact propext ⟨fun z => z.2.2.2, fun z => ⟨h16, by decide, rfl, z⟩⟩
theorem pf_11_10 {s : zS} {q x : Nat} {F : zH → Prop} (h : gD s q = 15) (h16 : 16 ≤ q) : (zob ((hOf s).1 q) 11 fun fs => 16 ≤ q ∧ 10 < fs.length ∧ zfit (zty 11 10) (.ref x) = true ∧ F (zup (hOf s) q (.inr (11 + 1, fs.set 10 (.ref x))))) = F (hOf (sR s q 10 x)) := by
  rw [zob_c (c := 11) h, fls_len, up_fR (c := 11) h (by decide) (by decide)]
  exact propext ⟨fun z => z.2.2.2, fun z => ⟨h16, by decide, rfl, z⟩⟩
theorem pf_11_11 {s : zS} {q x : Nat} {F : zH → Prop} (h : gD s q = 15) (h16 : 16 ≤ q) : (zob ((hOf s).1 q) 11 fun fs => 16 ≤ q ∧ 11 < fs.length ∧ zfit (zty 11 11) (.ref x) = true ∧ F (zup (hOf s) q (.inr (11 + 1, fs.set 11 (.ref x))))) = F (hOf (sR s q 11 x)) := by
  rw [zob_c (c := 11) h, fls_len, up_fR (c := 11) h (by decide) (by decide)]
  exact propext ⟨fun z => z.2.2.2, fun z => ⟨h16, by decide, rfl, z⟩⟩
theorem pf_11_12 {s : zS} {q x : Nat} {F : zH → Prop} (h : gD s q = 15) (h16 : 16 ≤ q) : (zob ((hOf s).1 q) 11 fun fs => 16 ≤ q ∧ 12 < fs.length ∧ zfit (zty 11 12) (.ref x) = true ∧ F (zup (hOf s) q (.inr (11 + 1, fs.set 12 (.ref x))))) = F (hOf (sR s q 12 x)) := by
  rw [zob_c (c := 11) h, fls_len, up_fR (c := 11) h (by decide) (by decide)]
  exact propext ⟨fun z => z.2.2.2, fun z => ⟨h16, by decide, rfl, z⟩⟩
theorem pf_11_13 {s : zS} {q x : Nat} {F : zH → Prop} (h : gD s q = 15) (h16 : 16 ≤ q) : (zob ((hOf s).1 q) 11 fun fs => 16 ≤ q ∧ 13 < fs.length ∧ zfit (zty 11 13) (.ref x) = true ∧ F (zup (hOf s) q (.inr (11 + 1, fs.set 13 (.ref x))))) = F (hOf (sR s q 13 x)) := by
  rw [zob_c (c := 11) h, fls_len, up_fR (c := 11) h (by decide) (by decide)]
  exact propext ⟨fun z => z.2.2.2, fun z => ⟨h16, by decide, rfl, z⟩⟩
theorem pf_11_14 {s : zS} {q x : Nat} {F : zH → Prop} (h : gD s q = 15) (h16 : 16 ≤ q) : (zob ((hOf s).1 q) 11 fun fs => 16 ≤ q ∧ 14 < fs.length ∧ zfit (zty 11 14) (.ref x) = true ∧ F (zup (hOf s) q (.inr (11 + 1, fs.set 14 (.ref x))))) = F (hOf (sR s q 14 x)) := by
  rw [zob_c (c := 11) h, fls_len, up_fR (c := 11) h (by decide) (by decide)]
  exact propext ⟨fun z => z.2.2.2, fun z => ⟨h16, by decide, rfl, z⟩⟩
theorem pf_11_15 {s : zS} {q x : Nat} {F : zH → Prop} (h : gD s q = 15) (h16 : 16 ≤ q) : (zob ((hOf s).1 q) 11 fun fs => 16 ≤ q ∧ 15 < fs.length ∧ zfit (zty 11 15) (.ref x) = true ∧ F (zup (hOf s) q (.inr (11 + 1, fs.set 15 (.ref x))))) = F (hOf (sR s q 15 x)) := by
  rw [zob_c (c := 11) h, fls_len, up_fR (c := 11) h (by decide) (by decide)]
  exact propext ⟨fun z => z.2.2.2, fun z => ⟨h16, by decide, rfl, z⟩⟩
theorem pf_11_16 {s : zS} {q x : Nat} {F : zH → Prop} (h : gD s q = 15) (h16 : 16 ≤ q) : (zob ((hOf s).1 q) 11 fun fs => 16 ≤ q ∧ 16 < fs.length ∧ zfit (zty 11 16) (.ref x) = true ∧ F (zup (hOf s) q (.inr (11 + 1, fs.set 16 (.ref x))))) = F (hOf (sR s q 16 x)) := by
  rw [zob_c (c := 11) h, fls_len, up_fR (c := 11) h (by decide) (by decide)]
  exact propext ⟨fun z => z.2.2.2, fun z => ⟨h16, by decide, rfl, z⟩⟩
theorem pf_11_17 {s : zS} {q x : Nat} {F : zH → Prop} (h : gD s q = 15) (h16 : 16 ≤ q) : (zob ((hOf s).1 q) 11 fun fs => 16 ≤ q ∧ 17 < fs.length ∧ zfit (zty 11 17) (.ref x) = true ∧ F (zup (hOf s) q (.inr (11 + 1, fs.set 17 (.ref x))))) = F (hOf (sR s q 17 x)) := by
  rw [zob_c (c := 11) h, fls_len, up_fR (c := 11) h (by decide) (by decide)]
  exact propext ⟨fun z => z.2.2.2, fun z => ⟨h16, by decide, rfl, z⟩⟩
theorem pf_11_18 {s : zS} {q x : Nat} {F : zH → Prop} (h : gD s q = 15) (h16 : 16 ≤ q) : (zob ((hOf s).1 q) 11 fun fs => 16 ≤ q ∧ 18 < fs.length ∧ zfit (zty 11 18) (.ref x) = true ∧ F (zup (hOf s) q (.inr (11 + 1, fs.set 18 (.ref x))))) = F (hOf (sR s q 18 x)) := by
  rw [zob_c (c := 11) h, fls_len, up_fR (c := 11) h (by decide) (by decide)]
  exact propext ⟨fun z => z.2.2.2, fun z => ⟨h16, by decide, rfl, z⟩⟩
theorem pf_11_19 {s : zS} {q : Nat} {x : Int32} {F : zH → Prop} (h : gD s q = 15) (h16 : 16 ≤ q) : (zob ((hOf s).1 q) 11 fun fs => 16 ≤ q ∧ 19 < fs.length ∧ zfit (zty 11 19) (.int x) = true ∧ F (zup (hOf s) q (.inr (11 + 1, fs.set 19 (.int x))))) = F (hOf (sI s q 19 x)) := by
  rw [zob_c (c := 11) h, fls_len, up_fI (c := 11) h rfl]
  exact propext ⟨fun z => z.2.2.2, fun z => ⟨h16, by decide, rfl, z⟩⟩
theorem pf_11_20 {s : zS} {q x : Nat} {F : zH → Prop} (h : gD s q = 15) (h16 : 16 ≤ q) : (zob ((hOf s).1 q) 11 fun fs => 16 ≤ q ∧ 20 < fs.length ∧ zfit (zty 11 20) (.ref x) = true ∧ F (zup (hOf s) q (.inr (11 + 1, fs.set 20 (.ref x))))) = F (hOf (sR s q 20 x)) := by
  rw [zob_c (c := 11) h, fls_len, up_fR (c := 11) h (by decide) (by decide)]
  exact propext ⟨fun z => z.2.2.2, fun z => ⟨h16, by decide, rfl, z⟩⟩
theorem pf_11_21 {s : zS} {q x : Nat} {F : zH → Prop} (h : gD s q = 15) (h16 : 16 ≤ q) : (zob ((hOf s).1 q) 11 fun fs => 16 ≤ q ∧ 21 < fs.length ∧ zfit (zty 11 21) (.ref x) = true ∧ F (zup (hOf s) q (.inr (11 + 1, fs.set 21 (.ref x))))) = F (hOf (sR s q 21 x)) := by
  rw [zob_c (c := 11) h, fls_len, up_fR (c := 11) h (by decide) (by decide)]
  exact propext ⟨fun z => z.2.2.2, fun z => ⟨h16, by decide, rfl, z⟩⟩
theorem pf_11_22 {s : zS} {q x : Nat} {F : zH → Prop} (h : gD s q = 15) (h16 : 16 ≤ q) : (zob ((hOf s).1 q) 11 fun fs => 16 ≤ q ∧ 22 < fs.length ∧ zfit (zty 11 22) (.ref x) = true ∧ F (zup (hOf s) q (.inr (11 + 1, fs.set 22 (.ref x))))) = F (hOf (sR s q 22 x)) := by
  rw [zob_c (c := 11) h, fls_len, up_fR (c := 11) h (by decide) (by decide)]
  exact propext ⟨fun z => z.2.2.2, fun z => ⟨h16, by decide, rfl, z⟩⟩
theorem pf_11_23 {s : zS} {q x : Nat} {F : zH → Prop} (h : gD s q = 15) (h16 : 16 ≤ q) : (zob ((hOf s).1 q) 11 fun fs => 16 ≤ q ∧ 23 < fs.length ∧ zfit (zty 11 23) (.ref x) = true ∧ F (zup (hOf s) q (.inr (11 + 1, fs.set 23 (.ref x))))) = F (hOf (sR s q 23 x)) := by
  rw [zob_c (c := 11) h, fls_len, up_fR (c := 11) h (by decide) (by decide)]
  exact propext ⟨fun z => z.2.2.2, fun z => ⟨h16, by decide, rfl, z⟩⟩
theorem pf_11_24 {s : zS} {q x : Nat} {F : zH → Prop} (h : gD s q = 15) (h16 : 16 ≤ q) : (zob ((hOf s).1 q) 11 fun fs => 16 ≤ q ∧ 24 < fs.length ∧ zfit (zty 11 24) (.ref x) = true ∧ F (zup (hOf s) q (.inr (11 + 1, fs.set 24 (.ref x))))) = F (hOf (sR s q 24 x)) := by
  rw [zob_c (c := 11) h, fls_len, up_fR (c := 11) h (by decide) (by decide)]
  exact propext ⟨fun z => z.2.2.2, fun z => ⟨h16, by decide, rfl, z⟩⟩
theorem pf_11_25 {s : zS} {q x : Nat} {F : zH → Prop} (h : gD s q = 15) (h16 : 16 ≤ q) : (zob ((hOf s).1 q) 11 fun fs => 16 ≤ q ∧ 25 < fs.length ∧ zfit (zty 11 25) (.ref x) = true ∧ F (zup (hOf s) q (.inr (11 + 1, fs.set 25 (.ref x))))) = F (hOf (sR s q 25 x)) := by
  rw [zob_c (c := 11) h, fls_len, up_fR (c := 11) h (by decide) (by decide)]
  exact propext ⟨fun z => z.2.2.2, fun z => ⟨h16, by decide, rfl, z⟩⟩
theorem pf_11_26 {s : zS} {q x : Nat} {F : zH → Prop} (h : gD s q = 15) (h16 : 16 ≤ q) : (zob ((hOf s).1 q) 11 fun fs => 16 ≤ q ∧ 26 < fs.length ∧ zfit (zty 11 26) (.ref x) = true ∧ F (zup (hOf s) q (.inr (11 + 1, fs.set 26 (.ref x))))) = F (hOf (sR s q 26 x)) := by
  rw [zob_c (c := 11) h, fls_len, up_fR (c := 11) h (by decide) (by decide)]
  exact propext ⟨fun z => z.2.2.2, fun z => ⟨h16, by decide, rfl, z⟩⟩
theorem pf_11_27 {s : zS} {q : Nat} {x : Int32} {F : zH → Prop} (h : gD s q = 15) (h16 : 16 ≤ q) : (zob ((hOf s).1 q) 11 fun fs => 16 ≤ q ∧ 27 < fs.length ∧ zfit (zty 11 27) (.int x) = true ∧ F (zup (hOf s) q (.inr (11 + 1, fs.set 27 (.int x))))) = F (hOf (sI s q 27 x)) := by
  rw [zob_c (c := 11) h, fls_len, up_fI (c := 11) h rfl]
  exact propext ⟨fun z => z.2.2.2, fun z => ⟨h16, by decide, rfl, z⟩⟩
theorem pf_11_28 {s : zS} {q : Nat} {x : Int32} {F : zH → Prop} (h : gD s q = 15) (h16 : 16 ≤ q) : (zob ((hOf s).1 q) 11 fun fs => 16 ≤ q ∧ 28 < fs.length ∧ zfit (zty 11 28) (.int x) = true ∧ F (zup (hOf s) q (.inr (11 + 1, fs.set 28 (.int x))))) = F (hOf (sI s q 28 x)) := by
  rw [zob_c (c := 11) h, fls_len, up_fI (c := 11) h rfl]
  exact propext ⟨fun z => z.2.2.2, fun z => ⟨h16, by decide, rfl, z⟩⟩
theorem pf_11_29 {s : zS} {q : Nat} {x : Int32} {F : zH → Prop} (h : gD s q = 15) (h16 : 16 ≤ q) : (zob ((hOf s).1 q) 11 fun fs => 16 ≤ q ∧ 29 < fs.length ∧ zfit (zty 11 29) (.int x) = true ∧ F (zup (hOf s) q (.inr (11 + 1, fs.set 29 (.int x))))) = F (hOf (sI s q 29 x)) := by
  rw [zob_c (c := 11) h, fls_len, up_fI (c := 11) h rfl]
  exact propext ⟨fun z => z.2.2.2, fun z => ⟨h16, by decide, rfl, z⟩⟩
theorem pf_11_30 {s : zS} {q x : Nat} {F : zH → Prop} (h : gD s q = 15) (h16 : 16 ≤ q) : (zob ((hOf s).1 q) 11 fun fs => 16 ≤ q ∧ 30 < fs.length ∧ zfit (zty 11 30) (.ref x) = true ∧ F (zup (hOf s) q (.inr (11 + 1, fs.set 30 (.ref x))))) = F (hOf (sR s q 30 x)) := by
  rw [zob_c (c := 11) h, fls_len, up_fR (c := 11) h (by decide) (by decide)]
  exact propext ⟨fun z => z.2.2.2, fun z => ⟨h16, by decide, rfl, z⟩⟩
theorem pf_11_31 {s : zS} {q x : Nat} {F : zH → Prop} (h : gD s q = 15) (h16 : 16 ≤ q) : (zob ((hOf s).1 q) 11 fun fs => 16 ≤ q ∧ 31 < fs.length ∧ zfit (zty 11 31) (.ref x) = true ∧ F (zup (hOf s) q (.inr (11 + 1, fs.set 31 (.ref x))))) = F (hOf (sR s q 31 x)) := by
  rw [zob_c (c := 11) h, fls_len, up_fR (c := 11) h (by decide) (by decide)]
  exact propext ⟨fun z => z.2.2.2, fun z => ⟨h16, by decide, rfl, z⟩⟩
theorem pf_11_32 {s : zS} {q x : Nat} {F : zH → Prop} (h : gD s q = 15) (h16 : 16 ≤ q) : (zob ((hOf s).1 q) 11 fun fs => 16 ≤ q ∧ 32 < fs.length ∧ zfit (zty 11 32) (.ref x) = true ∧ F (zup (hOf s) q (.inr (11 + 1, fs.set 32 (.ref x))))) = F (hOf (sR s q 32 x)) := by
  rw [zob_c (c := 11) h, fls_len, up_fR (c := 11) h (by decide) (by decide)]
  exact propext ⟨fun z => z.2.2.2, fun z => ⟨h16, by decide, rfl, z⟩⟩
theorem pf_11_33 {s : zS} {q : Nat} {x : Int32} {F : zH → Prop} (h : gD s q = 15) (h16 : 16 ≤ q) : (zob ((hOf s).1 q) 11 fun fs => 16 ≤ q ∧ 33 < fs.length ∧ zfit (zty 11 33) (.int x) = true ∧ F (zup (hOf s) q (.inr (11 + 1, fs.set 33 (.int x))))) = F (hOf (sI s q 33 x)) := by
  rw [zob_c (c := 11) h, fls_len, up_fI (c := 11) h rfl]
  exact propext ⟨fun z => z.2.2.2, fun z => ⟨h16, by decide, rfl, z⟩⟩
theorem pf_11_34 {s : zS} {q : Nat} {x : Int32} {F : zH → Prop} (h : gD s q = 15) (h16 : 16 ≤ q) : (zob ((hOf s).1 q) 11 fun fs => 16 ≤ q ∧ 34 < fs.length ∧ zfit (zty 11 34) (.int x) = true ∧ F (zup (hOf s) q (.inr (11 + 1, fs.set 34 (.int x))))) = F (hOf (sI s q 34 x)) := by
  rw [zob_c (c := 11) h, fls_len, up_fI (c := 11) h rfl]
  exact propext ⟨fun z => z.2.2.2, fun z => ⟨h16, by decide, rfl, z⟩⟩
theorem pf_11_35 {s : zS} {q : Nat} {x : Int32} {F : zH → Prop} (h : gD s q = 15) (h16 : 16 ≤ q) : (zob ((hOf s).1 q) 11 fun fs => 16 ≤ q ∧ 35 < fs.length ∧ zfit (zty 11 35) (.int x) = true ∧ F (zup (hOf s) q (.inr (11 + 1, fs.set 35 (.int x))))) = F (hOf (sI s q 35 x)) := by
  rw [zob_c (c := 11) h, fls_len, up_fI (c := 11) h rfl]
  exact propext ⟨fun z => z.2.2.2, fun z => ⟨h16, by decide, rfl, z⟩⟩
theorem pf_11_36 {s : zS} {q x : Nat} {F : zH → Prop} (h : gD s q = 15) (h16 : 16 ≤ q) : (zob ((hOf s).1 q) 11 fun fs => 16 ≤ q ∧ 36 < fs.length ∧ zfit (zty 11 36) (.ref x) = true ∧ F (zup (hOf s) q (.inr (11 + 1, fs.set 36 (.ref x))))) = F (hOf (sR s q 36 x)) := by
  rw [zob_c (c := 11) h, fls_len, up_fR (c := 11) h (by decide) (by decide)]
  exact propext ⟨fun z => z.2.2.2, fun z => ⟨h16, by decide, rfl, z⟩⟩
theorem pf_11_37 {s : zS} {q x : Nat} {F : zH → Prop} (h : gD s q = 15) (h16 : 16 ≤ q) : (zob ((hOf s).1 q) 11 fun fs => 16 ≤ q ∧ 37 < fs.length ∧ zfit (zty 11 37) (.ref x) = true ∧ F (zup (hOf s) q (.inr (11 + 1, fs.set 37 (.ref x))))) = F (hOf (sR s q 37 x)) := by
  rw [zob_c (c := 11) h, fls_len, up_fR (c := 11) h (by decide) (by decide)]
  exact propext ⟨fun z => z.2.2.2, fun z => ⟨h16, by decide, rfl, z⟩⟩
theorem pf_11_38 {s : zS} {q x : Nat} {F : zH → Prop} (h : gD s q = 15) (h16 : 16 ≤ q) : (zob ((hOf s).1 q) 11 fun fs => 16 ≤ q ∧ 38 < fs.length ∧ zfit (zty 11 38) (.ref x) = true ∧ F (zup (hOf s) q (.inr (11 + 1, fs.set 38 (.ref x))))) = F (hOf (sR s q 38 x)) := by
  rw [zob_c (c := 11) h, fls_len, up_fR (c := 11) h (by decide) (by decide)]
  exact propext ⟨fun z => z.2.2.2, fun z => ⟨h16, by decide, rfl, z⟩⟩
theorem pf_11_39 {s : zS} {q x : Nat} {F : zH → Prop} (h : gD s q = 15) (h16 : 16 ≤ q) : (zob ((hOf s).1 q) 11 fun fs => 16 ≤ q ∧ 39 < fs.length ∧ zfit (zty 11 39) (.ref x) = true ∧ F (zup (hOf s) q (.inr (11 + 1, fs.set 39 (.ref x))))) = F (hOf (sR s q 39 x)) := by
  rw [zob_c (c := 11) h, fls_len, up_fR (c := 11) h (by decide) (by decide)]
  exact propext ⟨fun z => z.2.2.2, fun z => ⟨h16, by decide, rfl, z⟩⟩
theorem pf_11_40 {s : zS} {q x : Nat} {F : zH → Prop} (h : gD s q = 15) (h16 : 16 ≤ q) : (zob ((hOf s).1 q) 11 fun fs => 16 ≤ q ∧ 40 < fs.length ∧ zfit (zty 11 40) (.ref x) = true ∧ F (zup (hOf s) q (.inr (11 + 1, fs.set 40 (.ref x))))) = F (hOf (sR s q 40 x)) := by
  rw [zob_c (c := 11) h, fls_len, up_fR (c := 11) h (by decide) (by decide)]
  exact propext ⟨fun z => z.2.2.2, fun z => ⟨h16, by decide, rfl, z⟩⟩
theorem pf_11_41 {s : zS} {q x : Nat} {F : zH → Prop} (h : gD s q = 15) (h16 : 16 ≤ q) : (zob ((hOf s).1 q) 11 fun fs => 16 ≤ q ∧ 41 < fs.length ∧ zfit (zty 11 41) (.ref x) = true ∧ F (zup (hOf s) q (.inr (11 + 1, fs.set 41 (.ref x))))) = F (hOf (sR s q 41 x)) := by
  rw [zob_c (c := 11) h, fls_len, up_fR (c := 11) h (by decide) (by decide)]
  exact propext ⟨fun z => z.2.2.2, fun z => ⟨h16, by decide, rfl, z⟩⟩
theorem pf_11_42 {s : zS} {q x : Nat} {F : zH → Prop} (h : gD s q = 15) (h16 : 16 ≤ q) : (zob ((hOf s).1 q) 11 fun fs => 16 ≤ q ∧ 42 < fs.length ∧ zfit (zty 11 42) (.ref x) = true ∧ F (zup (hOf s) q (.inr (11 + 1, fs.set 42 (.ref x))))) = F (hOf (sR s q 42 x)) := by
  rw [zob_c (c := 11) h, fls_len, up_fR (c := 11) h (by decide) (by decide)]
  exact propext ⟨fun z => z.2.2.2, fun z => ⟨h16, by decide, rfl, z⟩⟩
theorem pf_11_43 {s : zS} {q : Nat} {x : Int32} {F : zH → Prop} (h : gD s q = 15) (h16 : 16 ≤ q) : (zob ((hOf s).1 q) 11 fun fs => 16 ≤ q ∧ 43 < fs.length ∧ zfit (zty 11 43) (.int x) = true ∧ F (zup (hOf s) q (.inr (11 + 1, fs.set 43 (.int x))))) = F (hOf (sI s q 43 x)) := by
  rw [zob_c (c := 11) h, fls_len, up_fI (c := 11) h rfl]
  exact propext ⟨fun z => z.2.2.2, fun z => ⟨h16, by decide, rfl, z⟩⟩
theorem pf_11_44 {s : zS} {q x : Nat} {F : zH → Prop} (h : gD s q = 15) (h16 : 16 ≤ q) : (zob ((hOf s).1 q) 11 fun fs => 16 ≤ q ∧ 44 < fs.length ∧ zfit (zty 11 44) (.ref x) = true ∧ F (zup (hOf s) q (.inr (11 + 1, fs.set 44 (.ref x))))) = F (hOf (sR s q 44 x)) := by
  rw [zob_c (c := 11) h, fls_len, up_fR (c := 11) h (by decide) (by decide)]
  exact propext ⟨fun z => z.2.2.2, fun z => ⟨h16, by decide, rfl, z⟩⟩
theorem pf_11_45 {s : zS} {q : Nat} {x : Int32} {F : zH → Prop} (h : gD s q = 15) (h16 : 16 ≤ q) : (zob ((hOf s).1 q) 11 fun fs => 16 ≤ q ∧ 45 < fs.length ∧ zfit (zty 11 45) (.int x) = true ∧ F (zup (hOf s) q (.inr (11 + 1, fs.set 45 (.int x))))) = F (hOf (sI s q 45 x)) := by
  rw [zob_c (c := 11) h, fls_len, up_fI (c := 11) h rfl]
  exact propext ⟨fun z => z.2.2.2, fun z => ⟨h16, by decide, rfl, z⟩⟩
theorem pf_11_46 {s : zS} {q x : Nat} {F : zH → Prop} (h : gD s q = 15) (h16 : 16 ≤ q) : (zob ((hOf s).1 q) 11 fun fs => 16 ≤ q ∧ 46 < fs.length ∧ zfit (zty 11 46) (.ref x) = true ∧ F (zup (hOf s) q (.inr (11 + 1, fs.set 46 (.ref x))))) = F (hOf (sR s q 46 x)) := by
  rw [zob_c (c := 11) h, fls_len, up_fR (c := 11) h (by decide) (by decide)]
  exact propext ⟨fun z => z.2.2.2, fun z => ⟨h16, by decide, rfl, z⟩⟩
theorem pf_11_47 {s : zS} {q x : Nat} {F : zH → Prop} (h : gD s q = 15) (h16 : 16 ≤ q) : (zob ((hOf s).1 q) 11 fun fs => 16 ≤ q ∧ 47 < fs.length ∧ zfit (zty 11 47) (.ref x) = true ∧ F (zup (hOf s) q (.inr (11 + 1, fs.set 47 (.ref x))))) = F (hOf (sR s q 47 x)) := by
  rw [zob_c (c := 11) h, fls_len, up_fR (c := 11) h (by decide) (by decide)]
  exact propext ⟨fun z => z.2.2.2, fun z => ⟨h16, by decide, rfl, z⟩⟩
theorem pf_11_48 {s : zS} {q x : Nat} {F : zH → Prop} (h : gD s q = 15) (h16 : 16 ≤ q) : (zob ((hOf s).1 q) 11 fun fs => 16 ≤ q ∧ 48 < fs.length ∧ zfit (zty 11 48) (.ref x) = true ∧ F (zup (hOf s) q (.inr (11 + 1, fs.set 48 (.ref x))))) = F (hOf (sR s q 48 x)) := by
  rw [zob_c (c := 11) h, fls_len, up_fR (c := 11) h (by decide) (by decide)]
  exact propext ⟨fun z => z.2.2.2, fun z => ⟨h16, by decide, rfl, z⟩⟩
theorem pf_11_49 {s : zS} {q x : Nat} {F : zH → Prop} (h : gD s q = 15) (h16 : 16 ≤ q) : (zob ((hOf s).1 q) 11 fun fs => 16 ≤ q ∧ 49 < fs.length ∧ zfit (zty 11 49) (.ref x) = true ∧ F (zup (hOf s) q (.inr (11 + 1, fs.set 49 (.ref x))))) = F (hOf (sR s q 49 x)) := by
  rw [zob_c (c := 11) h, fls_len, up_fR (c := 11) h (by decide) (by decide)]
  exact propext ⟨fun z => z.2.2.2, fun z => ⟨h16, by decide, rfl, z⟩⟩
theorem pf_11_50 {s : zS} {q x : Nat} {F : zH → Prop} (h : gD s q = 15) (h16 : 16 ≤ q) : (zob ((hOf s).1 q) 11 fun fs => 16 ≤ q ∧ 50 < fs.length ∧ zfit (zty 11 50) (.ref x) = true ∧ F (zup (hOf s) q (.inr (11 + 1, fs.set 50 (.ref x))))) = F (hOf (sR s q 50 x)) := by
  rw [zob_c (c := 11) h, fls_len, up_fR (c := 11) h (by decide) (by decide)]
  exact propext ⟨fun z => z.2.2.2, fun z => ⟨h16, by decide, rfl, z⟩⟩
theorem pf_11_51 {s : zS} {q x : Nat} {F : zH → Prop} (h : gD s q = 15) (h16 : 16 ≤ q) : (zob ((hOf s).1 q) 11 fun fs => 16 ≤ q ∧ 51 < fs.length ∧ zfit (zty 11 51) (.ref x) = true ∧ F (zup (hOf s) q (.inr (11 + 1, fs.set 51 (.ref x))))) = F (hOf (sR s q 51 x)) := by
  rw [zob_c (c := 11) h, fls_len, up_fR (c := 11) h (by decide) (by decide)]
  exact propext ⟨fun z => z.2.2.2, fun z => ⟨h16, by decide, rfl, z⟩⟩
theorem pf_11_52 {s : zS} {q x : Nat} {F : zH → Prop} (h : gD s q = 15) (h16 : 16 ≤ q) : (zob ((hOf s).1 q) 11 fun fs => 16 ≤ q ∧ 52 < fs.length ∧ zfit (zty 11 52) (.ref x) = true ∧ F (zup (hOf s) q (.inr (11 + 1, fs.set 52 (.ref x))))) = F (hOf (sR s q 52 x)) := by
  rw [zob_c (c := 11) h, fls_len, up_fR (c := 11) h (by decide) (by decide)]
  exact propext ⟨fun z => z.2.2.2, fun z => ⟨h16, by decide, rfl, z⟩⟩
theorem pf_11_53 {s : zS} {q x : Nat} {F : zH → Prop} (h : gD s q = 15) (h16 : 16 ≤ q) : (zob ((hOf s).1 q) 11 fun fs => 16 ≤ q ∧ 53 < fs.length ∧ zfit (zty 11 53) (.ref x) = true ∧ F (zup (hOf s) q (.inr (11 + 1, fs.set 53 (.ref x))))) = F (hOf (sR s q 53 x)) := by
  rw [zob_c (c := 11) h, fls_len, up_fR (c := 11) h (by decide) (by decide)]
  exact propext ⟨fun z => z.2.2.2, fun z => ⟨h16, by decide, rfl, z⟩⟩
theorem pf_11_54 {s : zS} {q : Nat} {x : Int32} {F : zH → Prop} (h : gD s q = 15) (h16 : 16 ≤ q) : (zob ((hOf s).1 q) 11 fun fs => 16 ≤ q ∧ 54 < fs.length ∧ zfit (zty 11 54) (.int x) = true ∧ F (zup (hOf s) q (.inr (11 + 1, fs.set 54 (.int x))))) = F (hOf (sI s q 54 x)) := by
  rw [zob_c (c := 11) h, fls_len, up_fI (c := 11) h rfl]
  exact propext ⟨fun z => z.2.2.2, fun z => ⟨h16, by decide, rfl, z⟩⟩
theorem pf_11_55 {s : zS} {q : Nat} {x : Int32} {F : zH → Prop} (h : gD s q = 15) (h16 : 16 ≤ q) : (zob ((hOf s).1 q) 11 fun fs => 16 ≤ q ∧ 55 < fs.length ∧ zfit (zty 11 55) (.int x) = true ∧ F (zup (hOf s) q (.inr (11 + 1, fs.set 55 (.int x))))) = F (hOf (sI s q 55 x)) := by
  rw [zob_c (c := 11) h, fls_len, up_fI (c := 11) h rfl]
  exact propext ⟨fun z => z.2.2.2, fun z => ⟨h16, by decide, rfl, z⟩⟩
theorem pf_11_56 {s : zS} {q : Nat} {x : Int32} {F : zH → Prop} (h : gD s q = 15) (h16 : 16 ≤ q) : (zob ((hOf s).1 q) 11 fun fs => 16 ≤ q ∧ 56 < fs.length ∧ zfit (zty 11 56) (.int x) = true ∧ F (zup (hOf s) q (.inr (11 + 1, fs.set 56 (.int x))))) = F (hOf (sI s q 56 x)) := by
  rw [zob_c (c := 11) h, fls_len, up_fI (c := 11) h rfl]
  exact propext ⟨fun z => z.2.2.2, fun z => ⟨h16, by decide, rfl, z⟩⟩
theorem pf_11_57 {s : zS} {q : Nat} {x : Int64} {F : zH → Prop} (h : gD s q = 15) (h16 : 16 ≤ q) : (zob ((hOf s).1 q) 11 fun fs => 16 ≤ q ∧ 57 < fs.length ∧ zfit (zty 11 57) (.long x) = true ∧ F (zup (hOf s) q (.inr (11 + 1, fs.set 57 (.long x))))) = F (hOf (sJ s q 57 x)) := by
  rw [zob_c (c := 11) h, fls_len, up_fJ (c := 11) h rfl]
  exact propext ⟨fun z => z.2.2.2, fun z => ⟨h16, by decide, rfl, z⟩⟩
theorem pf_11_58 {s : zS} {q : Nat} {x : Int32} {F : zH → Prop} (h : gD s q = 15) (h16 : 16 ≤ q) : (zob ((hOf s).1 q) 11 fun fs => 16 ≤ q ∧ 58 < fs.length ∧ zfit (zty 11 58) (.int x) = true ∧ F (zup (hOf s) q (.inr (11 + 1, fs.set 58 (.int x))))) = F (hOf (sI s q 58 x)) := by
  rw [zob_c (c := 11) h, fls_len, up_fI (c := 11) h rfl]
  exact propext ⟨fun z => z.2.2.2, fun z => ⟨h16, by decide, rfl, z⟩⟩
theorem pf_11_59 {s : zS} {q : Nat} {x : Int32} {F : zH → Prop} (h : gD s q = 15) (h16 : 16 ≤ q) : (zob ((hOf s).1 q) 11 fun fs => 16 ≤ q ∧ 59 < fs.length ∧ zfit (zty 11 59) (.int x) = true ∧ F (zup (hOf s) q (.inr (11 + 1, fs.set 59 (.int x))))) = F (hOf (sI s q 59 x)) := by
  rw [zob_c (c := 11) h, fls_len, up_fI (c := 11) h rfl]
  exact propext ⟨fun z => z.2.2.2, fun z => ⟨h16, by decide, rfl, z⟩⟩
theorem sa_c {s : zS} {q n : Nat} {j x : Int32} {F : zH → Prop} (h : gD s q = 1) (h16 : 16 ≤ q) : (zaI ((hOf s).1 q) fun n f => 16 ≤ q ∧ vp_in j n ∧ F (zup (hOf s) q (.inl (0, n, .inl (upd f j.toNatClampNeg x))))) = (vp_in j (gN s q) ∧ F (hOf (sA s q (upd (gA s q) j.toNatClampNeg x)))) := by
  rw [zaI_c h, up_A h rfl]
  exact propext ⟨fun z => z.2, fun z => ⟨h16, z⟩⟩
theorem sb_c {s : zS} {q n : Nat} {j : Int32} {x : Int64} {F : zH → Prop} (h : gD s q = 2) (h16 : 16 ≤ q) : (zaL ((hOf s).1 q) fun n f => 16 ≤ q ∧ vp_in j n ∧ F (zup (hOf s) q (.inl (1, n, .inr (.inl (vp_updL f j.toNatClampNeg x)))))) = (vp_in j (gN s q) ∧ F (hOf (sB s q (vp_updL (gB s q) j.toNatClampNeg x)))) := by
  rw [zaL_c h, up_B h rfl]
  exact propext ⟨fun z => z.2, fun z => ⟨h16, z⟩⟩
