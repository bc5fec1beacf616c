set_option maxRecDepth 20000 in
theorem ggX0_init_X3_init_ : GoodIn wsX0_init wsX3_init_ := goodIn_r _ [4, 5, 6, 7, 8, 9, 10, 11, 12, 13, 14, 15, 16, 17, 18, 19, 20, 21, 22, 23, 24, 25] (by decide +kernel) (by decide +kernel)
set_option maxRecDepth 20000 in
theorem gX0_init_X3_init_ : GoodIn wsX0_init (wsX3_init_) := ggX0_init_X3_init_
theorem dX0_init_0 : decode cX0_init 0 = .ok (.aload_n 0, 1) := by decide +kernel
theorem dX0_init_1 : decode cX0_init 1 = .ok (.iload_n 1, 1) := by decide +kernel
theorem dX0_init_2 : decode cX0_init 2 = .ok (.iload_n 2, 1) := by decide +kernel
theorem dX0_init_3 : decode cX0_init 3 = .ok (.iconst 0, 1) := by decide +kernel
theorem dX0_init_4 : decode cX0_init 4 = .ok (.invokespecial 3, 3) := by decide +kernel
theorem dX0_init_7 : decode cX0_init 7 = .ok (.return_, 1) := by decide +kernel
theorem dX0_kindNumber_0 : decode cX0_kindNumber 0 = .ok (.iconst 2, 1) := by decide +kernel
theorem dX0_kindNumber_1 : decode cX0_kindNumber 1 = .ok (.ireturn, 1) := by decide +kernel
theorem dX1_init_0 : decode cX1_init 0 = .ok (.aload_n 0, 1) := by decide +kernel
theorem dX1_init_1 : decode cX1_init 1 = .ok (.invokespecial 3, 3) := by decide +kernel
theorem dX1_init_4 : decode cX1_init 4 = .ok (.aload_n 0, 1) := by decide +kernel
theorem dX1_init_5 : decode cX1_init 5 = .ok (.iconst 0, 1) := by decide +kernel
theorem dX1_init_6 : decode cX1_init 6 = .ok (.putfield 9, 3) := by decide +kernel
theorem dX1_init_9 : decode cX1_init 9 = .ok (.aload_n 0, 1) := by decide +kernel
theorem dX1_init_10 : decode cX1_init 10 = .ok (.iconst 0, 1) := by decide +kernel
theorem dX1_init_11 : decode cX1_init 11 = .ok (.putfield 15, 3) := by decide +kernel
theorem dX1_init_14 : decode cX1_init 14 = .ok (.aload_n 0, 1) := by decide +kernel
theorem dX1_init_15 : decode cX1_init 15 = .ok (.iconst 0, 1) := by decide +kernel
theorem dX1_init_16 : decode cX1_init 16 = .ok (.putfield 18, 3) := by decide +kernel
theorem dX1_init_19 : decode cX1_init 19 = .ok (.aload_n 0, 1) := by decide +kernel
theorem dX1_init_20 : decode cX1_init 20 = .ok (.iconst 0, 1) := by decide +kernel
theorem dX1_init_21 : decode cX1_init 21 = .ok (.putfield 21, 3) := by decide +kernel
theorem dX1_init_24 : decode cX1_init 24 = .ok (.aload_n 0, 1) := by decide +kernel
theorem dX1_init_25 : decode cX1_init 25 = .ok (.iconst 0, 1) := by decide +kernel
theorem dX1_init_26 : decode cX1_init 26 = .ok (.putfield 24, 3) := by decide +kernel
theorem dX1_init_29 : decode cX1_init 29 = .ok (.aload_n 0, 1) := by decide +kernel
theorem dX1_init_30 : decode cX1_init 30 = .ok (.bipush 6, 2) := by decide +kernel
theorem dX1_init_32 : decode cX1_init 32 = .ok (.newarray .int, 2) := by decide +kernel
theorem dX1_init_34 : decode cX1_init 34 = .ok (.putfield 27, 3) := by decide +kernel
theorem dX1_init_37 : decode cX1_init 37 = .ok (.aload_n 0, 1) := by decide +kernel
theorem dX1_init_38 : decode cX1_init 38 = .ok (.bipush 6, 2) := by decide +kernel
theorem dX1_init_40 : decode cX1_init 40 = .ok (.newarray .int, 2) := by decide +kernel
theorem dX1_init_42 : decode cX1_init 42 = .ok (.putfield 31, 3) := by decide +kernel
theorem dX1_init_45 : decode cX1_init 45 = .ok (.aload_n 0, 1) := by decide +kernel
theorem dX1_init_46 : decode cX1_init 46 = .ok (.bipush 6, 2) := by decide +kernel
theorem dX1_init_48 : decode cX1_init 48 = .ok (.newarray .int, 2) := by decide +kernel
theorem dX1_init_50 : decode cX1_init 50 = .ok (.putfield 34, 3) := by decide +kernel
theorem dX1_init_53 : decode cX1_init 53 = .ok (.aload_n 0, 1) := by decide +kernel
theorem dX1_init_54 : decode cX1_init 54 = .ok (.bipush 6, 2) := by decide +kernel
theorem dX1_init_56 : decode cX1_init 56 = .ok (.newarray .int, 2) := by decide +kernel
theorem dX1_init_58 : decode cX1_init 58 = .ok (.putfield 37, 3) := by decide +kernel
theorem dX1_init_61 : decode cX1_init 61 = .ok (.return_, 1) := by decide +kernel
theorem dX1_startAnew_0 : decode cX1_startAnew 0 = .ok (.aload_n 0, 1) := by decide +kernel
theorem dX1_startAnew_1 : decode cX1_startAnew 1 = .ok (.iconst 0, 1) := by decide +kernel
theorem dX1_startAnew_2 : decode cX1_startAnew 2 = .ok (.putfield 9, 3) := by decide +kernel
theorem dX1_startAnew_5 : decode cX1_startAnew 5 = .ok (.aload_n 0, 1) := by decide +kernel
theorem dX1_startAnew_6 : decode cX1_startAnew 6 = .ok (.iconst 0, 1) := by decide +kernel
theorem dX1_startAnew_7 : decode cX1_startAnew 7 = .ok (.putfield 15, 3) := by decide +kernel
theorem dX1_startAnew_10 : decode cX1_startAnew 10 = .ok (.aload_n 0, 1) := by decide +kernel
theorem dX1_startAnew_11 : decode cX1_startAnew 11 = .ok (.iconst 0, 1) := by decide +kernel
theorem dX1_startAnew_12 : decode cX1_startAnew 12 = .ok (.putfield 18, 3) := by decide +kernel
theorem dX1_startAnew_15 : decode cX1_startAnew 15 = .ok (.aload_n 0, 1) := by decide +kernel
theorem dX1_startAnew_16 : decode cX1_startAnew 16 = .ok (.iconst 0, 1) := by decide +kernel
theorem dX1_startAnew_17 : decode cX1_startAnew 17 = .ok (.putfield 21, 3) := by decide +kernel
theorem dX1_startAnew_20 : decode cX1_startAnew 20 = .ok (.aload_n 0, 1) := by decide +kernel
theorem dX1_startAnew_21 : decode cX1_startAnew 21 = .ok (.iconst 0, 1) := by decide +kernel
theorem dX1_startAnew_22 : decode cX1_startAnew 22 = .ok (.putfield 24, 3) := by decide +kernel
theorem dX1_startAnew_25 : decode cX1_startAnew 25 = .ok (.iconst 0, 1) := by decide +kernel
theorem dX1_startAnew_26 : decode cX1_startAnew 26 = .ok (.istore_n 2, 1) := by decide +kernel
theorem dX1_startAnew_27 : decode cX1_startAnew 27 = .ok (.iload_n 2, 1) := by decide +kernel
theorem dX1_startAnew_28 : decode cX1_startAnew 28 = .ok (.bipush 6, 2) := by decide +kernel
theorem dX1_startAnew_30 : decode cX1_startAnew 30 = .ok (.if_icmp .ge 33, 3) := by decide +kernel
theorem dX1_startAnew_33 : decode cX1_startAnew 33 = .ok (.aload_n 0, 1) := by decide +kernel
theorem dX1_startAnew_34 : decode cX1_startAnew 34 = .ok (.getfield 27, 3) := by decide +kernel
theorem dX1_startAnew_37 : decode cX1_startAnew 37 = .ok (.iload_n 2, 1) := by decide +kernel
theorem dX1_startAnew_38 : decode cX1_startAnew 38 = .ok (.iload_n 2, 1) := by decide +kernel
theorem dX1_startAnew_39 : decode cX1_startAnew 39 = .ok (.iload_n 1, 1) := by decide +kernel
theorem dX1_startAnew_40 : decode cX1_startAnew 40 = .ok (.if_icmp .ge 8, 3) := by decide +kernel
theorem dX1_startAnew_43 : decode cX1_startAnew 43 = .ok (.bipush 12, 2) := by decide +kernel
theorem dX1_startAnew_45 : decode cX1_startAnew 45 = .ok (.goto 4, 3) := by decide +kernel
theorem dX1_startAnew_48 : decode cX1_startAnew 48 = .ok (.iconst 0, 1) := by decide +kernel
theorem dX1_startAnew_49 : decode cX1_startAnew 49 = .ok (.iastore, 1) := by decide +kernel
theorem dX1_startAnew_50 : decode cX1_startAnew 50 = .ok (.aload_n 0, 1) := by decide +kernel
theorem dX1_startAnew_51 : decode cX1_startAnew 51 = .ok (.getfield 31, 3) := by decide +kernel
theorem dX1_startAnew_54 : decode cX1_startAnew 54 = .ok (.iload_n 2, 1) := by decide +kernel
theorem dX1_startAnew_55 : decode cX1_startAnew 55 = .ok (.iconst 0, 1) := by decide +kernel
theorem dX1_startAnew_56 : decode cX1_startAnew 56 = .ok (.iastore, 1) := by decide +kernel
theorem dX1_startAnew_57 : decode cX1_startAnew 57 = .ok (.iinc 2 1, 3) := by decide +kernel
theorem dX1_startAnew_60 : decode cX1_startAnew 60 = .ok (.goto (-33), 3) := by decide +kernel
theorem dX1_startAnew_63 : decode cX1_startAnew 63 = .ok (.return_, 1) := by decide +kernel
theorem dX1_copyFrom_0 : decode cX1_copyFrom 0 = .ok (.aload_n 1, 1) := by decide +kernel
theorem dX1_copyFrom_1 : decode cX1_copyFrom 1 = .ok (.ifnonnull 4, 3) := by decide +kernel
theorem dX1_copyFrom_4 : decode cX1_copyFrom 4 = .ok (.return_, 1) := by decide +kernel
theorem dX1_copyFrom_5 : decode cX1_copyFrom 5 = .ok (.aload_n 0, 1) := by decide +kernel
theorem dX1_copyFrom_6 : decode cX1_copyFrom 6 = .ok (.aload_n 1, 1) := by decide +kernel
theorem dX1_copyFrom_7 : decode cX1_copyFrom 7 = .ok (.getfield 9, 3) := by decide +kernel
theorem dX1_copyFrom_10 : decode cX1_copyFrom 10 = .ok (.putfield 9, 3) := by decide +kernel
theorem dX1_copyFrom_13 : decode cX1_copyFrom 13 = .ok (.aload_n 0, 1) := by decide +kernel
theorem dX1_copyFrom_14 : decode cX1_copyFrom 14 = .ok (.aload_n 1, 1) := by decide +kernel
theorem dX1_copyFrom_15 : decode cX1_copyFrom 15 = .ok (.getfield 15, 3) := by decide +kernel
theorem dX1_copyFrom_18 : decode cX1_copyFrom 18 = .ok (.putfield 15, 3) := by decide +kernel
theorem dX1_copyFrom_21 : decode cX1_copyFrom 21 = .ok (.aload_n 0, 1) := by decide +kernel
theorem dX1_copyFrom_22 : decode cX1_copyFrom 22 = .ok (.aload_n 1, 1) := by decide +kernel
theorem dX1_copyFrom_23 : decode cX1_copyFrom 23 = .ok (.getfield 18, 3) := by decide +kernel
theorem dX1_copyFrom_26 : decode cX1_copyFrom 26 = .ok (.putfield 18, 3) := by decide +kernel
theorem dX1_copyFrom_29 : decode cX1_copyFrom 29 = .ok (.aload_n 0, 1) := by decide +kernel
theorem dX1_copyFrom_30 : decode cX1_copyFrom 30 = .ok (.aload_n 1, 1) := by decide +kernel
theorem dX1_copyFrom_31 : decode cX1_copyFrom 31 = .ok (.getfield 21, 3) := by decide +kernel
theorem dX1_copyFrom_34 : decode cX1_copyFrom 34 = .ok (.putfield 21, 3) := by decide +kernel
theorem dX1_copyFrom_37 : decode cX1_copyFrom 37 = .ok (.aload_n 0, 1) := by decide +kernel
theorem dX1_copyFrom_38 : decode cX1_copyFrom 38 = .ok (.aload_n 1, 1) := by decide +kernel
theorem dX1_copyFrom_39 : decode cX1_copyFrom 39 = .ok (.getfield 24, 3) := by decide +kernel
theorem dX1_copyFrom_42 : decode cX1_copyFrom 42 = .ok (.putfield 24, 3) := by decide +kernel
theorem dX1_copyFrom_45 : decode cX1_copyFrom 45 = .ok (.iconst 0, 1) := by decide +kernel
theorem dX1_copyFrom_46 : decode cX1_copyFrom 46 = .ok (.istore_n 2, 1) := by decide +kernel
theorem dX1_copyFrom_47 : decode cX1_copyFrom 47 = .ok (.iload_n 2, 1) := by decide +kernel
theorem dX1_copyFrom_48 : decode cX1_copyFrom 48 = .ok (.bipush 6, 2) := by decide +kernel
theorem dX1_copyFrom_50 : decode cX1_copyFrom 50 = .ok (.if_icmp .ge 33, 3) := by decide +kernel
theorem dX1_copyFrom_53 : decode cX1_copyFrom 53 = .ok (.aload_n 0, 1) := by decide +kernel
theorem dX1_copyFrom_54 : decode cX1_copyFrom 54 = .ok (.getfield 27, 3) := by decide +kernel
theorem dX1_copyFrom_57 : decode cX1_copyFrom 57 = .ok (.iload_n 2, 1) := by decide +kernel
theorem dX1_copyFrom_58 : decode cX1_copyFrom 58 = .ok (.aload_n 1, 1) := by decide +kernel
theorem dX1_copyFrom_59 : decode cX1_copyFrom 59 = .ok (.getfield 27, 3) := by decide +kernel
theorem dX1_copyFrom_62 : decode cX1_copyFrom 62 = .ok (.iload_n 2, 1) := by decide +kernel
theorem dX1_copyFrom_63 : decode cX1_copyFrom 63 = .ok (.iaload, 1) := by decide +kernel
theorem dX1_copyFrom_64 : decode cX1_copyFrom 64 = .ok (.iastore, 1) := by decide +kernel
theorem dX1_copyFrom_65 : decode cX1_copyFrom 65 = .ok (.aload_n 0, 1) := by decide +kernel
theorem dX1_copyFrom_66 : decode cX1_copyFrom 66 = .ok (.getfield 31, 3) := by decide +kernel
theorem dX1_copyFrom_69 : decode cX1_copyFrom 69 = .ok (.iload_n 2, 1) := by decide +kernel
theorem dX1_copyFrom_70 : decode cX1_copyFrom 70 = .ok (.aload_n 1, 1) := by decide +kernel
theorem dX1_copyFrom_71 : decode cX1_copyFrom 71 = .ok (.getfield 31, 3) := by decide +kernel
theorem dX1_copyFrom_74 : decode cX1_copyFrom 74 = .ok (.iload_n 2, 1) := by decide +kernel
theorem dX1_copyFrom_75 : decode cX1_copyFrom 75 = .ok (.iaload, 1) := by decide +kernel
theorem dX1_copyFrom_76 : decode cX1_copyFrom 76 = .ok (.iastore, 1) := by decide +kernel
theorem dX1_copyFrom_77 : decode cX1_copyFrom 77 = .ok (.iinc 2 1, 3) := by decide +kernel
theorem dX1_copyFrom_80 : decode cX1_copyFrom 80 = .ok (.goto (-33), 3) := by decide +kernel
theorem dX1_copyFrom_83 : decode cX1_copyFrom 83 = .ok (.iconst 0, 1) := by decide +kernel
theorem dX1_copyFrom_84 : decode cX1_copyFrom 84 = .ok (.istore_n 2, 1) := by decide +kernel
theorem dX1_copyFrom_85 : decode cX1_copyFrom 85 = .ok (.iload_n 2, 1) := by decide +kernel
theorem dX1_copyFrom_86 : decode cX1_copyFrom 86 = .ok (.bipush 6, 2) := by decide +kernel
theorem dX1_copyFrom_88 : decode cX1_copyFrom 88 = .ok (.if_icmp .ge 33, 3) := by decide +kernel
theorem dX1_copyFrom_91 : decode cX1_copyFrom 91 = .ok (.aload_n 0, 1) := by decide +kernel
theorem dX1_copyFrom_92 : decode cX1_copyFrom 92 = .ok (.getfield 34, 3) := by decide +kernel
theorem dX1_copyFrom_95 : decode cX1_copyFrom 95 = .ok (.iload_n 2, 1) := by decide +kernel
theorem dX1_copyFrom_96 : decode cX1_copyFrom 96 = .ok (.aload_n 1, 1) := by decide +kernel
theorem dX1_copyFrom_97 : decode cX1_copyFrom 97 = .ok (.getfield 34, 3) := by decide +kernel
theorem dX1_copyFrom_100 : decode cX1_copyFrom 100 = .ok (.iload_n 2, 1) := by decide +kernel
theorem dX1_copyFrom_101 : decode cX1_copyFrom 101 = .ok (.iaload, 1) := by decide +kernel
theorem dX1_copyFrom_102 : decode cX1_copyFrom 102 = .ok (.iastore, 1) := by decide +kernel
theorem dX1_copyFrom_103 : decode cX1_copyFrom 103 = .ok (.aload_n 0, 1) := by decide +kernel
theorem dX1_copyFrom_104 : decode cX1_copyFrom 104 = .ok (.getfield 37, 3) := by decide +kernel
theorem dX1_copyFrom_107 : decode cX1_copyFrom 107 = .ok (.iload_n 2, 1) := by decide +kernel
theorem dX1_copyFrom_108 : decode cX1_copyFrom 108 = .ok (.aload_n 1, 1) := by decide +kernel
theorem dX1_copyFrom_109 : decode cX1_copyFrom 109 = .ok (.getfield 37, 3) := by decide +kernel
theorem dX1_copyFrom_112 : decode cX1_copyFrom 112 = .ok (.iload_n 2, 1) := by decide +kernel
theorem dX1_copyFrom_113 : decode cX1_copyFrom 113 = .ok (.iaload, 1) := by decide +kernel
theorem dX1_copyFrom_114 : decode cX1_copyFrom 114 = .ok (.iastore, 1) := by decide +kernel
theorem dX1_copyFrom_115 : decode cX1_copyFrom 115 = .ok (.iinc 2 1, 3) := by decide +kernel
theorem dX1_copyFrom_118 : decode cX1_copyFrom 118 = .ok (.goto (-33), 3) := by decide +kernel
theorem dX1_copyFrom_121 : decode cX1_copyFrom 121 = .ok (.return_, 1) := by decide +kernel
theorem dX1_spoonsOf_0 : decode cX1_spoonsOf 0 = .ok (.iload_n 1, 1) := by decide +kernel
theorem dX1_spoonsOf_1 : decode cX1_spoonsOf 1 = .ok (.ifCond .lt 18, 3) := by decide +kernel
theorem dX1_spoonsOf_4 : decode cX1_spoonsOf 4 = .ok (.iload_n 1, 1) := by decide +kernel
theorem dX1_spoonsOf_5 : decode cX1_spoonsOf 5 = .ok (.bipush 6, 2) := by decide +kernel
theorem dX1_spoonsOf_7 : decode cX1_spoonsOf 7 = .ok (.if_icmp .ge 12, 3) := by decide +kernel
theorem dX1_spoonsOf_10 : decode cX1_spoonsOf 10 = .ok (.aload_n 0, 1) := by decide +kernel
theorem dX1_spoonsOf_11 : decode cX1_spoonsOf 11 = .ok (.getfield 27, 3) := by decide +kernel
theorem dX1_spoonsOf_14 : decode cX1_spoonsOf 14 = .ok (.iload_n 1, 1) := by decide +kernel
theorem dX1_spoonsOf_15 : decode cX1_spoonsOf 15 = .ok (.iaload, 1) := by decide +kernel
theorem dX1_spoonsOf_16 : decode cX1_spoonsOf 16 = .ok (.goto 4, 3) := by decide +kernel
theorem dX1_spoonsOf_19 : decode cX1_spoonsOf 19 = .ok (.iconst 0, 1) := by decide +kernel
theorem dX1_spoonsOf_20 : decode cX1_spoonsOf 20 = .ok (.ireturn, 1) := by decide +kernel
theorem dX1_eatenNowOf_0 : decode cX1_eatenNowOf 0 = .ok (.iload_n 1, 1) := by decide +kernel
theorem dX1_eatenNowOf_1 : decode cX1_eatenNowOf 1 = .ok (.ifCond .lt 18, 3) := by decide +kernel
theorem dX1_eatenNowOf_4 : decode cX1_eatenNowOf 4 = .ok (.iload_n 1, 1) := by decide +kernel
theorem dX1_eatenNowOf_5 : decode cX1_eatenNowOf 5 = .ok (.bipush 6, 2) := by decide +kernel
theorem dX1_eatenNowOf_7 : decode cX1_eatenNowOf 7 = .ok (.if_icmp .ge 12, 3) := by decide +kernel
theorem dX1_eatenNowOf_10 : decode cX1_eatenNowOf 10 = .ok (.aload_n 0, 1) := by decide +kernel
theorem dX1_eatenNowOf_11 : decode cX1_eatenNowOf 11 = .ok (.getfield 31, 3) := by decide +kernel
theorem dX1_eatenNowOf_14 : decode cX1_eatenNowOf 14 = .ok (.iload_n 1, 1) := by decide +kernel
theorem dX1_eatenNowOf_15 : decode cX1_eatenNowOf 15 = .ok (.iaload, 1) := by decide +kernel
theorem dX1_eatenNowOf_16 : decode cX1_eatenNowOf 16 = .ok (.goto 4, 3) := by decide +kernel
theorem dX1_eatenNowOf_19 : decode cX1_eatenNowOf 19 = .ok (.iconst 0, 1) := by decide +kernel
theorem dX1_eatenNowOf_20 : decode cX1_eatenNowOf 20 = .ok (.ireturn, 1) := by decide +kernel
theorem dX1_spoonsOfAll_0 : decode cX1_spoonsOfAll 0 = .ok (.iconst 0, 1) := by decide +kernel
theorem dX1_spoonsOfAll_1 : decode cX1_spoonsOfAll 1 = .ok (.istore_n 1, 1) := by decide +kernel
theorem dX1_spoonsOfAll_2 : decode cX1_spoonsOfAll 2 = .ok (.iconst 0, 1) := by decide +kernel
theorem dX1_spoonsOfAll_3 : decode cX1_spoonsOfAll 3 = .ok (.istore_n 2, 1) := by decide +kernel
theorem dX1_spoonsOfAll_4 : decode cX1_spoonsOfAll 4 = .ok (.iload_n 2, 1) := by decide +kernel
theorem dX1_spoonsOfAll_5 : decode cX1_spoonsOfAll 5 = .ok (.bipush 6, 2) := by decide +kernel
theorem dX1_spoonsOfAll_7 : decode cX1_spoonsOfAll 7 = .ok (.if_icmp .ge 18, 3) := by decide +kernel
theorem dX1_spoonsOfAll_10 : decode cX1_spoonsOfAll 10 = .ok (.iload_n 1, 1) := by decide +kernel
theorem dX1_spoonsOfAll_11 : decode cX1_spoonsOfAll 11 = .ok (.aload_n 0, 1) := by decide +kernel
theorem dX1_spoonsOfAll_12 : decode cX1_spoonsOfAll 12 = .ok (.getfield 27, 3) := by decide +kernel
theorem dX1_spoonsOfAll_15 : decode cX1_spoonsOfAll 15 = .ok (.iload_n 2, 1) := by decide +kernel
theorem dX1_spoonsOfAll_16 : decode cX1_spoonsOfAll 16 = .ok (.iaload, 1) := by decide +kernel
theorem dX1_spoonsOfAll_17 : decode cX1_spoonsOfAll 17 = .ok (.iadd, 1) := by decide +kernel
theorem dX1_spoonsOfAll_18 : decode cX1_spoonsOfAll 18 = .ok (.istore_n 1, 1) := by decide +kernel
theorem dX1_spoonsOfAll_19 : decode cX1_spoonsOfAll 19 = .ok (.iinc 2 1, 3) := by decide +kernel
theorem dX1_spoonsOfAll_22 : decode cX1_spoonsOfAll 22 = .ok (.goto (-18), 3) := by decide +kernel
theorem dX1_spoonsOfAll_25 : decode cX1_spoonsOfAll 25 = .ok (.iload_n 1, 1) := by decide +kernel
theorem dX1_spoonsOfAll_26 : decode cX1_spoonsOfAll 26 = .ok (.ireturn, 1) := by decide +kernel
set_option maxRecDepth 20000 in
theorem ggX1_eatSpoon_X1_spoonsOf : GoodIn wsX1_eatSpoon wsX1_spoonsOf := goodIn_r _ [9, 1, 10, 11, 12, 13, 14, 15, 16, 17, 18] (by decide +kernel) (by decide +kernel)
set_option maxRecDepth 20000 in
theorem gX1_eatSpoon_X1_spoonsOf : GoodIn wsX1_eatSpoon (wsV RX1 40 RX1 yX1_spoonsOf wsX1_spoonsOf) := goodIn_app (goodIn_of _ (by decide +kernel)) ggX1_eatSpoon_X1_spoonsOf
theorem dX1_eatSpoon_0 : decode cX1_eatSpoon 0 = .ok (.aload_n 0, 1) := by decide +kernel
theorem dX1_eatSpoon_1 : decode cX1_eatSpoon 1 = .ok (.iload_n 1, 1) := by decide +kernel
theorem dX1_eatSpoon_2 : decode cX1_eatSpoon 2 = .ok (.invokevirtual 40, 3) := by decide +kernel
theorem dX1_eatSpoon_5 : decode cX1_eatSpoon 5 = .ok (.ifCond .gt 5, 3) := by decide +kernel
theorem dX1_eatSpoon_8 : decode cX1_eatSpoon 8 = .ok (.iconst 0, 1) := by decide +kernel
theorem dX1_eatSpoon_9 : decode cX1_eatSpoon 9 = .ok (.ireturn, 1) := by decide +kernel
theorem dX1_eatSpoon_10 : decode cX1_eatSpoon 10 = .ok (.aload_n 0, 1) := by decide +kernel
theorem dX1_eatSpoon_11 : decode cX1_eatSpoon 11 = .ok (.getfield 27, 3) := by decide +kernel
theorem dX1_eatSpoon_14 : decode cX1_eatSpoon 14 = .ok (.iload_n 1, 1) := by decide +kernel
theorem dX1_eatSpoon_15 : decode cX1_eatSpoon 15 = .ok (.dup2, 1) := by decide +kernel
theorem dX1_eatSpoon_16 : decode cX1_eatSpoon 16 = .ok (.iaload, 1) := by decide +kernel
theorem dX1_eatSpoon_17 : decode cX1_eatSpoon 17 = .ok (.iconst 1, 1) := by decide +kernel
theorem dX1_eatSpoon_18 : decode cX1_eatSpoon 18 = .ok (.isub, 1) := by decide +kernel
theorem dX1_eatSpoon_19 : decode cX1_eatSpoon 19 = .ok (.iastore, 1) := by decide +kernel
theorem dX1_eatSpoon_20 : decode cX1_eatSpoon 20 = .ok (.aload_n 0, 1) := by decide +kernel
theorem dX1_eatSpoon_21 : decode cX1_eatSpoon 21 = .ok (.getfield 31, 3) := by decide +kernel
theorem dX1_eatSpoon_24 : decode cX1_eatSpoon 24 = .ok (.iload_n 1, 1) := by decide +kernel
theorem dX1_eatSpoon_25 : decode cX1_eatSpoon 25 = .ok (.dup2, 1) := by decide +kernel
theorem dX1_eatSpoon_26 : decode cX1_eatSpoon 26 = .ok (.iaload, 1) := by decide +kernel
theorem dX1_eatSpoon_27 : decode cX1_eatSpoon 27 = .ok (.iconst 1, 1) := by decide +kernel
theorem dX1_eatSpoon_28 : decode cX1_eatSpoon 28 = .ok (.iadd, 1) := by decide +kernel
theorem dX1_eatSpoon_29 : decode cX1_eatSpoon 29 = .ok (.iastore, 1) := by decide +kernel
theorem dX1_eatSpoon_30 : decode cX1_eatSpoon 30 = .ok (.aload_n 0, 1) := by decide +kernel
theorem dX1_eatSpoon_31 : decode cX1_eatSpoon 31 = .ok (.dup, 1) := by decide +kernel
theorem dX1_eatSpoon_32 : decode cX1_eatSpoon 32 = .ok (.getfield 15, 3) := by decide +kernel
theorem dX1_eatSpoon_35 : decode cX1_eatSpoon 35 = .ok (.iconst 1, 1) := by decide +kernel
theorem dX1_eatSpoon_36 : decode cX1_eatSpoon 36 = .ok (.iadd, 1) := by decide +kernel
theorem dX1_eatSpoon_37 : decode cX1_eatSpoon 37 = .ok (.putfield 15, 3) := by decide +kernel
theorem dX1_eatSpoon_40 : decode cX1_eatSpoon 40 = .ok (.aload_n 0, 1) := by decide +kernel
theorem dX1_eatSpoon_41 : decode cX1_eatSpoon 41 = .ok (.dup, 1) := by decide +kernel
theorem dX1_eatSpoon_42 : decode cX1_eatSpoon 42 = .ok (.getfield 21, 3) := by decide +kernel
theorem dX1_eatSpoon_45 : decode cX1_eatSpoon 45 = .ok (.iload_n 2, 1) := by decide +kernel
theorem dX1_eatSpoon_46 : decode cX1_eatSpoon 46 = .ok (.iadd, 1) := by decide +kernel
theorem dX1_eatSpoon_47 : decode cX1_eatSpoon 47 = .ok (.putfield 21, 3) := by decide +kernel
theorem dX1_eatSpoon_50 : decode cX1_eatSpoon 50 = .ok (.iconst 1, 1) := by decide +kernel
theorem dX1_eatSpoon_51 : decode cX1_eatSpoon 51 = .ok (.ireturn, 1) := by decide +kernel
set_option maxRecDepth 20000 in
theorem ggX1_loseSpoon_X1_spoonsOf : GoodIn wsX1_loseSpoon wsX1_spoonsOf := goodIn_r _ [7, 1, 8, 9, 10, 11, 12, 13, 14, 15, 16] (by decide +kernel) (by decide +kernel)
set_option maxRecDepth 20000 in
theorem gX1_loseSpoon_X1_spoonsOf : GoodIn wsX1_loseSpoon (wsV RX1 40 RX1 yX1_spoonsOf wsX1_spoonsOf) := goodIn_app (goodIn_of _ (by decide +kernel)) ggX1_loseSpoon_X1_spoonsOf
theorem dX1_loseSpoon_0 : decode cX1_loseSpoon 0 = .ok (.aload_n 0, 1) := by decide +kernel
theorem dX1_loseSpoon_1 : decode cX1_loseSpoon 1 = .ok (.iload_n 1, 1) := by decide +kernel
theorem dX1_loseSpoon_2 : decode cX1_loseSpoon 2 = .ok (.invokevirtual 40, 3) := by decide +kernel
theorem dX1_loseSpoon_5 : decode cX1_loseSpoon 5 = .ok (.ifCond .gt 5, 3) := by decide +kernel
theorem dX1_loseSpoon_8 : decode cX1_loseSpoon 8 = .ok (.iconst 0, 1) := by decide +kernel
theorem dX1_loseSpoon_9 : decode cX1_loseSpoon 9 = .ok (.ireturn, 1) := by decide +kernel
theorem dX1_loseSpoon_10 : decode cX1_loseSpoon 10 = .ok (.aload_n 0, 1) := by decide +kernel
theorem dX1_loseSpoon_11 : decode cX1_loseSpoon 11 = .ok (.getfield 27, 3) := by decide +kernel
theorem dX1_loseSpoon_14 : decode cX1_loseSpoon 14 = .ok (.iload_n 1, 1) := by decide +kernel
theorem dX1_loseSpoon_15 : decode cX1_loseSpoon 15 = .ok (.dup2, 1) := by decide +kernel
theorem dX1_loseSpoon_16 : decode cX1_loseSpoon 16 = .ok (.iaload, 1) := by decide +kernel
theorem dX1_loseSpoon_17 : decode cX1_loseSpoon 17 = .ok (.iconst 1, 1) := by decide +kernel
theorem dX1_loseSpoon_18 : decode cX1_loseSpoon 18 = .ok (.isub, 1) := by decide +kernel
theorem dX1_loseSpoon_19 : decode cX1_loseSpoon 19 = .ok (.iastore, 1) := by decide +kernel
theorem dX1_loseSpoon_20 : decode cX1_loseSpoon 20 = .ok (.aload_n 0, 1) := by decide +kernel
theorem dX1_loseSpoon_21 : decode cX1_loseSpoon 21 = .ok (.dup, 1) := by decide +kernel
theorem dX1_loseSpoon_22 : decode cX1_loseSpoon 22 = .ok (.getfield 18, 3) := by decide +kernel
theorem dX1_loseSpoon_25 : decode cX1_loseSpoon 25 = .ok (.iconst 1, 1) := by decide +kernel
theorem dX1_loseSpoon_26 : decode cX1_loseSpoon 26 = .ok (.iadd, 1) := by decide +kernel
theorem dX1_loseSpoon_27 : decode cX1_loseSpoon 27 = .ok (.putfield 18, 3) := by decide +kernel
theorem dX1_loseSpoon_30 : decode cX1_loseSpoon 30 = .ok (.iconst 1, 1) := by decide +kernel
theorem dX1_loseSpoon_31 : decode cX1_loseSpoon 31 = .ok (.ireturn, 1) := by decide +kernel
theorem dX1_passYear_0 : decode cX1_passYear 0 = .ok (.aload_n 0, 1) := by decide +kernel
theorem dX1_passYear_1 : decode cX1_passYear 1 = .ok (.dup, 1) := by decide +kernel
theorem dX1_passYear_2 : decode cX1_passYear 2 = .ok (.getfield 9, 3) := by decide +kernel
theorem dX1_passYear_5 : decode cX1_passYear 5 = .ok (.iconst 1, 1) := by decide +kernel
theorem dX1_passYear_6 : decode cX1_passYear 6 = .ok (.iadd, 1) := by decide +kernel
theorem dX1_passYear_7 : decode cX1_passYear 7 = .ok (.putfield 9, 3) := by decide +kernel
theorem dX1_passYear_10 : decode cX1_passYear 10 = .ok (.iconst 0, 1) := by decide +kernel
theorem dX1_passYear_11 : decode cX1_passYear 11 = .ok (.istore_n 1, 1) := by decide +kernel
theorem dX1_passYear_12 : decode cX1_passYear 12 = .ok (.iload_n 1, 1) := by decide +kernel
theorem dX1_passYear_13 : decode cX1_passYear 13 = .ok (.bipush 6, 2) := by decide +kernel
theorem dX1_passYear_15 : decode cX1_passYear 15 = .ok (.if_icmp .ge 16, 3) := by decide +kernel
theorem dX1_passYear_18 : decode cX1_passYear 18 = .ok (.aload_n 0, 1) := by decide +kernel
theorem dX1_passYear_19 : decode cX1_passYear 19 = .ok (.getfield 31, 3) := by decide +kernel
theorem dX1_passYear_22 : decode cX1_passYear 22 = .ok (.iload_n 1, 1) := by decide +kernel
theorem dX1_passYear_23 : decode cX1_passYear 23 = .ok (.iconst 0, 1) := by decide +kernel
theorem dX1_passYear_24 : decode cX1_passYear 24 = .ok (.iastore, 1) := by decide +kernel
theorem dX1_passYear_25 : decode cX1_passYear 25 = .ok (.iinc 1 1, 3) := by decide +kernel
theorem dX1_passYear_28 : decode cX1_passYear 28 = .ok (.goto (-16), 3) := by decide +kernel
theorem dX1_passYear_31 : decode cX1_passYear 31 = .ok (.return_, 1) := by decide +kernel
set_option maxRecDepth 20000 in
theorem ggX2_init_X0_init : GoodIn wsX2_init wsX0_init := goodIn_r _ [4, 5, 6, 7, 8, 9, 10, 11, 12, 13, 14, 15, 16, 17, 18, 19, 20, 21, 22, 23, 24, 25, 26, 27, 28, 29] (by decide +kernel) (by decide +kernel)
set_option maxRecDepth 20000 in
theorem gX2_init_X0_init : GoodIn wsX2_init (wsX0_init) := ggX2_init_X0_init
theorem dX2_init_0 : decode cX2_init 0 = .ok (.aload_n 0, 1) := by decide +kernel
theorem dX2_init_1 : decode cX2_init 1 = .ok (.iload_n 1, 1) := by decide +kernel
theorem dX2_init_2 : decode cX2_init 2 = .ok (.iload_n 2, 1) := by decide +kernel
theorem dX2_init_3 : decode cX2_init 3 = .ok (.invokespecial 3, 3) := by decide +kernel
theorem dX2_init_6 : decode cX2_init 6 = .ok (.return_, 1) := by decide +kernel
theorem dX2_kindNumber_0 : decode cX2_kindNumber 0 = .ok (.iconst 4, 1) := by decide +kernel
theorem dX2_kindNumber_1 : decode cX2_kindNumber 1 = .ok (.ireturn, 1) := by decide +kernel
set_option maxRecDepth 20000 in
theorem ggX2_firstWorthIn_X3_mouldIn : GoodIn wsX2_firstWorthIn wsX3_mouldIn := goodIn_r _ [8, 9, 10, 11, 12, 13, 14, 15, 16, 17, 18, 19, 20, 21, 22, 23, 24] (by decide +kernel) (by decide +kernel)
set_option maxRecDepth 20000 in
theorem gX2_firstWorthIn_X3_mouldIn_u15X2 : GoodIn wsX2_firstWorthIn (va_wsU RX2 15 RX2 "JamDays$Jar" ⟨"JamDays$Gold", "mouldIn", "(I)I"⟩ yX3_mouldIn wsX3_mouldIn) := goodIn_app (goodIn_of _ (by decide +kernel)) ggX2_firstWorthIn_X3_mouldIn
theorem dX2_firstWorthIn_0 : decode cX2_firstWorthIn 0 = .ok (.iconst 2, 1) := by decide +kernel
theorem dX2_firstWorthIn_1 : decode cX2_firstWorthIn 1 = .ok (.aload_n 0, 1) := by decide +kernel
theorem dX2_firstWorthIn_2 : decode cX2_firstWorthIn 2 = .ok (.getfield 9, 3) := by decide +kernel
theorem dX2_firstWorthIn_5 : decode cX2_firstWorthIn 5 = .ok (.aload_n 0, 1) := by decide +kernel
theorem dX2_firstWorthIn_6 : decode cX2_firstWorthIn 6 = .ok (.iload_n 1, 1) := by decide +kernel
theorem dX2_firstWorthIn_7 : decode cX2_firstWorthIn 7 = .ok (.invokevirtual 15, 3) := by decide +kernel
theorem dX2_firstWorthIn_10 : decode cX2_firstWorthIn 10 = .ok (.isub, 1) := by decide +kernel
theorem dX2_firstWorthIn_11 : decode cX2_firstWorthIn 11 = .ok (.imul, 1) := by decide +kernel
theorem dX2_firstWorthIn_12 : decode cX2_firstWorthIn 12 = .ok (.ireturn, 1) := by decide +kernel
set_option maxRecDepth 20000 in
theorem ggX3_init_X3_plainMould : GoodIn wsX3_init wsX3_plainMould := goodIn_r _ [4, 5, 6, 7, 8] (by decide +kernel) (by decide +kernel)
set_option maxRecDepth 20000 in
theorem gX3_init_X3_plainMould : GoodIn wsX3_init (va_wsS RX3 3 yX3_plainMould wsX3_plainMould) := goodIn_app (goodIn_of _ (by decide +kernel)) ggX3_init_X3_plainMould
set_option maxRecDepth 20000 in
theorem ggX3_init_X3_init_ : GoodIn wsX3_init wsX3_init_ := goodIn_r _ [11, 12, 13, 14, 15, 16, 17, 18, 19, 20, 21, 22, 23, 24, 25, 26, 27, 28, 29, 30, 31, 32] (by decide +kernel) (by decide +kernel)
set_option maxRecDepth 20000 in
theorem gX3_init_X3_init_ : GoodIn wsX3_init (wsX3_init_) := ggX3_init_X3_init_
theorem dX3_init_0 : decode cX3_init 0 = .ok (.aload_n 0, 1) := by decide +kernel
theorem dX3_init_1 : decode cX3_init 1 = .ok (.iload_n 1, 1) := by decide +kernel
theorem dX3_init_2 : decode cX3_init 2 = .ok (.iload_n 2, 1) := by decide +kernel
theorem dX3_init_3 : decode cX3_init 3 = .ok (.iload_n 2, 1) := by decide +kernel
theorem dX3_init_4 : decode cX3_init 4 = .ok (.invokestatic 3, 3) := by decide +kernel
theorem dX3_init_7 : decode cX3_init 7 = .ok (.invokespecial 9, 3) := by decide +kernel
theorem dX3_init_10 : decode cX3_init 10 = .ok (.return_, 1) := by decide +kernel
theorem dX3_init__0 : decode cX3_init_ 0 = .ok (.aload_n 0, 1) := by decide +kernel
theorem dX3_init__1 : decode cX3_init_ 1 = .ok (.invokespecial 13, 3) := by decide +kernel
theorem dX3_init__4 : decode cX3_init_ 4 = .ok (.aload_n 0, 1) := by decide +kernel
theorem dX3_init__5 : decode cX3_init_ 5 = .ok (.iload_n 1, 1) := by decide +kernel
theorem dX3_init__6 : decode cX3_init_ 6 = .ok (.putfield 18, 3) := by decide +kernel
theorem dX3_init__9 : decode cX3_init_ 9 = .ok (.aload_n 0, 1) := by decide +kernel
theorem dX3_init__10 : decode cX3_init_ 10 = .ok (.iload_n 2, 1) := by decide +kernel
theorem dX3_init__11 : decode cX3_init_ 11 = .ok (.putfield 22, 3) := by decide +kernel
theorem dX3_init__14 : decode cX3_init_ 14 = .ok (.aload_n 0, 1) := by decide +kernel
theorem dX3_init__15 : decode cX3_init_ 15 = .ok (.iload_n 3, 1) := by decide +kernel
theorem dX3_init__16 : decode cX3_init_ 16 = .ok (.putfield 25, 3) := by decide +kernel
theorem dX3_init__19 : decode cX3_init_ 19 = .ok (.return_, 1) := by decide +kernel
theorem dX3_plainMould_0 : decode cX3_plainMould 0 = .ok (.iconst 0, 1) := by decide +kernel
theorem dX3_plainMould_1 : decode cX3_plainMould 1 = .ok (.iconst 3, 1) := by decide +kernel
theorem dX3_plainMould_2 : decode cX3_plainMould 2 = .ok (.iload_n 0, 1) := by decide +kernel
theorem dX3_plainMould_3 : decode cX3_plainMould 3 = .ok (.iconst 3, 1) := by decide +kernel
theorem dX3_plainMould_4 : decode cX3_plainMould 4 = .ok (.idiv, 1) := by decide +kernel
theorem dX3_plainMould_5 : decode cX3_plainMould 5 = .ok (.isub, 1) := by decide +kernel
theorem dX3_plainMould_6 : decode cX3_plainMould 6 = .ok (.invokestatic 28, 3) := by decide +kernel
theorem dX3_plainMould_9 : decode cX3_plainMould 9 = .ok (.ireturn, 1) := by decide +kernel
theorem dX3_kindNumber_0 : decode cX3_kindNumber 0 = .ok (.iconst 0, 1) := by decide +kernel
theorem dX3_kindNumber_1 : decode cX3_kindNumber 1 = .ok (.ireturn, 1) := by decide +kernel
theorem dX3_mouldIn_0 : decode cX3_mouldIn 0 = .ok (.iload_n 1, 1) := by decide +kernel
theorem dX3_mouldIn_1 : decode cX3_mouldIn 1 = .ok (.aload_n 0, 1) := by decide +kernel
theorem dX3_mouldIn_2 : decode cX3_mouldIn 2 = .ok (.getfield 25, 3) := by decide +kernel
theorem dX3_mouldIn_5 : decode cX3_mouldIn 5 = .ok (.imul, 1) := by decide +kernel
theorem dX3_mouldIn_6 : decode cX3_mouldIn 6 = .ok (.istore_n 2, 1) := by decide +kernel
theorem dX3_mouldIn_7 : decode cX3_mouldIn 7 = .ok (.iload_n 2, 1) := by decide +kernel
theorem dX3_mouldIn_8 : decode cX3_mouldIn 8 = .ok (.bipush 20, 2) := by decide +kernel
theorem dX3_mouldIn_10 : decode cX3_mouldIn 10 = .ok (.if_icmp .ge 7, 3) := by decide +kernel
theorem dX3_mouldIn_13 : decode cX3_mouldIn 13 = .ok (.iload_n 2, 1) := by decide +kernel
theorem dX3_mouldIn_14 : decode cX3_mouldIn 14 = .ok (.goto 5, 3) := by decide +kernel
theorem dX3_mouldIn_17 : decode cX3_mouldIn 17 = .ok (.bipush 20, 2) := by decide +kernel
theorem dX3_mouldIn_19 : decode cX3_mouldIn 19 = .ok (.ireturn, 1) := by decide +kernel
set_option maxRecDepth 20000 in
theorem ggX3_firstWorthIn_X3_mouldIn : GoodIn wsX3_firstWorthIn wsX3_mouldIn := goodIn_r _ [7, 8, 14, 15, 16, 17, 18, 19, 20, 21, 22, 23, 24, 25, 26, 27, 28] (by decide +kernel) (by decide +kernel)
set_option maxRecDepth 20000 in
theorem gX3_firstWorthIn_X3_mouldIn_u34X0 : GoodIn wsX3_firstWorthIn (va_wsU RX3 34 RX0 "JamDays$Jar" ⟨"JamDays$Jar", "mouldIn", "(I)I"⟩ yX3_mouldIn wsX3_mouldIn) := goodIn_app (goodIn_of _ (by decide +kernel)) ggX3_firstWorthIn_X3_mouldIn
set_option maxRecDepth 20000 in
theorem gX3_firstWorthIn_X3_mouldIn_u34X2 : GoodIn wsX3_firstWorthIn (va_wsU RX3 34 RX2 "JamDays$Jar" ⟨"JamDays$Jar", "mouldIn", "(I)I"⟩ yX3_mouldIn wsX3_mouldIn) := goodIn_app (goodIn_of _ (by decide +kernel)) ggX3_firstWorthIn_X3_mouldIn
set_option maxRecDepth 20000 in
theorem gX3_firstWorthIn_X3_mouldIn : GoodIn wsX3_firstWorthIn (wsV RX3 34 RX3 yX3_mouldIn wsX3_mouldIn) := goodIn_app (goodIn_of _ (by decide +kernel)) ggX3_firstWorthIn_X3_mouldIn
set_option maxRecDepth 20000 in
theorem gX3_firstWorthIn_X3_mouldIn_u34X4 : GoodIn wsX3_firstWorthIn (va_wsU RX3 34 RX4 "JamDays$Jar" ⟨"JamDays$Jar", "mouldIn", "(I)I"⟩ yX3_mouldIn wsX3_mouldIn) := goodIn_app (goodIn_of _ (by decide +kernel)) ggX3_firstWorthIn_X3_mouldIn
set_option maxRecDepth 20000 in
theorem gX3_firstWorthIn_X3_mouldIn_u34X5 : GoodIn wsX3_firstWorthIn (va_wsU RX3 34 RX5 "JamDays$Jar" ⟨"JamDays$Jar", "mouldIn", "(I)I"⟩ yX3_mouldIn wsX3_mouldIn) := goodIn_app (goodIn_of _ (by decide +kernel)) ggX3_firstWorthIn_X3_mouldIn
theorem dX3_firstWorthIn_0 : decode cX3_firstWorthIn 0 = .ok (.aload_n 0, 1) := by decide +kernel
theorem dX3_firstWorthIn_1 : decode cX3_firstWorthIn 1 = .ok (.getfield 18, 3) := by decide +kernel
theorem dX3_firstWorthIn_4 : decode cX3_firstWorthIn 4 = .ok (.aload_n 0, 1) := by decide +kernel
theorem dX3_firstWorthIn_5 : decode cX3_firstWorthIn 5 = .ok (.iload_n 1, 1) := by decide +kernel
theorem dX3_firstWorthIn_6 : decode cX3_firstWorthIn 6 = .ok (.invokevirtual 34, 3) := by decide +kernel
theorem dX3_firstWorthIn_9 : decode cX3_firstWorthIn 9 = .ok (.isub, 1) := by decide +kernel
theorem dX3_firstWorthIn_10 : decode cX3_firstWorthIn 10 = .ok (.ireturn, 1) := by decide +kernel
set_option maxRecDepth 20000 in
theorem ggX4_init_X3_init : GoodIn wsX4_init wsX3_init := goodIn_r _ [4, 5, 6, 3, 7, 8, 9, 10, 11, 12, 13, 14, 15, 16, 17, 18, 19, 20, 21, 22, 23, 24, 25, 26, 27, 28, 29, 30, 31, 32, 33, 34, 35] (by decide +kernel) (by decide +kernel)
set_option maxRecDepth 20000 in
theorem gX4_init_X3_init : GoodIn wsX4_init (wsX3_init) := ggX4_init_X3_init
theorem dX4_init_0 : decode cX4_init 0 = .ok (.aload_n 0, 1) := by decide +kernel
theorem dX4_init_1 : decode cX4_init 1 = .ok (.iload_n 1, 1) := by decide +kernel
theorem dX4_init_2 : decode cX4_init 2 = .ok (.iload_n 2, 1) := by decide +kernel
theorem dX4_init_3 : decode cX4_init 3 = .ok (.invokespecial 3, 3) := by decide +kernel
theorem dX4_init_6 : decode cX4_init 6 = .ok (.return_, 1) := by decide +kernel
theorem dX4_kindNumber_0 : decode cX4_kindNumber 0 = .ok (.iconst 3, 1) := by decide +kernel
theorem dX4_kindNumber_1 : decode cX4_kindNumber 1 = .ok (.ireturn, 1) := by decide +kernel
set_option maxRecDepth 20000 in
theorem ggX4_firstWorthIn_X3_mouldIn : GoodIn wsX4_firstWorthIn wsX3_mouldIn := goodIn_r _ [8, 9, 10, 11, 12, 13, 14, 15, 16, 17, 18, 19, 20, 21, 22, 23, 24] (by decide +kernel) (by decide +kernel)
set_option maxRecDepth 20000 in
theorem gX4_firstWorthIn_X3_mouldIn_u15X4 : GoodIn wsX4_firstWorthIn (va_wsU RX4 15 RX4 "JamDays$Jar" ⟨"JamDays$Plum", "mouldIn", "(I)I"⟩ yX3_mouldIn wsX3_mouldIn) := goodIn_app (goodIn_of _ (by decide +kernel)) ggX4_firstWorthIn_X3_mouldIn
theorem dX4_firstWorthIn_0 : decode cX4_firstWorthIn 0 = .ok (.iload_n 1, 1) := by decide +kernel
theorem dX4_firstWorthIn_1 : decode cX4_firstWorthIn 1 = .ok (.iconst 2, 1) := by decide +kernel
theorem dX4_firstWorthIn_2 : decode cX4_firstWorthIn 2 = .ok (.irem, 1) := by decide +kernel
theorem dX4_firstWorthIn_3 : decode cX4_firstWorthIn 3 = .ok (.iconst 1, 1) := by decide +kernel
theorem dX4_firstWorthIn_4 : decode cX4_firstWorthIn 4 = .ok (.if_icmp .ne 7, 3) := by decide +kernel
theorem dX4_firstWorthIn_7 : decode cX4_firstWorthIn 7 = .ok (.iconst 3, 1) := by decide +kernel
theorem dX4_firstWorthIn_8 : decode cX4_firstWorthIn 8 = .ok (.goto 4, 3) := by decide +kernel
theorem dX4_firstWorthIn_11 : decode cX4_firstWorthIn 11 = .ok (.iconst 0, 1) := by decide +kernel
theorem dX4_firstWorthIn_12 : decode cX4_firstWorthIn 12 = .ok (.istore_n 2, 1) := by decide +kernel
theorem dX4_firstWorthIn_13 : decode cX4_firstWorthIn 13 = .ok (.aload_n 0, 1) := by decide +kernel
theorem dX4_firstWorthIn_14 : decode cX4_firstWorthIn 14 = .ok (.getfield 9, 3) := by decide +kernel
theorem dX4_firstWorthIn_17 : decode cX4_firstWorthIn 17 = .ok (.aload_n 0, 1) := by decide +kernel
theorem dX4_firstWorthIn_18 : decode cX4_firstWorthIn 18 = .ok (.iload_n 1, 1) := by decide +kernel
theorem dX4_firstWorthIn_19 : decode cX4_firstWorthIn 19 = .ok (.invokevirtual 15, 3) := by decide +kernel
theorem dX4_firstWorthIn_22 : decode cX4_firstWorthIn 22 = .ok (.isub, 1) := by decide +kernel
theorem dX4_firstWorthIn_23 : decode cX4_firstWorthIn 23 = .ok (.iload_n 2, 1) := by decide +kernel
theorem dX4_firstWorthIn_24 : decode cX4_firstWorthIn 24 = .ok (.iadd, 1) := by decide +kernel
theorem dX4_firstWorthIn_25 : decode cX4_firstWorthIn 25 = .ok (.ireturn, 1) := by decide +kernel
set_option maxRecDepth 20000 in
theorem ggX5_init_X3_init_ : GoodIn wsX5_init wsX3_init_ := goodIn_r _ [4, 5, 6, 7, 8, 9, 10, 11, 12, 13, 14, 15, 16, 17, 18, 19, 20, 21, 22, 23, 24, 25] (by decide +kernel) (by decide +kernel)
set_option maxRecDepth 20000 in
theorem gX5_init_X3_init_ : GoodIn wsX5_init (wsX3_init_) := ggX5_init_X3_init_
theorem dX5_init_0 : decode cX5_init 0 = .ok (.aload_n 0, 1) := by decide +kernel
theorem dX5_init_1 : decode cX5_init 1 = .ok (.iload_n 1, 1) := by decide +kernel
theorem dX5_init_2 : decode cX5_init 2 = .ok (.iload_n 2, 1) := by decide +kernel
theorem dX5_init_3 : decode cX5_init 3 = .ok (.iload_n 2, 1) := by decide +kernel
theorem dX5_init_4 : decode cX5_init 4 = .ok (.invokestatic 3, 3) := by decide +kernel
theorem dX5_init_7 : decode cX5_init 7 = .ok (.iconst 1, 1) := by decide +kernel
theorem dX5_init_8 : decode cX5_init 8 = .ok (.iadd, 1) := by decide +kernel
theorem dX5_init_9 : decode cX5_init 9 = .ok (.invokespecial 9, 3) := by decide +kernel
theorem dX5_init_12 : decode cX5_init 12 = .ok (.return_, 1) := by decide +kernel
theorem dX5_kindNumber_0 : decode cX5_kindNumber 0 = .ok (.iconst 1, 1) := by decide +kernel
theorem dX5_kindNumber_1 : decode cX5_kindNumber 1 = .ok (.ireturn, 1) := by decide +kernel
set_option maxRecDepth 20000 in
theorem ggX6_init_X1_init : GoodIn wsX6_init wsX1_init := goodIn_r _ [22, 23, 2, 3, 24, 25, 26, 27, 28, 4, 29, 30, 31, 32, 45, 46, 47, 48, 49, 50, 51, 52, 53] (by decide +kernel) (by decide +kernel)
set_option maxRecDepth 20000 in
theorem gX6_init_X1_init_n28 : GoodIn wsX6_init (wsX1_init) := ggX6_init_X1_init
theorem dX6_init_0 : decode cX6_init 0 = .ok (.aload_n 0, 1) := by decide +kernel
theorem dX6_init_1 : decode cX6_init 1 = .ok (.invokespecial 3, 3) := by decide +kernel
theorem dX6_init_4 : decode cX6_init 4 = .ok (.aload_n 0, 1) := by decide +kernel
theorem dX6_init_5 : decode cX6_init 5 = .ok (.bipush 25, 2) := by decide +kernel
theorem dX6_init_7 : decode cX6_init 7 = .ok (.newarray .int, 2) := by decide +kernel
theorem dX6_init_9 : decode cX6_init 9 = .ok (.putfield 9, 3) := by decide +kernel
theorem dX6_init_12 : decode cX6_init 12 = .ok (.aload_n 0, 1) := by decide +kernel
theorem dX6_init_13 : decode cX6_init 13 = .ok (.iconst 0, 1) := by decide +kernel
theorem dX6_init_14 : decode cX6_init 14 = .ok (.putfield 13, 3) := by decide +kernel
theorem dX6_init_17 : decode cX6_init 17 = .ok (.aload_n 0, 1) := by decide +kernel
theorem dX6_init_18 : decode cX6_init 18 = .ok (.bipush 6, 2) := by decide +kernel
theorem dX6_init_20 : decode cX6_init 20 = .ok (.anewarray 17, 3) := by decide +kernel
theorem dX6_init_23 : decode cX6_init 23 = .ok (.putfield 19, 3) := by decide +kernel
theorem dX6_init_26 : decode cX6_init 26 = .ok (.aload_n 0, 1) := by decide +kernel
theorem dX6_init_27 : decode cX6_init 27 = .ok (.iconst 0, 1) := by decide +kernel
theorem dX6_init_28 : decode cX6_init 28 = .ok (.putfield 23, 3) := by decide +kernel
theorem dX6_init_31 : decode cX6_init 31 = .ok (.aload_n 0, 1) := by decide +kernel
theorem dX6_init_32 : decode cX6_init 32 = .ok (.new 26, 3) := by decide +kernel
theorem dX6_init_35 : decode cX6_init 35 = .ok (.dup, 1) := by decide +kernel
theorem dX6_init_36 : decode cX6_init 36 = .ok (.invokespecial 28, 3) := by decide +kernel
theorem dX6_init_39 : decode cX6_init 39 = .ok (.putfield 29, 3) := by decide +kernel
theorem dX6_init_42 : decode cX6_init 42 = .ok (.aload_n 0, 1) := by decide +kernel
theorem dX6_init_43 : decode cX6_init 43 = .ok (.new 26, 3) := by decide +kernel
theorem dX6_init_46 : decode cX6_init 46 = .ok (.dup, 1) := by decide +kernel
theorem dX6_init_47 : decode cX6_init 47 = .ok (.invokespecial 28, 3) := by decide +kernel
theorem dX6_init_50 : decode cX6_init 50 = .ok (.putfield 33, 3) := by decide +kernel
theorem dX6_init_53 : decode cX6_init 53 = .ok (.aload_n 0, 1) := by decide +kernel
theorem dX6_init_54 : decode cX6_init 54 = .ok (.new 26, 3) := by decide +kernel
theorem dX6_init_57 : decode cX6_init 57 = .ok (.dup, 1) := by decide +kernel
theorem dX6_init_58 : decode cX6_init 58 = .ok (.invokespecial 28, 3) := by decide +kernel
theorem dX6_init_61 : decode cX6_init 61 = .ok (.putfield 36, 3) := by decide +kernel
theorem dX6_init_64 : decode cX6_init 64 = .ok (.aload_n 0, 1) := by decide +kernel
theorem dX6_init_65 : decode cX6_init 65 = .ok (.iconst 0, 1) := by decide +kernel
theorem dX6_init_66 : decode cX6_init 66 = .ok (.putfield 39, 3) := by decide +kernel
theorem dX6_init_69 : decode cX6_init 69 = .ok (.aload_n 0, 1) := by decide +kernel
theorem dX6_init_70 : decode cX6_init 70 = .ok (.iconst 0, 1) := by decide +kernel
theorem dX6_init_71 : decode cX6_init 71 = .ok (.putfield 43, 3) := by decide +kernel
theorem dX6_init_74 : decode cX6_init 74 = .ok (.aload_n 0, 1) := by decide +kernel
theorem dX6_init_75 : decode cX6_init 75 = .ok (.iconst 0, 1) := by decide +kernel
theorem dX6_init_76 : decode cX6_init 76 = .ok (.putfield 46, 3) := by decide +kernel
theorem dX6_init_79 : decode cX6_init 79 = .ok (.aload_n 0, 1) := by decide +kernel
theorem dX6_init_80 : decode cX6_init 80 = .ok (.bipush 91, 2) := by decide +kernel
theorem dX6_init_82 : decode cX6_init 82 = .ok (.newarray .int, 2) := by decide +kernel
theorem dX6_init_84 : decode cX6_init 84 = .ok (.putfield 49, 3) := by decide +kernel
theorem dX6_init_87 : decode cX6_init 87 = .ok (.aload_n 0, 1) := by decide +kernel
theorem dX6_init_88 : decode cX6_init 88 = .ok (.bipush 6, 2) := by decide +kernel
theorem dX6_init_90 : decode cX6_init 90 = .ok (.newarray .int, 2) := by decide +kernel
theorem dX6_init_92 : decode cX6_init 92 = .ok (.putfield 52, 3) := by decide +kernel
theorem dX6_init_95 : decode cX6_init 95 = .ok (.return_, 1) := by decide +kernel
theorem dX6_letter_0 : decode cX6_letter 0 = .ok (.iload_n 1, 1) := by decide +kernel
theorem dX6_letter_1 : decode cX6_letter 1 = .ok (.iconst 1, 1) := by decide +kernel
theorem dX6_letter_2 : decode cX6_letter 2 = .ok (.if_icmp .lt 9, 3) := by decide +kernel
theorem dX6_letter_5 : decode cX6_letter 5 = .ok (.iload_n 1, 1) := by decide +kernel
theorem dX6_letter_6 : decode cX6_letter 6 = .ok (.bipush 126, 2) := by decide +kernel
theorem dX6_letter_8 : decode cX6_letter 8 = .ok (.if_icmp .le 6, 3) := by decide +kernel
theorem dX6_letter_11 : decode cX6_letter 11 = .ok (.bipush (-102), 2) := by decide +kernel
theorem dX6_letter_13 : decode cX6_letter 13 = .ok (.ireturn, 1) := by decide +kernel
theorem dX6_letter_14 : decode cX6_letter 14 = .ok (.aload_n 0, 1) := by decide +kernel
theorem dX6_letter_15 : decode cX6_letter 15 = .ok (.getfield 13, 3) := by decide +kernel
theorem dX6_letter_18 : decode cX6_letter 18 = .ok (.ifCond .lt 12, 3) := by decide +kernel
theorem dX6_letter_21 : decode cX6_letter 21 = .ok (.aload_n 0, 1) := by decide +kernel
theorem dX6_letter_22 : decode cX6_letter 22 = .ok (.getfield 13, 3) := by decide +kernel
theorem dX6_letter_25 : decode cX6_letter 25 = .ok (.bipush 25, 2) := by decide +kernel
theorem dX6_letter_27 : decode cX6_letter 27 = .ok (.if_icmp .lt 6, 3) := by decide +kernel
theorem dX6_letter_30 : decode cX6_letter 30 = .ok (.bipush (-104), 2) := by decide +kernel
theorem dX6_letter_32 : decode cX6_letter 32 = .ok (.ireturn, 1) := by decide +kernel
theorem dX6_letter_33 : decode cX6_letter 33 = .ok (.aload_n 0, 1) := by decide +kernel
theorem dX6_letter_34 : decode cX6_letter 34 = .ok (.getfield 9, 3) := by decide +kernel
theorem dX6_letter_37 : decode cX6_letter 37 = .ok (.aload_n 0, 1) := by decide +kernel
theorem dX6_letter_38 : decode cX6_letter 38 = .ok (.getfield 13, 3) := by decide +kernel
theorem dX6_letter_41 : decode cX6_letter 41 = .ok (.iload_n 1, 1) := by decide +kernel
theorem dX6_letter_42 : decode cX6_letter 42 = .ok (.iastore, 1) := by decide +kernel
theorem dX6_letter_43 : decode cX6_letter 43 = .ok (.aload_n 0, 1) := by decide +kernel
theorem dX6_letter_44 : decode cX6_letter 44 = .ok (.dup, 1) := by decide +kernel
theorem dX6_letter_45 : decode cX6_letter 45 = .ok (.getfield 13, 3) := by decide +kernel
theorem dX6_letter_48 : decode cX6_letter 48 = .ok (.iconst 1, 1) := by decide +kernel
theorem dX6_letter_49 : decode cX6_letter 49 = .ok (.iadd, 1) := by decide +kernel
theorem dX6_letter_50 : decode cX6_letter 50 = .ok (.putfield 13, 3) := by decide +kernel
theorem dX6_letter_53 : decode cX6_letter 53 = .ok (.aload_n 0, 1) := by decide +kernel
theorem dX6_letter_54 : decode cX6_letter 54 = .ok (.getfield 13, 3) := by decide +kernel
theorem dX6_letter_57 : decode cX6_letter 57 = .ok (.ireturn, 1) := by decide +kernel
set_option maxRecDepth 20000 in
theorem ggX6_fault_X6_codeAt : GoodIn wsX6_fault wsX6_codeAt := goodIn_r _ [6, 7, 14, 15, 16, 17, 18, 19, 20, 21, 22, 23, 24, 25] (by decide +kernel) (by decide +kernel)
set_option maxRecDepth 20000 in
theorem gX6_fault_X6_codeAt : GoodIn wsX6_fault (wsV RX6 55 RX6 yX6_codeAt wsX6_codeAt) := goodIn_app (goodIn_of _ (by decide +kernel)) ggX6_fault_X6_codeAt
set_option maxRecDepth 20000 in
theorem ggX6_fault_X6_fits : GoodIn wsX6_fault wsX6_fits := goodIn_r _ [10, 11, 12, 5, 13] (by decide +kernel) (by decide +kernel)
set_option maxRecDepth 20000 in
theorem gX6_fault_X6_fits : GoodIn wsX6_fault (va_wsS RX6 59 yX6_fits wsX6_fits) := goodIn_app (goodIn_of _ (by decide +kernel)) ggX6_fault_X6_fits
theorem dX6_fault_0 : decode cX6_fault 0 = .ok (.iconst 0, 1) := by decide +kernel
theorem dX6_fault_1 : decode cX6_fault 1 = .ok (.istore_n 1, 1) := by decide +kernel
theorem dX6_fault_2 : decode cX6_fault 2 = .ok (.iload_n 1, 1) := by decide +kernel
theorem dX6_fault_3 : decode cX6_fault 3 = .ok (.aload_n 0, 1) := by decide +kernel
theorem dX6_fault_4 : decode cX6_fault 4 = .ok (.getfield 13, 3) := by decide +kernel
theorem dX6_fault_7 : decode cX6_fault 7 = .ok (.if_icmp .ge 23, 3) := by decide +kernel
theorem dX6_fault_10 : decode cX6_fault 10 = .ok (.iload_n 1, 1) := by decide +kernel
theorem dX6_fault_11 : decode cX6_fault 11 = .ok (.aload_n 0, 1) := by decide +kernel
theorem dX6_fault_12 : decode cX6_fault 12 = .ok (.iload_n 1, 1) := by decide +kernel
theorem dX6_fault_13 : decode cX6_fault 13 = .ok (.invokevirtual 55, 3) := by decide +kernel
theorem dX6_fault_16 : decode cX6_fault 16 = .ok (.invokestatic 59, 3) := by decide +kernel
theorem dX6_fault_19 : decode cX6_fault 19 = .ok (.ifCond .ne 5, 3) := by decide +kernel
theorem dX6_fault_22 : decode cX6_fault 22 = .ok (.iload_n 1, 1) := by decide +kernel
theorem dX6_fault_23 : decode cX6_fault 23 = .ok (.ireturn, 1) := by decide +kernel
theorem dX6_fault_24 : decode cX6_fault 24 = .ok (.iinc 1 1, 3) := by decide +kernel
theorem dX6_fault_27 : decode cX6_fault 27 = .ok (.goto (-25), 3) := by decide +kernel
theorem dX6_fault_30 : decode cX6_fault 30 = .ok (.aload_n 0, 1) := by decide +kernel
theorem dX6_fault_31 : decode cX6_fault 31 = .ok (.getfield 13, 3) := by decide +kernel
theorem dX6_fault_34 : decode cX6_fault 34 = .ok (.ireturn, 1) := by decide +kernel
set_option maxRecDepth 20000 in
theorem ggX6_larder_X6_pageIsLarder : GoodIn wsX6_larder wsX6_pageIsLarder := goodIn_r _ [11, 1, 12, 13, 14, 10, 15, 16, 17, 18, 19, 20, 21, 22, 23, 24, 25, 26, 93, 94, 95, 96, 97, 98, 99, 100, 101, 102, 103, 104] (by decide +kernel) (by decide +kernel)
set_option maxRecDepth 20000 in
theorem gX6_larder_X6_pageIsLarder : GoodIn wsX6_larder (wsV RX6 63 RX6 yX6_pageIsLarder wsX6_pageIsLarder) := goodIn_app (goodIn_of _ (by decide +kernel)) ggX6_larder_X6_pageIsLarder
set_option maxRecDepth 20000 in
theorem ggX6_larder_X6_readJar : GoodIn wsX6_larder wsX6_readJar := goodIn_r _ [30, 31, 32, 33, 34, 35, 36, 37, 38, 39, 40, 41, 42, 43, 44, 45, 16, 17, 18, 10, 19, 20, 46, 47, 48, 49, 50, 51, 52, 53, 54, 55, 56, 57, 58, 59, 60, 61, 62, 63, 64, 65, 66, 67, 68, 69, 70, 71, 72, 73, 74, 75, 76, 77, 78, 79, 80, 105, 106, 107, 108, 109, 110, 111, 112, 113, 114, 115, 116, 117, 118, 119, 93, 94, 95, 96, 97, 98, 99, 100, 101, 102, 103, 104] (by decide +kernel) (by decide +kernel)
set_option maxRecDepth 20000 in
theorem gX6_larder_X6_readJar : GoodIn wsX6_larder (wsV RX6 67 RX6 yX6_readJar wsX6_readJar) := goodIn_app (goodIn_of _ (by decide +kernel)) ggX6_larder_X6_readJar
set_option maxRecDepth 20000 in
theorem ggX6_larder_X1_startAnew : GoodIn wsX6_larder wsX1_startAnew := goodIn_r _ [85, 86, 87, 88, 89, 90, 91, 92, 120, 121, 122, 123, 124, 125, 126, 127, 128] (by decide +kernel) (by decide +kernel)
set_option maxRecDepth 20000 in
theorem gX6_larder_X1_startAnew : GoodIn wsX6_larder (wsV RX6 71 RX1 yX1_startAnew wsX1_startAnew) := goodIn_app (goodIn_of _ (by decide +kernel)) ggX6_larder_X1_startAnew
theorem dX6_larder_0 : decode cX6_larder 0 = .ok (.aload_n 0, 1) := by decide +kernel
theorem dX6_larder_1 : decode cX6_larder 1 = .ok (.invokevirtual 63, 3) := by decide +kernel
theorem dX6_larder_4 : decode cX6_larder 4 = .ok (.ifCond .ne 6, 3) := by decide +kernel
theorem dX6_larder_7 : decode cX6_larder 7 = .ok (.bipush (-103), 2) := by decide +kernel
theorem dX6_larder_9 : decode cX6_larder 9 = .ok (.ireturn, 1) := by decide +kernel
theorem dX6_larder_10 : decode cX6_larder 10 = .ok (.aload_n 0, 1) := by decide +kernel
theorem dX6_larder_11 : decode cX6_larder 11 = .ok (.aload_n 0, 1) := by decide +kernel
theorem dX6_larder_12 : decode cX6_larder 12 = .ok (.getfield 13, 3) := by decide +kernel
theorem dX6_larder_15 : decode cX6_larder 15 = .ok (.iconst 1, 1) := by decide +kernel
theorem dX6_larder_16 : decode cX6_larder 16 = .ok (.iadd, 1) := by decide +kernel
theorem dX6_larder_17 : decode cX6_larder 17 = .ok (.iconst 4, 1) := by decide +kernel
theorem dX6_larder_18 : decode cX6_larder 18 = .ok (.idiv, 1) := by decide +kernel
theorem dX6_larder_19 : decode cX6_larder 19 = .ok (.putfield 23, 3) := by decide +kernel
theorem dX6_larder_22 : decode cX6_larder 22 = .ok (.iconst 0, 1) := by decide +kernel
theorem dX6_larder_23 : decode cX6_larder 23 = .ok (.istore_n 1, 1) := by decide +kernel
theorem dX6_larder_24 : decode cX6_larder 24 = .ok (.iload_n 1, 1) := by decide +kernel
theorem dX6_larder_25 : decode cX6_larder 25 = .ok (.bipush 6, 2) := by decide +kernel
theorem dX6_larder_27 : decode cX6_larder 27 = .ok (.if_icmp .ge 34, 3) := by decide +kernel
theorem dX6_larder_30 : decode cX6_larder 30 = .ok (.aload_n 0, 1) := by decide +kernel
theorem dX6_larder_31 : decode cX6_larder 31 = .ok (.getfield 19, 3) := by decide +kernel
theorem dX6_larder_34 : decode cX6_larder 34 = .ok (.iload_n 1, 1) := by decide +kernel
theorem dX6_larder_35 : decode cX6_larder 35 = .ok (.iload_n 1, 1) := by decide +kernel
theorem dX6_larder_36 : decode cX6_larder 36 = .ok (.aload_n 0, 1) := by decide +kernel
theorem dX6_larder_37 : decode cX6_larder 37 = .ok (.getfield 23, 3) := by decide +kernel
theorem dX6_larder_40 : decode cX6_larder 40 = .ok (.if_icmp .ge 13, 3) := by decide +kernel
theorem dX6_larder_43 : decode cX6_larder 43 = .ok (.aload_n 0, 1) := by decide +kernel
theorem dX6_larder_44 : decode cX6_larder 44 = .ok (.iload_n 1, 1) := by decide +kernel
theorem dX6_larder_45 : decode cX6_larder 45 = .ok (.iconst 4, 1) := by decide +kernel
theorem dX6_larder_46 : decode cX6_larder 46 = .ok (.imul, 1) := by decide +kernel
theorem dX6_larder_47 : decode cX6_larder 47 = .ok (.invokevirtual 67, 3) := by decide +kernel
theorem dX6_larder_50 : decode cX6_larder 50 = .ok (.goto 4, 3) := by decide +kernel
theorem dX6_larder_53 : decode cX6_larder 53 = .ok (.aconst_null, 1) := by decide +kernel
theorem dX6_larder_54 : decode cX6_larder 54 = .ok (.aastore, 1) := by decide +kernel
theorem dX6_larder_55 : decode cX6_larder 55 = .ok (.iinc 1 1, 3) := by decide +kernel
theorem dX6_larder_58 : decode cX6_larder 58 = .ok (.goto (-34), 3) := by decide +kernel
theorem dX6_larder_61 : decode cX6_larder 61 = .ok (.aload_n 0, 1) := by decide +kernel
theorem dX6_larder_62 : decode cX6_larder 62 = .ok (.getfield 29, 3) := by decide +kernel
theorem dX6_larder_65 : decode cX6_larder 65 = .ok (.aload_n 0, 1) := by decide +kernel
theorem dX6_larder_66 : decode cX6_larder 66 = .ok (.getfield 23, 3) := by decide +kernel
theorem dX6_larder_69 : decode cX6_larder 69 = .ok (.invokevirtual 71, 3) := by decide +kernel
theorem dX6_larder_72 : decode cX6_larder 72 = .ok (.aload_n 0, 1) := by decide +kernel
theorem dX6_larder_73 : decode cX6_larder 73 = .ok (.iconst 0, 1) := by decide +kernel
theorem dX6_larder_74 : decode cX6_larder 74 = .ok (.putfield 39, 3) := by decide +kernel
theorem dX6_larder_77 : decode cX6_larder 77 = .ok (.aload_n 0, 1) := by decide +kernel
theorem dX6_larder_78 : decode cX6_larder 78 = .ok (.dup, 1) := by decide +kernel
theorem dX6_larder_79 : decode cX6_larder 79 = .ok (.getfield 43, 3) := by decide +kernel
theorem dX6_larder_82 : decode cX6_larder 82 = .ok (.iconst 1, 1) := by decide +kernel
theorem dX6_larder_83 : decode cX6_larder 83 = .ok (.iadd, 1) := by decide +kernel
theorem dX6_larder_84 : decode cX6_larder 84 = .ok (.putfield 43, 3) := by decide +kernel
theorem dX6_larder_87 : decode cX6_larder 87 = .ok (.aload_n 0, 1) := by decide +kernel
theorem dX6_larder_88 : decode cX6_larder 88 = .ok (.iconst 0, 1) := by decide +kernel
theorem dX6_larder_89 : decode cX6_larder 89 = .ok (.putfield 13, 3) := by decide +kernel
theorem dX6_larder_92 : decode cX6_larder 92 = .ok (.aload_n 0, 1) := by decide +kernel
theorem dX6_larder_93 : decode cX6_larder 93 = .ok (.getfield 23, 3) := by decide +kernel
theorem dX6_larder_96 : decode cX6_larder 96 = .ok (.ireturn, 1) := by decide +kernel
set_option maxRecDepth 20000 in
theorem ggX6_jar_X6_find : GoodIn wsX6_jar wsX6_find := goodIn_r _ [9, 10, 11, 113, 114, 115, 116, 117, 118, 119, 120, 121, 122, 123, 124] (by decide +kernel) (by decide +kernel)
set_option maxRecDepth 20000 in
theorem gX6_jar_X6_find : GoodIn wsX6_jar (wsV RX6 75 RX6 yX6_find wsX6_find) := goodIn_app (goodIn_of _ (by decide +kernel)) ggX6_jar_X6_find
set_option maxRecDepth 20000 in
theorem ggX6_jar_X0_kindNumber : GoodIn wsX6_jar wsX0_kindNumber := goodIn_r _ [18] (by decide +kernel) (by decide +kernel)
set_option maxRecDepth 20000 in
theorem gX6_jar_X0_kindNumber_u78X0 : GoodIn wsX6_jar (va_wsO RX6 78 RX0 "JamDays$Jar" ⟨"JamDays$Jar", "kindNumber", "()I"⟩ yX0_kindNumber wsX0_kindNumber) := goodIn_app (goodIn_of _ (by decide +kernel)) ggX6_jar_X0_kindNumber
set_option maxRecDepth 20000 in
theorem ggX6_jar_X2_kindNumber : GoodIn wsX6_jar wsX2_kindNumber := goodIn_r _ [23] (by decide +kernel) (by decide +kernel)
set_option maxRecDepth 20000 in
theorem gX6_jar_X2_kindNumber_u78X2 : GoodIn wsX6_jar (va_wsO RX6 78 RX2 "JamDays$Jar" ⟨"JamDays$Jar", "kindNumber", "()I"⟩ yX2_kindNumber wsX2_kindNumber) := goodIn_app (goodIn_of _ (by decide +kernel)) ggX6_jar_X2_kindNumber
set_option maxRecDepth 20000 in
theorem ggX6_jar_X3_kindNumber : GoodIn wsX6_jar wsX3_kindNumber := goodIn_r _ [19] (by decide +kernel) (by decide +kernel)
set_option maxRecDepth 20000 in
theorem gX6_jar_X3_kindNumber : GoodIn wsX6_jar (wsV RX6 78 RX3 yX3_kindNumber wsX3_kindNumber) := goodIn_app (goodIn_of _ (by decide +kernel)) ggX6_jar_X3_kindNumber
set_option maxRecDepth 20000 in
theorem ggX6_jar_X4_kindNumber : GoodIn wsX6_jar wsX4_kindNumber := goodIn_r _ [31] (by decide +kernel) (by decide +kernel)
set_option maxRecDepth 20000 in
theorem gX6_jar_X4_kindNumber_u78X4 : GoodIn wsX6_jar (va_wsO RX6 78 RX4 "JamDays$Jar" ⟨"JamDays$Jar", "kindNumber", "()I"⟩ yX4_kindNumber wsX4_kindNumber) := goodIn_app (goodIn_of _ (by decide +kernel)) ggX6_jar_X4_kindNumber
set_option maxRecDepth 20000 in
theorem ggX6_jar_X5_kindNumber : GoodIn wsX6_jar wsX5_kindNumber := goodIn_r _ [35] (by decide +kernel) (by decide +kernel)
set_option maxRecDepth 20000 in
theorem gX6_jar_X5_kindNumber_u78X5 : GoodIn wsX6_jar (va_wsO RX6 78 RX5 "JamDays$Jar" ⟨"JamDays$Jar", "kindNumber", "()I"⟩ yX5_kindNumber wsX5_kindNumber) := goodIn_app (goodIn_of _ (by decide +kernel)) ggX6_jar_X5_kindNumber
set_option maxRecDepth 20000 in
theorem ggX6_jar_X1_spoonsOf : GoodIn wsX6_jar wsX1_spoonsOf := goodIn_r _ [40, 41, 125, 126, 127, 128, 129, 130, 131, 132, 133] (by decide +kernel) (by decide +kernel)
set_option maxRecDepth 20000 in
theorem gX6_jar_X1_spoonsOf : GoodIn wsX6_jar (wsV RX6 88 RX1 yX1_spoonsOf wsX1_spoonsOf) := goodIn_app (goodIn_of _ (by decide +kernel)) ggX6_jar_X1_spoonsOf
set_option maxRecDepth 20000 in
theorem ggX6_jar_X3_mouldIn : GoodIn wsX6_jar wsX3_mouldIn := goodIn_r _ [46, 47, 98, 99, 100, 101, 102, 103, 104, 105, 106, 107, 108, 109, 110, 111, 112] (by decide +kernel) (by decide +kernel)
set_option maxRecDepth 20000 in
theorem gX6_jar_X3_mouldIn_u94X0 : GoodIn wsX6_jar (va_wsU RX6 94 RX0 "JamDays$Jar" ⟨"JamDays$Jar", "mouldIn", "(I)I"⟩ yX3_mouldIn wsX3_mouldIn) := goodIn_app (goodIn_of _ (by decide +kernel)) ggX6_jar_X3_mouldIn
set_option maxRecDepth 20000 in
theorem gX6_jar_X3_mouldIn_u94X2 : GoodIn wsX6_jar (va_wsU RX6 94 RX2 "JamDays$Jar" ⟨"JamDays$Jar", "mouldIn", "(I)I"⟩ yX3_mouldIn wsX3_mouldIn) := goodIn_app (goodIn_of _ (by decide +kernel)) ggX6_jar_X3_mouldIn
set_option maxRecDepth 20000 in
theorem gX6_jar_X3_mouldIn : GoodIn wsX6_jar (wsV RX6 94 RX3 yX3_mouldIn wsX3_mouldIn) := goodIn_app (goodIn_of _ (by decide +kernel)) ggX6_jar_X3_mouldIn
set_option maxRecDepth 20000 in
theorem gX6_jar_X3_mouldIn_u94X4 : GoodIn wsX6_jar (va_wsU RX6 94 RX4 "JamDays$Jar" ⟨"JamDays$Jar", "mouldIn", "(I)I"⟩ yX3_mouldIn wsX3_mouldIn) := goodIn_app (goodIn_of _ (by decide +kernel)) ggX6_jar_X3_mouldIn
set_option maxRecDepth 20000 in
theorem gX6_jar_X3_mouldIn_u94X5 : GoodIn wsX6_jar (va_wsU RX6 94 RX5 "JamDays$Jar" ⟨"JamDays$Jar", "mouldIn", "(I)I"⟩ yX3_mouldIn wsX3_mouldIn) := goodIn_app (goodIn_of _ (by decide +kernel)) ggX6_jar_X3_mouldIn
set_option maxRecDepth 20000 in
theorem ggX6_jar_X6_nextWorth : GoodIn wsX6_jar wsX6_nextWorth := goodIn_r _ [56, 3, 4, 57, 58, 59, 8, 60, 5, 6, 7, 9, 10, 11, 61, 62, 63, 64, 27, 65, 66, 67, 43, 44, 45, 46, 47, 48, 68, 50, 51, 52, 69, 70, 71, 22, 72, 73, 74, 75, 76, 77, 78, 79, 80, 81, 30, 82, 83, 84, 85, 86, 87, 88, 89, 90, 91, 39, 92, 93, 113, 114, 115, 116, 117, 118, 119, 120, 121, 122, 123, 124, 125, 126, 127, 128, 129, 130, 131, 132, 133, 98, 99, 100, 101, 102, 103, 104, 105, 106, 107, 108, 109, 110, 111, 112] (by decide +kernel) (by decide +kernel)
set_option maxRecDepth 20000 in
theorem gX6_jar_X6_nextWorth : GoodIn wsX6_jar (wsV RX6 97 RX6 yX6_nextWorth wsX6_nextWorth) := goodIn_app (goodIn_of _ (by decide +kernel)) ggX6_jar_X6_nextWorth
set_option maxRecDepth 20000 in
theorem ggX6_jar_X1_eatenNowOf : GoodIn wsX6_jar wsX1_eatenNowOf := goodIn_r _ [92, 93, 125, 126, 127, 128, 129, 130, 131, 132, 133] (by decide +kernel) (by decide +kernel)
set_option maxRecDepth 20000 in
theorem gX6_jar_X1_eatenNowOf : GoodIn wsX6_jar (wsV RX6 100 RX1 yX1_eatenNowOf wsX1_eatenNowOf) := goodIn_app (goodIn_of _ (by decide +kernel)) ggX6_jar_X1_eatenNowOf
set_option maxRecDepth 20000 in
theorem ggX6_jar_X6_yearsToBest : GoodIn wsX6_jar wsX6_yearsToBest := goodIn_r _ [97, 3, 4, 57, 58, 59, 8, 60, 5, 6, 7, 9, 10, 11, 61, 62, 63, 64, 27, 65, 66, 67, 43, 44, 45, 46, 47, 48, 68, 50, 51, 52, 69, 70, 71, 22, 72, 73, 74, 75, 76, 77, 78, 79, 80, 81, 30, 82, 83, 84, 85, 86, 87, 88, 113, 114, 115, 116, 117, 118, 119, 120, 121, 122, 123, 124, 125, 126, 127, 128, 129, 130, 131, 132, 133, 98, 99, 100, 101, 102, 103, 104, 105, 106, 107, 108, 109, 110, 111, 112] (by decide +kernel) (by decide +kernel)
set_option maxRecDepth 20000 in
theorem gX6_jar_X6_yearsToBest : GoodIn wsX6_jar (wsV RX6 103 RX6 yX6_yearsToBest wsX6_yearsToBest) := goodIn_app (goodIn_of _ (by decide +kernel)) ggX6_jar_X6_yearsToBest
theorem dX6_jar_0 : decode cX6_jar 0 = .ok (.aload_n 0, 1) := by decide +kernel
theorem dX6_jar_1 : decode cX6_jar 1 = .ok (.iload_n 1, 1) := by decide +kernel
theorem dX6_jar_2 : decode cX6_jar 2 = .ok (.invokevirtual 75, 3) := by decide +kernel
theorem dX6_jar_5 : decode cX6_jar 5 = .ok (.astore_n 3, 1) := by decide +kernel
theorem dX6_jar_6 : decode cX6_jar 6 = .ok (.aload_n 3, 1) := by decide +kernel
theorem dX6_jar_7 : decode cX6_jar 7 = .ok (.ifnonnull 6, 3) := by decide +kernel
theorem dX6_jar_10 : decode cX6_jar 10 = .ok (.bipush (-101), 2) := by decide +kernel
theorem dX6_jar_12 : decode cX6_jar 12 = .ok (.ireturn, 1) := by decide +kernel
theorem dX6_jar_13 : decode cX6_jar 13 = .ok (.iload_n 2, 1) := by decide +kernel
theorem dX6_jar_14 : decode cX6_jar 14 = .ok (.tableswitch 106 0 7 #[46, 51, 56, 61, 70, 82, 91, 100], 46) := by decide +kernel
theorem dX6_jar_60 : decode cX6_jar 60 = .ok (.aload_n 3, 1) := by decide +kernel
theorem dX6_jar_61 : decode cX6_jar 61 = .ok (.invokevirtual 78, 3) := by decide +kernel
theorem dX6_jar_64 : decode cX6_jar 64 = .ok (.ireturn, 1) := by decide +kernel
theorem dX6_jar_65 : decode cX6_jar 65 = .ok (.aload_n 3, 1) := by decide +kernel
theorem dX6_jar_66 : decode cX6_jar 66 = .ok (.getfield 82, 3) := by decide +kernel
theorem dX6_jar_69 : decode cX6_jar 69 = .ok (.ireturn, 1) := by decide +kernel
theorem dX6_jar_70 : decode cX6_jar 70 = .ok (.aload_n 3, 1) := by decide +kernel
theorem dX6_jar_71 : decode cX6_jar 71 = .ok (.getfield 85, 3) := by decide +kernel
theorem dX6_jar_74 : decode cX6_jar 74 = .ok (.ireturn, 1) := by decide +kernel
theorem dX6_jar_75 : decode cX6_jar 75 = .ok (.aload_n 0, 1) := by decide +kernel
theorem dX6_jar_76 : decode cX6_jar 76 = .ok (.getfield 29, 3) := by decide +kernel
theorem dX6_jar_79 : decode cX6_jar 79 = .ok (.iload_n 1, 1) := by decide +kernel
theorem dX6_jar_80 : decode cX6_jar 80 = .ok (.invokevirtual 88, 3) := by decide +kernel
theorem dX6_jar_83 : decode cX6_jar 83 = .ok (.ireturn, 1) := by decide +kernel
theorem dX6_jar_84 : decode cX6_jar 84 = .ok (.aload_n 3, 1) := by decide +kernel
theorem dX6_jar_85 : decode cX6_jar 85 = .ok (.aload_n 0, 1) := by decide +kernel
theorem dX6_jar_86 : decode cX6_jar 86 = .ok (.getfield 29, 3) := by decide +kernel
theorem dX6_jar_89 : decode cX6_jar 89 = .ok (.getfield 91, 3) := by decide +kernel
theorem dX6_jar_92 : decode cX6_jar 92 = .ok (.invokevirtual 94, 3) := by decide +kernel
theorem dX6_jar_95 : decode cX6_jar 95 = .ok (.ireturn, 1) := by decide +kernel
theorem dX6_jar_96 : decode cX6_jar 96 = .ok (.aload_n 0, 1) := by decide +kernel
theorem dX6_jar_97 : decode cX6_jar 97 = .ok (.iload_n 1, 1) := by decide +kernel
theorem dX6_jar_98 : decode cX6_jar 98 = .ok (.invokevirtual 97, 3) := by decide +kernel
theorem dX6_jar_101 : decode cX6_jar 101 = .ok (.bipush 100, 2) := by decide +kernel
theorem dX6_jar_103 : decode cX6_jar 103 = .ok (.iadd, 1) := by decide +kernel
theorem dX6_jar_104 : decode cX6_jar 104 = .ok (.ireturn, 1) := by decide +kernel
theorem dX6_jar_105 : decode cX6_jar 105 = .ok (.aload_n 0, 1) := by decide +kernel
theorem dX6_jar_106 : decode cX6_jar 106 = .ok (.getfield 29, 3) := by decide +kernel
theorem dX6_jar_109 : decode cX6_jar 109 = .ok (.iload_n 1, 1) := by decide +kernel
theorem dX6_jar_110 : decode cX6_jar 110 = .ok (.invokevirtual 100, 3) := by decide +kernel
theorem dX6_jar_113 : decode cX6_jar 113 = .ok (.ireturn, 1) := by decide +kernel
theorem dX6_jar_114 : decode cX6_jar 114 = .ok (.aload_n 0, 1) := by decide +kernel
theorem dX6_jar_115 : decode cX6_jar 115 = .ok (.iload_n 1, 1) := by decide +kernel
theorem dX6_jar_116 : decode cX6_jar 116 = .ok (.invokevirtual 103, 3) := by decide +kernel
theorem dX6_jar_119 : decode cX6_jar 119 = .ok (.ireturn, 1) := by decide +kernel
theorem dX6_jar_120 : decode cX6_jar 120 = .ok (.bipush (-102), 2) := by decide +kernel
theorem dX6_jar_122 : decode cX6_jar 122 = .ok (.ireturn, 1) := by decide +kernel
set_option maxRecDepth 20000 in
theorem ggX6_as_X6_find : GoodIn wsX6_as wsX6_find := goodIn_r _ [5, 6, 7, 15, 16, 17, 18, 19, 20, 21, 22, 23, 24, 25, 26] (by decide +kernel) (by decide +kernel)
set_option maxRecDepth 20000 in
theorem gX6_as_X6_find : GoodIn wsX6_as (wsV RX6 75 RX6 yX6_find wsX6_find) := goodIn_app (goodIn_of _ (by decide +kernel)) ggX6_as_X6_find
set_option maxRecDepth 20000 in
theorem ggX6_as_X6_isOfKind : GoodIn wsX6_as wsX6_isOfKind := goodIn_r _ [10, 11, 12, 13, 14] (by decide +kernel) (by decide +kernel)
set_option maxRecDepth 20000 in
theorem gX6_as_X6_isOfKind : GoodIn wsX6_as (va_wsS RX6 106 yX6_isOfKind wsX6_isOfKind) := goodIn_app (goodIn_of _ (by decide +kernel)) ggX6_as_X6_isOfKind
theorem dX6_as_0 : decode cX6_as 0 = .ok (.aload_n 0, 1) := by decide +kernel
theorem dX6_as_1 : decode cX6_as 1 = .ok (.iload_n 1, 1) := by decide +kernel
theorem dX6_as_2 : decode cX6_as 2 = .ok (.invokevirtual 75, 3) := by decide +kernel
theorem dX6_as_5 : decode cX6_as 5 = .ok (.astore_n 3, 1) := by decide +kernel
theorem dX6_as_6 : decode cX6_as 6 = .ok (.aload_n 3, 1) := by decide +kernel
theorem dX6_as_7 : decode cX6_as 7 = .ok (.ifnonnull 6, 3) := by decide +kernel
theorem dX6_as_10 : decode cX6_as 10 = .ok (.bipush (-101), 2) := by decide +kernel
theorem dX6_as_12 : decode cX6_as 12 = .ok (.ireturn, 1) := by decide +kernel
theorem dX6_as_13 : decode cX6_as 13 = .ok (.iload_n 2, 1) := by decide +kernel
theorem dX6_as_14 : decode cX6_as 14 = .ok (.ifCond .lt 8, 3) := by decide +kernel
theorem dX6_as_17 : decode cX6_as 17 = .ok (.iload_n 2, 1) := by decide +kernel
theorem dX6_as_18 : decode cX6_as 18 = .ok (.iconst 4, 1) := by decide +kernel
theorem dX6_as_19 : decode cX6_as 19 = .ok (.if_icmp .le 6, 3) := by decide +kernel
theorem dX6_as_22 : decode cX6_as 22 = .ok (.bipush (-102), 2) := by decide +kernel
theorem dX6_as_24 : decode cX6_as 24 = .ok (.ireturn, 1) := by decide +kernel
theorem dX6_as_25 : decode cX6_as 25 = .ok (.aload_n 3, 1) := by decide +kernel
theorem dX6_as_26 : decode cX6_as 26 = .ok (.iload_n 2, 1) := by decide +kernel
theorem dX6_as_27 : decode cX6_as 27 = .ok (.invokestatic 106, 3) := by decide +kernel
theorem dX6_as_30 : decode cX6_as 30 = .ok (.ifCond .eq 7, 3) := by decide +kernel
theorem dX6_as_33 : decode cX6_as 33 = .ok (.iload_n 1, 1) := by decide +kernel
theorem dX6_as_34 : decode cX6_as 34 = .ok (.goto 4, 3) := by decide +kernel
theorem dX6_as_37 : decode cX6_as 37 = .ok (.iconst (-1), 1) := by decide +kernel
theorem dX6_as_38 : decode cX6_as 38 = .ok (.ireturn, 1) := by decide +kernel
set_option maxRecDepth 20000 in
theorem ggX6_worth_X6_find : GoodIn wsX6_worth wsX6_find := goodIn_r _ [5, 6, 7, 55, 56, 57, 58, 59, 60, 61, 62, 63, 64, 65, 66] (by decide +kernel) (by decide +kernel)
set_option maxRecDepth 20000 in
theorem gX6_worth_X6_find : GoodIn wsX6_worth (wsV RX6 75 RX6 yX6_find wsX6_find) := goodIn_app (goodIn_of _ (by decide +kernel)) ggX6_worth_X6_find
set_option maxRecDepth 20000 in
theorem ggX6_worth_X6_isNoYear : GoodIn wsX6_worth wsX6_isNoYear := goodIn_r _ [10] (by decide +kernel) (by decide +kernel)
set_option maxRecDepth 20000 in
theorem gX6_worth_X6_isNoYear : GoodIn wsX6_worth (va_wsS RX6 110 yX6_isNoYear wsX6_isNoYear) := goodIn_app (goodIn_of _ (by decide +kernel)) ggX6_worth_X6_isNoYear
set_option maxRecDepth 20000 in
theorem ggX6_worth_X6_firstWorth : GoodIn wsX6_worth wsX6_firstWorth := goodIn_r _ [14, 1, 2, 3, 4, 5, 6, 7, 15, 16, 17, 18, 19, 20, 21, 22, 23, 24, 25, 26, 27, 28, 29, 30, 31, 32, 33, 34, 35, 36, 37, 38, 39, 40, 41, 42, 43, 44, 45, 46, 47, 48, 49, 50, 51, 52, 53, 54, 55, 56, 57, 58, 59, 60, 61, 62, 63, 64, 65, 66, 67, 68, 69, 70, 71, 72, 73, 74, 75, 76, 77, 78, 79, 80, 81] (by decide +kernel) (by decide +kernel)
set_option maxRecDepth 20000 in
theorem gX6_worth_X6_firstWorth : GoodIn wsX6_worth (wsV RX6 114 RX6 yX6_firstWorth wsX6_firstWorth) := goodIn_app (goodIn_of _ (by decide +kernel)) ggX6_worth_X6_firstWorth
theorem dX6_worth_0 : decode cX6_worth 0 = .ok (.aload_n 0, 1) := by decide +kernel
theorem dX6_worth_1 : decode cX6_worth 1 = .ok (.iload_n 1, 1) := by decide +kernel
theorem dX6_worth_2 : decode cX6_worth 2 = .ok (.invokevirtual 75, 3) := by decide +kernel
theorem dX6_worth_5 : decode cX6_worth 5 = .ok (.ifnonnull 6, 3) := by decide +kernel
theorem dX6_worth_8 : decode cX6_worth 8 = .ok (.bipush (-101), 2) := by decide +kernel
theorem dX6_worth_10 : decode cX6_worth 10 = .ok (.ireturn, 1) := by decide +kernel
theorem dX6_worth_11 : decode cX6_worth 11 = .ok (.iload_n 2, 1) := by decide +kernel
theorem dX6_worth_12 : decode cX6_worth 12 = .ok (.invokestatic 110, 3) := by decide +kernel
theorem dX6_worth_15 : decode cX6_worth 15 = .ok (.ifCond .eq 6, 3) := by decide +kernel
theorem dX6_worth_18 : decode cX6_worth 18 = .ok (.bipush (-102), 2) := by decide +kernel
theorem dX6_worth_20 : decode cX6_worth 20 = .ok (.ireturn, 1) := by decide +kernel
theorem dX6_worth_21 : decode cX6_worth 21 = .ok (.aload_n 0, 1) := by decide +kernel
theorem dX6_worth_22 : decode cX6_worth 22 = .ok (.iload_n 1, 1) := by decide +kernel
theorem dX6_worth_23 : decode cX6_worth 23 = .ok (.iload_n 2, 1) := by decide +kernel
theorem dX6_worth_24 : decode cX6_worth 24 = .ok (.invokevirtual 114, 3) := by decide +kernel
theorem dX6_worth_27 : decode cX6_worth 27 = .ok (.bipush 100, 2) := by decide +kernel
theorem dX6_worth_29 : decode cX6_worth 29 = .ok (.iadd, 1) := by decide +kernel
theorem dX6_worth_30 : decode cX6_worth 30 = .ok (.ireturn, 1) := by decide +kernel
set_option maxRecDepth 20000 in
theorem ggX6_eat_X6_find : GoodIn wsX6_eat wsX6_find := goodIn_r _ [6, 7, 8, 75, 76, 77, 78, 79, 80, 81, 82, 83, 84, 85, 86] (by decide +kernel) (by decide +kernel)
set_option maxRecDepth 20000 in
theorem gX6_eat_X6_find : GoodIn wsX6_eat (wsV RX6 75 RX6 yX6_find wsX6_find) := goodIn_app (goodIn_of _ (by decide +kernel)) ggX6_eat_X6_find
set_option maxRecDepth 20000 in
theorem ggX6_eat_X6_nextWorth : GoodIn wsX6_eat wsX6_nextWorth := goodIn_r _ [12, 1, 13, 14, 15, 16, 5, 17, 2, 3, 4, 6, 7, 8, 18, 19, 20, 21, 22, 23, 24, 25, 26, 27, 28, 29, 30, 31, 32, 33, 34, 35, 36, 37, 38, 39, 40, 41, 42, 43, 44, 45, 46, 47, 48, 49, 50, 51, 52, 53, 54, 55, 56, 57, 58, 59, 60, 61, 62, 63, 75, 76, 77, 78, 79, 80, 81, 82, 83, 84, 85, 86, 87, 88, 89, 90, 91, 92, 93, 94, 95, 96, 97, 98, 99, 100, 101, 102, 103, 104, 105, 106, 107, 108, 109, 110] (by decide +kernel) (by decide +kernel)
set_option maxRecDepth 20000 in
theorem gX6_eat_X6_nextWorth : GoodIn wsX6_eat (wsV RX6 97 RX6 yX6_nextWorth wsX6_nextWorth) := goodIn_app (goodIn_of _ (by decide +kernel)) ggX6_eat_X6_nextWorth
set_option maxRecDepth 20000 in
theorem ggX6_eat_X1_eatSpoon : GoodIn wsX6_eat wsX1_eatSpoon := goodIn_r _ [67, 68, 63, 69, 70, 71, 72, 73, 61, 74, 87, 88, 89, 90, 91, 92, 93, 94, 95] (by decide +kernel) (by decide +kernel)
set_option maxRecDepth 20000 in
theorem gX6_eat_X1_eatSpoon : GoodIn wsX6_eat (wsV RX6 118 RX1 yX1_eatSpoon wsX1_eatSpoon) := goodIn_app (goodIn_of _ (by decide +kernel)) ggX6_eat_X1_eatSpoon
theorem dX6_eat_0 : decode cX6_eat 0 = .ok (.aload_n 0, 1) := by decide +kernel
theorem dX6_eat_1 : decode cX6_eat 1 = .ok (.iload_n 1, 1) := by decide +kernel
theorem dX6_eat_2 : decode cX6_eat 2 = .ok (.invokevirtual 75, 3) := by decide +kernel
theorem dX6_eat_5 : decode cX6_eat 5 = .ok (.ifnonnull 6, 3) := by decide +kernel
theorem dX6_eat_8 : decode cX6_eat 8 = .ok (.bipush (-101), 2) := by decide +kernel
theorem dX6_eat_10 : decode cX6_eat 10 = .ok (.ireturn, 1) := by decide +kernel
theorem dX6_eat_11 : decode cX6_eat 11 = .ok (.aload_n 0, 1) := by decide +kernel
theorem dX6_eat_12 : decode cX6_eat 12 = .ok (.iload_n 1, 1) := by decide +kernel
theorem dX6_eat_13 : decode cX6_eat 13 = .ok (.invokevirtual 97, 3) := by decide +kernel
theorem dX6_eat_16 : decode cX6_eat 16 = .ok (.istore_n 2, 1) := by decide +kernel
theorem dX6_eat_17 : decode cX6_eat 17 = .ok (.aload_n 0, 1) := by decide +kernel
theorem dX6_eat_18 : decode cX6_eat 18 = .ok (.getfield 29, 3) := by decide +kernel
theorem dX6_eat_21 : decode cX6_eat 21 = .ok (.iload_n 1, 1) := by decide +kernel
theorem dX6_eat_22 : decode cX6_eat 22 = .ok (.iload_n 2, 1) := by decide +kernel
theorem dX6_eat_23 : decode cX6_eat 23 = .ok (.invokevirtual 118, 3) := by decide +kernel
theorem dX6_eat_26 : decode cX6_eat 26 = .ok (.ifCond .eq 10, 3) := by decide +kernel
theorem dX6_eat_29 : decode cX6_eat 29 = .ok (.iload_n 2, 1) := by decide +kernel
theorem dX6_eat_30 : decode cX6_eat 30 = .ok (.bipush 100, 2) := by decide +kernel
theorem dX6_eat_32 : decode cX6_eat 32 = .ok (.iadd, 1) := by decide +kernel
theorem dX6_eat_33 : decode cX6_eat 33 = .ok (.goto 5, 3) := by decide +kernel
theorem dX6_eat_36 : decode cX6_eat 36 = .ok (.bipush (-103), 2) := by decide +kernel
theorem dX6_eat_38 : decode cX6_eat 38 = .ok (.ireturn, 1) := by decide +kernel
set_option maxRecDepth 20000 in
theorem ggX6_wasps_X6_find : GoodIn wsX6_wasps wsX6_find := goodIn_r _ [6, 7, 8, 21, 22, 23, 24, 25, 26, 27, 28, 29, 30, 31, 32] (by decide +kernel) (by decide +kernel)
set_option maxRecDepth 20000 in
theorem gX6_wasps_X6_find : GoodIn wsX6_wasps (wsV RX6 75 RX6 yX6_find wsX6_find) := goodIn_app (goodIn_of _ (by decide +kernel)) ggX6_wasps_X6_find
set_option maxRecDepth 20000 in
theorem ggX6_wasps_X1_loseSpoon : GoodIn wsX6_wasps wsX1_loseSpoon := goodIn_r _ [13, 14, 15, 16, 17, 18, 12, 19, 33, 34, 35, 36, 37, 38, 39, 40, 41] (by decide +kernel) (by decide +kernel)
set_option maxRecDepth 20000 in
theorem gX6_wasps_X1_loseSpoon : GoodIn wsX6_wasps (wsV RX6 121 RX1 yX1_loseSpoon wsX1_loseSpoon) := goodIn_app (goodIn_of _ (by decide +kernel)) ggX6_wasps_X1_loseSpoon
set_option maxRecDepth 20000 in
theorem ggX6_wasps_X1_spoonsOf : GoodIn wsX6_wasps wsX1_spoonsOf := goodIn_r _ [19, 14, 33, 34, 35, 36, 37, 38, 39, 40, 41] (by decide +kernel) (by decide +kernel)
set_option maxRecDepth 20000 in
theorem gX6_wasps_X1_spoonsOf : GoodIn wsX6_wasps (wsV RX6 88 RX1 yX1_spoonsOf wsX1_spoonsOf) := goodIn_app (goodIn_of _ (by decide +kernel)) ggX6_wasps_X1_spoonsOf
theorem dX6_wasps_0 : decode cX6_wasps 0 = .ok (.aload_n 0, 1) := by decide +kernel
theorem dX6_wasps_1 : decode cX6_wasps 1 = .ok (.iload_n 1, 1) := by decide +kernel
theorem dX6_wasps_2 : decode cX6_wasps 2 = .ok (.invokevirtual 75, 3) := by decide +kernel
theorem dX6_wasps_5 : decode cX6_wasps 5 = .ok (.ifnonnull 6, 3) := by decide +kernel
theorem dX6_wasps_8 : decode cX6_wasps 8 = .ok (.bipush (-101), 2) := by decide +kernel
theorem dX6_wasps_10 : decode cX6_wasps 10 = .ok (.ireturn, 1) := by decide +kernel
theorem dX6_wasps_11 : decode cX6_wasps 11 = .ok (.aload_n 0, 1) := by decide +kernel
theorem dX6_wasps_12 : decode cX6_wasps 12 = .ok (.getfield 29, 3) := by decide +kernel
theorem dX6_wasps_15 : decode cX6_wasps 15 = .ok (.iload_n 1, 1) := by decide +kernel
theorem dX6_wasps_16 : decode cX6_wasps 16 = .ok (.invokevirtual 121, 3) := by decide +kernel
theorem dX6_wasps_19 : decode cX6_wasps 19 = .ok (.ifCond .eq 14, 3) := by decide +kernel
theorem dX6_wasps_22 : decode cX6_wasps 22 = .ok (.aload_n 0, 1) := by decide +kernel
theorem dX6_wasps_23 : decode cX6_wasps 23 = .ok (.getfield 29, 3) := by decide +kernel
theorem dX6_wasps_26 : decode cX6_wasps 26 = .ok (.iload_n 1, 1) := by decide +kernel
theorem dX6_wasps_27 : decode cX6_wasps 27 = .ok (.invokevirtual 88, 3) := by decide +kernel
theorem dX6_wasps_30 : decode cX6_wasps 30 = .ok (.goto 5, 3) := by decide +kernel
theorem dX6_wasps_33 : decode cX6_wasps 33 = .ok (.bipush (-103), 2) := by decide +kernel
theorem dX6_wasps_35 : decode cX6_wasps 35 = .ok (.ireturn, 1) := by decide +kernel
set_option maxRecDepth 20000 in
theorem ggX6_year_X6_hasNoLarder : GoodIn wsX6_year wsX6_hasNoLarder := goodIn_r _ [7, 8, 16, 17, 18, 19, 20, 21, 22, 23, 24, 25, 26, 27] (by decide +kernel) (by decide +kernel)
set_option maxRecDepth 20000 in
theorem gX6_year_X6_hasNoLarder : GoodIn wsX6_year (wsV RX6 124 RX6 yX6_hasNoLarder wsX6_hasNoLarder) := goodIn_app (goodIn_of _ (by decide +kernel)) ggX6_year_X6_hasNoLarder
set_option maxRecDepth 20000 in
theorem ggX6_year_X1_passYear : GoodIn wsX6_year wsX1_passYear := goodIn_r _ [13, 14, 15, 28, 29, 30, 31, 32, 33, 34, 35, 36] (by decide +kernel) (by decide +kernel)
set_option maxRecDepth 20000 in
theorem gX6_year_X1_passYear : GoodIn wsX6_year (wsV RX6 127 RX1 yX1_passYear wsX1_passYear) := goodIn_app (goodIn_of _ (by decide +kernel)) ggX6_year_X1_passYear
theorem dX6_year_0 : decode cX6_year 0 = .ok (.aload_n 0, 1) := by decide +kernel
theorem dX6_year_1 : decode cX6_year 1 = .ok (.invokevirtual 124, 3) := by decide +kernel
theorem dX6_year_4 : decode cX6_year 4 = .ok (.ifCond .eq 6, 3) := by decide +kernel
theorem dX6_year_7 : decode cX6_year 7 = .ok (.bipush (-103), 2) := by decide +kernel
theorem dX6_year_9 : decode cX6_year 9 = .ok (.ireturn, 1) := by decide +kernel
theorem dX6_year_10 : decode cX6_year 10 = .ok (.aload_n 0, 1) := by decide +kernel
theorem dX6_year_11 : decode cX6_year 11 = .ok (.getfield 29, 3) := by decide +kernel
theorem dX6_year_14 : decode cX6_year 14 = .ok (.getfield 91, 3) := by decide +kernel
theorem dX6_year_17 : decode cX6_year 17 = .ok (.bipush 99, 2) := by decide +kernel
theorem dX6_year_19 : decode cX6_year 19 = .ok (.if_icmp .lt 6, 3) := by decide +kernel
theorem dX6_year_22 : decode cX6_year 22 = .ok (.bipush (-104), 2) := by decide +kernel
theorem dX6_year_24 : decode cX6_year 24 = .ok (.ireturn, 1) := by decide +kernel
theorem dX6_year_25 : decode cX6_year 25 = .ok (.aload_n 0, 1) := by decide +kernel
theorem dX6_year_26 : decode cX6_year 26 = .ok (.getfield 29, 3) := by decide +kernel
theorem dX6_year_29 : decode cX6_year 29 = .ok (.invokevirtual 127, 3) := by decide +kernel
theorem dX6_year_32 : decode cX6_year 32 = .ok (.aload_n 0, 1) := by decide +kernel
theorem dX6_year_33 : decode cX6_year 33 = .ok (.getfield 29, 3) := by decide +kernel
theorem dX6_year_36 : decode cX6_year 36 = .ok (.getfield 91, 3) := by decide +kernel
theorem dX6_year_39 : decode cX6_year 39 = .ok (.ireturn, 1) := by decide +kernel
set_option maxRecDepth 20000 in
theorem ggX6_times_X6_hasNoLarder : GoodIn wsX6_times wsX6_hasNoLarder := goodIn_r _ [7, 8, 113, 114, 115, 116, 117, 118, 119, 120, 121, 122, 123, 124] (by decide +kernel) (by decide +kernel)
set_option maxRecDepth 20000 in
theorem gX6_times_X6_hasNoLarder : GoodIn wsX6_times (wsV RX6 124 RX6 yX6_hasNoLarder wsX6_hasNoLarder) := goodIn_app (goodIn_of _ (by decide +kernel)) ggX6_times_X6_hasNoLarder
set_option maxRecDepth 20000 in
theorem ggX6_times_X6_liveOn : GoodIn wsX6_times wsX6_liveOn := goodIn_r _ [12, 1, 13, 14, 15, 16, 17, 18, 19, 20, 21, 22, 23, 24, 25, 26, 27, 28, 29, 30, 6, 31, 32, 33, 34, 35, 36, 37, 38, 8, 39, 40, 41, 42, 43, 44, 45, 46, 47, 48, 49, 50, 51, 52, 53, 54, 55, 56, 57, 58, 59, 60, 61, 62, 63, 64, 65, 66, 67, 68, 69, 70, 71, 72, 73, 74, 75, 76, 77, 78, 79, 80, 81, 82, 83, 84, 85, 86, 87, 88, 89, 90, 91, 92, 93, 94, 95, 96, 97, 98, 99, 100, 101, 102, 103, 104, 105, 106, 107, 108, 113, 114, 115, 116, 117, 118, 119, 120, 121, 122, 123, 124, 125, 126, 127, 128, 129, 130, 131, 132, 133, 134, 135, 136, 137, 138, 139, 140, 141, 142, 143, 144, 145, 146, 147, 148] (by decide +kernel) (by decide +kernel)
set_option maxRecDepth 20000 in
theorem gX6_times_X6_liveOn : GoodIn wsX6_times (wsV RX6 152 RX6 yX6_liveOn wsX6_liveOn) := goodIn_app (goodIn_of _ (by decide +kernel)) ggX6_times_X6_liveOn
set_option maxRecDepth 20000 in
theorem ggX6_times_X1_spoonsOfAll : GoodIn wsX6_times wsX1_spoonsOfAll := goodIn_r _ [112, 25, 125, 126, 127, 128, 129, 130, 131, 132, 133] (by decide +kernel) (by decide +kernel)
set_option maxRecDepth 20000 in
theorem gX6_times_X1_spoonsOfAll : GoodIn wsX6_times (wsV RX6 155 RX1 yX1_spoonsOfAll wsX1_spoonsOfAll) := goodIn_app (goodIn_of _ (by decide +kernel)) ggX6_times_X1_spoonsOfAll
theorem dX6_times_0 : decode cX6_times 0 = .ok (.iload_n 1, 1) := by decide +kernel
theorem dX6_times_1 : decode cX6_times 1 = .ok (.iconst 1, 1) := by decide +kernel
theorem dX6_times_2 : decode cX6_times 2 = .ok (.if_icmp .lt 22, 3) := by decide +kernel
theorem dX6_times_5 : decode cX6_times 5 = .ok (.iload_n 1, 1) := by decide +kernel
theorem dX6_times_6 : decode cX6_times 6 = .ok (.bipush 60, 2) := by decide +kernel
theorem dX6_times_8 : decode cX6_times 8 = .ok (.if_icmp .gt 16, 3) := by decide +kernel
theorem dX6_times_11 : decode cX6_times 11 = .ok (.iload_n 2, 1) := by decide +kernel
theorem dX6_times_12 : decode cX6_times 12 = .ok (.ifCond .lt 12, 3) := by decide +kernel
theorem dX6_times_15 : decode cX6_times 15 = .ok (.iload_n 3, 1) := by decide +kernel
theorem dX6_times_16 : decode cX6_times 16 = .ok (.ifCond .lt 8, 3) := by decide +kernel
theorem dX6_times_19 : decode cX6_times 19 = .ok (.iload_n 3, 1) := by decide +kernel
theorem dX6_times_20 : decode cX6_times 20 = .ok (.iconst 2, 1) := by decide +kernel
theorem dX6_times_21 : decode cX6_times 21 = .ok (.if_icmp .le 6, 3) := by decide +kernel
theorem dX6_times_24 : decode cX6_times 24 = .ok (.bipush (-102), 2) := by decide +kernel
theorem dX6_times_26 : decode cX6_times 26 = .ok (.ireturn, 1) := by decide +kernel
theorem dX6_times_27 : decode cX6_times 27 = .ok (.aload_n 0, 1) := by decide +kernel
theorem dX6_times_28 : decode cX6_times 28 = .ok (.invokevirtual 124, 3) := by decide +kernel
theorem dX6_times_31 : decode cX6_times 31 = .ok (.ifCond .eq 6, 3) := by decide +kernel
theorem dX6_times_34 : decode cX6_times 34 = .ok (.bipush (-103), 2) := by decide +kernel
theorem dX6_times_36 : decode cX6_times 36 = .ok (.ireturn, 1) := by decide +kernel
theorem dX6_times_37 : decode cX6_times 37 = .ok (.aload_n 0, 1) := by decide +kernel
theorem dX6_times_38 : decode cX6_times 38 = .ok (.iload_n 1, 1) := by decide +kernel
theorem dX6_times_39 : decode cX6_times 39 = .ok (.iload_n 2, 1) := by decide +kernel
theorem dX6_times_40 : decode cX6_times 40 = .ok (.invokevirtual 152, 3) := by decide +kernel
theorem dX6_times_43 : decode cX6_times 43 = .ok (.istore 4, 2) := by decide +kernel
theorem dX6_times_45 : decode cX6_times 45 = .ok (.iload_n 3, 1) := by decide +kernel
theorem dX6_times_46 : decode cX6_times 46 = .ok (.lookupswitch 46 #[(0, 26), (1, 34)], 26) := by decide +kernel
theorem dX6_times_72 : decode cX6_times 72 = .ok (.aload_n 0, 1) := by decide +kernel
theorem dX6_times_73 : decode cX6_times 73 = .ok (.getfield 36, 3) := by decide +kernel
theorem dX6_times_76 : decode cX6_times 76 = .ok (.invokevirtual 155, 3) := by decide +kernel
theorem dX6_times_79 : decode cX6_times 79 = .ok (.ireturn, 1) := by decide +kernel
theorem dX6_times_80 : decode cX6_times 80 = .ok (.aload_n 0, 1) := by decide +kernel
theorem dX6_times_81 : decode cX6_times 81 = .ok (.getfield 36, 3) := by decide +kernel
theorem dX6_times_84 : decode cX6_times 84 = .ok (.getfield 158, 3) := by decide +kernel
theorem dX6_times_87 : decode cX6_times 87 = .ok (.sipush 2000, 3) := by decide +kernel
theorem dX6_times_90 : decode cX6_times 90 = .ok (.iadd, 1) := by decide +kernel
theorem dX6_times_91 : decode cX6_times 91 = .ok (.ireturn, 1) := by decide +kernel
theorem dX6_times_92 : decode cX6_times 92 = .ok (.iload 4, 2) := by decide +kernel
theorem dX6_times_94 : decode cX6_times 94 = .ok (.ireturn, 1) := by decide +kernel
set_option maxRecDepth 20000 in
theorem ggX6_count_X1_spoonsOfAll : GoodIn wsX6_count wsX1_spoonsOfAll := goodIn_r _ [15, 16, 38, 39, 40, 41, 42, 43, 44, 45, 46] (by decide +kernel) (by decide +kernel)
set_option maxRecDepth 20000 in
theorem gX6_count_X1_spoonsOfAll : GoodIn wsX6_count (wsV RX6 155 RX1 yX1_spoonsOfAll wsX1_spoonsOfAll) := goodIn_app (goodIn_of _ (by decide +kernel)) ggX6_count_X1_spoonsOfAll
set_option maxRecDepth 20000 in
theorem ggX6_count_X6_emptyJars : GoodIn wsX6_count wsX6_emptyJars := goodIn_r _ [21, 1, 2, 22, 23, 24, 14, 25, 16, 26, 27, 28, 29, 30, 31, 32, 33, 34, 35, 36, 37, 38, 39, 40, 41, 42, 43, 44, 45, 46] (by decide +kernel) (by decide +kernel)
set_option maxRecDepth 20000 in
theorem gX6_count_X6_emptyJars : GoodIn wsX6_count (wsV RX6 165 RX6 yX6_emptyJars wsX6_emptyJars) := goodIn_app (goodIn_of _ (by decide +kernel)) ggX6_count_X6_emptyJars
theorem dX6_count_0 : decode cX6_count 0 = .ok (.iload_n 1, 1) := by decide +kernel
theorem dX6_count_1 : decode cX6_count 1 = .ok (.tableswitch 136 0 10 #[59, 64, 72, 80, 92, 97, 105, 113, 121, 126, 131], 59) := by decide +kernel
theorem dX6_count_60 : decode cX6_count 60 = .ok (.aload_n 0, 1) := by decide +kernel
theorem dX6_count_61 : decode cX6_count 61 = .ok (.getfield 23, 3) := by decide +kernel
theorem dX6_count_64 : decode cX6_count 64 = .ok (.ireturn, 1) := by decide +kernel
theorem dX6_count_65 : decode cX6_count 65 = .ok (.aload_n 0, 1) := by decide +kernel
theorem dX6_count_66 : decode cX6_count 66 = .ok (.getfield 29, 3) := by decide +kernel
theorem dX6_count_69 : decode cX6_count 69 = .ok (.getfield 91, 3) := by decide +kernel
theorem dX6_count_72 : decode cX6_count 72 = .ok (.ireturn, 1) := by decide +kernel
theorem dX6_count_73 : decode cX6_count 73 = .ok (.aload_n 0, 1) := by decide +kernel
theorem dX6_count_74 : decode cX6_count 74 = .ok (.getfield 29, 3) := by decide +kernel
theorem dX6_count_77 : decode cX6_count 77 = .ok (.invokevirtual 155, 3) := by decide +kernel
theorem dX6_count_80 : decode cX6_count 80 = .ok (.ireturn, 1) := by decide +kernel
theorem dX6_count_81 : decode cX6_count 81 = .ok (.aload_n 0, 1) := by decide +kernel
theorem dX6_count_82 : decode cX6_count 82 = .ok (.getfield 29, 3) := by decide +kernel
theorem dX6_count_85 : decode cX6_count 85 = .ok (.getfield 158, 3) := by decide +kernel
theorem dX6_count_88 : decode cX6_count 88 = .ok (.sipush 2000, 3) := by decide +kernel
theorem dX6_count_91 : decode cX6_count 91 = .ok (.iadd, 1) := by decide +kernel
theorem dX6_count_92 : decode cX6_count 92 = .ok (.ireturn, 1) := by decide +kernel
theorem dX6_count_93 : decode cX6_count 93 = .ok (.aload_n 0, 1) := by decide +kernel
theorem dX6_count_94 : decode cX6_count 94 = .ok (.invokevirtual 165, 3) := by decide +kernel
theorem dX6_count_97 : decode cX6_count 97 = .ok (.ireturn, 1) := by decide +kernel
theorem dX6_count_98 : decode cX6_count 98 = .ok (.aload_n 0, 1) := by decide +kernel
theorem dX6_count_99 : decode cX6_count 99 = .ok (.getfield 29, 3) := by decide +kernel
theorem dX6_count_102 : decode cX6_count 102 = .ok (.getfield 168, 3) := by decide +kernel
theorem dX6_count_105 : decode cX6_count 105 = .ok (.ireturn, 1) := by decide +kernel
theorem dX6_count_106 : decode cX6_count 106 = .ok (.aload_n 0, 1) := by decide +kernel
theorem dX6_count_107 : decode cX6_count 107 = .ok (.getfield 29, 3) := by decide +kernel
theorem dX6_count_110 : decode cX6_count 110 = .ok (.getfield 171, 3) := by decide +kernel
theorem dX6_count_113 : decode cX6_count 113 = .ok (.ireturn, 1) := by decide +kernel
theorem dX6_count_114 : decode cX6_count 114 = .ok (.aload_n 0, 1) := by decide +kernel
theorem dX6_count_115 : decode cX6_count 115 = .ok (.getfield 29, 3) := by decide +kernel
theorem dX6_count_118 : decode cX6_count 118 = .ok (.getfield 143, 3) := by decide +kernel
theorem dX6_count_121 : decode cX6_count 121 = .ok (.ireturn, 1) := by decide +kernel
theorem dX6_count_122 : decode cX6_count 122 = .ok (.aload_n 0, 1) := by decide +kernel
theorem dX6_count_123 : decode cX6_count 123 = .ok (.getfield 13, 3) := by decide +kernel
theorem dX6_count_126 : decode cX6_count 126 = .ok (.ireturn, 1) := by decide +kernel
theorem dX6_count_127 : decode cX6_count 127 = .ok (.aload_n 0, 1) := by decide +kernel
theorem dX6_count_128 : decode cX6_count 128 = .ok (.getfield 43, 3) := by decide +kernel
theorem dX6_count_131 : decode cX6_count 131 = .ok (.ireturn, 1) := by decide +kernel
theorem dX6_count_132 : decode cX6_count 132 = .ok (.aload_n 0, 1) := by decide +kernel
theorem dX6_count_133 : decode cX6_count 133 = .ok (.getfield 46, 3) := by decide +kernel
theorem dX6_count_136 : decode cX6_count 136 = .ok (.ireturn, 1) := by decide +kernel
theorem dX6_count_137 : decode cX6_count 137 = .ok (.bipush (-102), 2) := by decide +kernel
theorem dX6_count_139 : decode cX6_count 139 = .ok (.ireturn, 1) := by decide +kernel
theorem dX6_codeAt_0 : decode cX6_codeAt 0 = .ok (.iload_n 1, 1) := by decide +kernel
theorem dX6_codeAt_1 : decode cX6_codeAt 1 = .ok (.ifCond .lt 18, 3) := by decide +kernel
theorem dX6_codeAt_4 : decode cX6_codeAt 4 = .ok (.iload_n 1, 1) := by decide +kernel
theorem dX6_codeAt_5 : decode cX6_codeAt 5 = .ok (.bipush 25, 2) := by decide +kernel
theorem dX6_codeAt_7 : decode cX6_codeAt 7 = .ok (.if_icmp .ge 12, 3) := by decide +kernel
theorem dX6_codeAt_10 : decode cX6_codeAt 10 = .ok (.aload_n 0, 1) := by decide +kernel
theorem dX6_codeAt_11 : decode cX6_codeAt 11 = .ok (.getfield 9, 3) := by decide +kernel
theorem dX6_codeAt_14 : decode cX6_codeAt 14 = .ok (.iload_n 1, 1) := by decide +kernel
theorem dX6_codeAt_15 : decode cX6_codeAt 15 = .ok (.iaload, 1) := by decide +kernel
theorem dX6_codeAt_16 : decode cX6_codeAt 16 = .ok (.goto 4, 3) := by decide +kernel
theorem dX6_codeAt_19 : decode cX6_codeAt 19 = .ok (.iconst 0, 1) := by decide +kernel
theorem dX6_codeAt_20 : decode cX6_codeAt 20 = .ok (.ireturn, 1) := by decide +kernel
set_option maxRecDepth 20000 in
theorem ggX6_fits_X6_isKindLetter : GoodIn wsX6_fits wsX6_isKindLetter := goodIn_r _ [4] (by decide +kernel) (by decide +kernel)
set_option maxRecDepth 20000 in
theorem gX6_fits_X6_isKindLetter : GoodIn wsX6_fits (va_wsS RX6 197 yX6_isKindLetter wsX6_isKindLetter) := goodIn_app (goodIn_of _ (by decide +kernel)) ggX6_fits_X6_isKindLetter
theorem dX6_fits_0 : decode cX6_fits 0 = .ok (.iload_n 0, 1) := by decide +kernel
theorem dX6_fits_1 : decode cX6_fits 1 = .ok (.ifCond .lt 9, 3) := by decide +kernel
theorem dX6_fits_4 : decode cX6_fits 4 = .ok (.iload_n 0, 1) := by decide +kernel
theorem dX6_fits_5 : decode cX6_fits 5 = .ok (.bipush 23, 2) := by decide +kernel
theorem dX6_fits_7 : decode cX6_fits 7 = .ok (.if_icmp .lt 5, 3) := by decide +kernel
theorem dX6_fits_10 : decode cX6_fits 10 = .ok (.iconst 0, 1) := by decide +kernel
theorem dX6_fits_11 : decode cX6_fits 11 = .ok (.ireturn, 1) := by decide +kernel
theorem dX6_fits_12 : decode cX6_fits 12 = .ok (.iload_n 0, 1) := by decide +kernel
theorem dX6_fits_13 : decode cX6_fits 13 = .ok (.iconst 4, 1) := by decide +kernel
theorem dX6_fits_14 : decode cX6_fits 14 = .ok (.irem, 1) := by decide +kernel
theorem dX6_fits_15 : decode cX6_fits 15 = .ok (.lookupswitch 42 #[(0, 25), (3, 30)], 25) := by decide +kernel
theorem dX6_fits_40 : decode cX6_fits 40 = .ok (.iload_n 1, 1) := by decide +kernel
theorem dX6_fits_41 : decode cX6_fits 41 = .ok (.invokestatic 197, 3) := by decide +kernel
theorem dX6_fits_44 : decode cX6_fits 44 = .ok (.ireturn, 1) := by decide +kernel
theorem dX6_fits_45 : decode cX6_fits 45 = .ok (.iload_n 1, 1) := by decide +kernel
theorem dX6_fits_46 : decode cX6_fits 46 = .ok (.bipush 44, 2) := by decide +kernel
theorem dX6_fits_48 : decode cX6_fits 48 = .ok (.if_icmp .ne 7, 3) := by decide +kernel
theorem dX6_fits_51 : decode cX6_fits 51 = .ok (.iconst 1, 1) := by decide +kernel
theorem dX6_fits_52 : decode cX6_fits 52 = .ok (.goto 4, 3) := by decide +kernel
theorem dX6_fits_55 : decode cX6_fits 55 = .ok (.iconst 0, 1) := by decide +kernel
theorem dX6_fits_56 : decode cX6_fits 56 = .ok (.ireturn, 1) := by decide +kernel
theorem dX6_fits_57 : decode cX6_fits 57 = .ok (.iload_n 1, 1) := by decide +kernel
theorem dX6_fits_58 : decode cX6_fits 58 = .ok (.bipush 48, 2) := by decide +kernel
theorem dX6_fits_60 : decode cX6_fits 60 = .ok (.if_icmp .lt 13, 3) := by decide +kernel
theorem dX6_fits_63 : decode cX6_fits 63 = .ok (.iload_n 1, 1) := by decide +kernel
theorem dX6_fits_64 : decode cX6_fits 64 = .ok (.bipush 57, 2) := by decide +kernel
theorem dX6_fits_66 : decode cX6_fits 66 = .ok (.if_icmp .gt 7, 3) := by decide +kernel
theorem dX6_fits_69 : decode cX6_fits 69 = .ok (.iconst 1, 1) := by decide +kernel
theorem dX6_fits_70 : decode cX6_fits 70 = .ok (.goto 4, 3) := by decide +kernel
theorem dX6_fits_73 : decode cX6_fits 73 = .ok (.iconst 0, 1) := by decide +kernel
theorem dX6_fits_74 : decode cX6_fits 74 = .ok (.ireturn, 1) := by decide +kernel
theorem dX6_isKindLetter_0 : decode cX6_isKindLetter 0 = .ok (.iload_n 0, 1) := by decide +kernel
theorem dX6_isKindLetter_1 : decode cX6_isKindLetter 1 = .ok (.bipush 106, 2) := by decide +kernel
theorem dX6_isKindLetter_3 : decode cX6_isKindLetter 3 = .ok (.if_icmp .eq 27, 3) := by decide +kernel
theorem dX6_isKindLetter_6 : decode cX6_isKindLetter 6 = .ok (.iload_n 0, 1) := by decide +kernel
theorem dX6_isKindLetter_7 : decode cX6_isKindLetter 7 = .ok (.bipush 119, 2) := by decide +kernel
theorem dX6_isKindLetter_9 : decode cX6_isKindLetter 9 = .ok (.if_icmp .eq 21, 3) := by decide +kernel
theorem dX6_isKindLetter_12 : decode cX6_isKindLetter 12 = .ok (.iload_n 0, 1) := by decide +kernel
theorem dX6_isKindLetter_13 : decode cX6_isKindLetter 13 = .ok (.bipush 99, 2) := by decide +kernel
theorem dX6_isKindLetter_15 : decode cX6_isKindLetter 15 = .ok (.if_icmp .eq 15, 3) := by decide +kernel
theorem dX6_isKindLetter_18 : decode cX6_isKindLetter 18 = .ok (.iload_n 0, 1) := by decide +kernel
theorem dX6_isKindLetter_19 : decode cX6_isKindLetter 19 = .ok (.bipush 112, 2) := by decide +kernel
theorem dX6_isKindLetter_21 : decode cX6_isKindLetter 21 = .ok (.if_icmp .eq 9, 3) := by decide +kernel
theorem dX6_isKindLetter_24 : decode cX6_isKindLetter 24 = .ok (.iload_n 0, 1) := by decide +kernel
theorem dX6_isKindLetter_25 : decode cX6_isKindLetter 25 = .ok (.bipush 103, 2) := by decide +kernel
theorem dX6_isKindLetter_27 : decode cX6_isKindLetter 27 = .ok (.if_icmp .ne 7, 3) := by decide +kernel
theorem dX6_isKindLetter_30 : decode cX6_isKindLetter 30 = .ok (.iconst 1, 1) := by decide +kernel
theorem dX6_isKindLetter_31 : decode cX6_isKindLetter 31 = .ok (.goto 4, 3) := by decide +kernel
theorem dX6_isKindLetter_34 : decode cX6_isKindLetter 34 = .ok (.iconst 0, 1) := by decide +kernel
theorem dX6_isKindLetter_35 : decode cX6_isKindLetter 35 = .ok (.ireturn, 1) := by decide +kernel
set_option maxRecDepth 20000 in
theorem ggX6_pageIsLarder_X6_fault : GoodIn wsX6_pageIsLarder wsX6_fault := goodIn_r _ [6, 1, 7, 8, 9, 5, 10, 11, 12, 13, 14, 15, 16, 17, 18, 19, 20, 21, 22, 23, 24, 25, 26, 27, 28, 29] (by decide +kernel) (by decide +kernel)
set_option maxRecDepth 20000 in
theorem gX6_pageIsLarder_X6_fault : GoodIn wsX6_pageIsLarder (wsV RX6 200 RX6 yX6_fault wsX6_fault) := goodIn_app (goodIn_of _ (by decide +kernel)) ggX6_pageIsLarder_X6_fault
theorem dX6_pageIsLarder_0 : decode cX6_pageIsLarder 0 = .ok (.aload_n 0, 1) := by decide +kernel
theorem dX6_pageIsLarder_1 : decode cX6_pageIsLarder 1 = .ok (.getfield 13, 3) := by decide +kernel
theorem dX6_pageIsLarder_4 : decode cX6_pageIsLarder 4 = .ok (.iconst 4, 1) := by decide +kernel
theorem dX6_pageIsLarder_5 : decode cX6_pageIsLarder 5 = .ok (.irem, 1) := by decide +kernel
theorem dX6_pageIsLarder_6 : decode cX6_pageIsLarder 6 = .ok (.iconst 3, 1) := by decide +kernel
theorem dX6_pageIsLarder_7 : decode cX6_pageIsLarder 7 = .ok (.if_icmp .ne 7, 3) := by decide +kernel
theorem dX6_pageIsLarder_10 : decode cX6_pageIsLarder 10 = .ok (.iconst 1, 1) := by decide +kernel
theorem dX6_pageIsLarder_11 : decode cX6_pageIsLarder 11 = .ok (.goto 4, 3) := by decide +kernel
theorem dX6_pageIsLarder_14 : decode cX6_pageIsLarder 14 = .ok (.iconst 0, 1) := by decide +kernel
theorem dX6_pageIsLarder_15 : decode cX6_pageIsLarder 15 = .ok (.istore_n 1, 1) := by decide +kernel
theorem dX6_pageIsLarder_16 : decode cX6_pageIsLarder 16 = .ok (.iload_n 1, 1) := by decide +kernel
theorem dX6_pageIsLarder_17 : decode cX6_pageIsLarder 17 = .ok (.ifCond .eq 27, 3) := by decide +kernel
theorem dX6_pageIsLarder_20 : decode cX6_pageIsLarder 20 = .ok (.aload_n 0, 1) := by decide +kernel
theorem dX6_pageIsLarder_21 : decode cX6_pageIsLarder 21 = .ok (.getfield 13, 3) := by decide +kernel
theorem dX6_pageIsLarder_24 : decode cX6_pageIsLarder 24 = .ok (.bipush 7, 2) := by decide +kernel
theorem dX6_pageIsLarder_26 : decode cX6_pageIsLarder 26 = .ok (.if_icmp .lt 18, 3) := by decide +kernel
theorem dX6_pageIsLarder_29 : decode cX6_pageIsLarder 29 = .ok (.aload_n 0, 1) := by decide +kernel
theorem dX6_pageIsLarder_30 : decode cX6_pageIsLarder 30 = .ok (.invokevirtual 200, 3) := by decide +kernel
theorem dX6_pageIsLarder_33 : decode cX6_pageIsLarder 33 = .ok (.aload_n 0, 1) := by decide +kernel
theorem dX6_pageIsLarder_34 : decode cX6_pageIsLarder 34 = .ok (.getfield 13, 3) := by decide +kernel
theorem dX6_pageIsLarder_37 : decode cX6_pageIsLarder 37 = .ok (.if_icmp .ne 7, 3) := by decide +kernel
theorem dX6_pageIsLarder_40 : decode cX6_pageIsLarder 40 = .ok (.iconst 1, 1) := by decide +kernel
theorem dX6_pageIsLarder_41 : decode cX6_pageIsLarder 41 = .ok (.goto 4, 3) := by decide +kernel
theorem dX6_pageIsLarder_44 : decode cX6_pageIsLarder 44 = .ok (.iconst 0, 1) := by decide +kernel
theorem dX6_pageIsLarder_45 : decode cX6_pageIsLarder 45 = .ok (.ireturn, 1) := by decide +kernel
set_option maxRecDepth 20000 in
theorem ggX6_readJar_X6_codeAt : GoodIn wsX6_readJar wsX6_codeAt := goodIn_r _ [20, 21, 72, 73, 74, 75, 76, 77, 78, 79, 80, 81, 82, 83] (by decide +kernel) (by decide +kernel)
set_option maxRecDepth 20000 in
theorem gX6_readJar_X6_codeAt : GoodIn wsX6_readJar (wsV RX6 55 RX6 yX6_codeAt wsX6_codeAt) := goodIn_app (goodIn_of _ (by decide +kernel)) ggX6_readJar_X6_codeAt
set_option maxRecDepth 20000 in
theorem ggX6_readJar_X5_init : GoodIn wsX6_readJar wsX5_init := goodIn_r _ [24, 25, 26, 15, 27, 28, 29, 30, 31, 32, 33, 60, 61, 62, 66, 67, 68, 69, 70, 71, 63, 64, 65, 57, 58, 59] (by decide +kernel) (by decide +kernel)
set_option maxRecDepth 20000 in
theorem gX6_readJar_X5_init : GoodIn wsX6_readJar (wsX5_init) := ggX6_readJar_X5_init
set_option maxRecDepth 20000 in
theorem ggX6_readJar_X0_init : GoodIn wsX6_readJar wsX0_init := goodIn_r _ [36, 37, 26, 15, 27, 28, 29, 30, 31, 32, 33, 60, 61, 62, 66, 67, 68, 69, 70, 71, 63, 64, 65, 57, 58, 59] (by decide +kernel) (by decide +kernel)
set_option maxRecDepth 20000 in
theorem gX6_readJar_X0_init : GoodIn wsX6_readJar (wsX0_init) := ggX6_readJar_X0_init
set_option maxRecDepth 20000 in
theorem ggX6_readJar_X4_init : GoodIn wsX6_readJar wsX4_init := goodIn_r _ [40, 41, 42, 15, 43, 44, 45, 46, 47, 48, 49, 50, 51, 26, 27, 28, 29, 30, 31, 32, 33, 60, 61, 62, 66, 67, 68, 69, 70, 71, 63, 64, 65, 57, 58, 59] (by decide +kernel) (by decide +kernel)
set_option maxRecDepth 20000 in
theorem gX6_readJar_X4_init : GoodIn wsX6_readJar (wsX4_init) := ggX6_readJar_X4_init
set_option maxRecDepth 20000 in
theorem ggX6_readJar_X2_init : GoodIn wsX6_readJar wsX2_init := goodIn_r _ [54, 55, 35, 6, 36, 37, 26, 15, 27, 28, 29, 30, 31, 32, 33, 60, 61, 62, 66, 67, 68, 69, 70, 71, 63, 64, 65, 57, 58, 59] (by decide +kernel) (by decide +kernel)
set_option maxRecDepth 20000 in
theorem gX6_readJar_X2_init : GoodIn wsX6_readJar (wsX2_init) := ggX6_readJar_X2_init
set_option maxRecDepth 20000 in
theorem ggX6_readJar_X3_init : GoodIn wsX6_readJar wsX3_init := goodIn_r _ [43, 44, 45, 15, 46, 47, 48, 49, 50, 51, 26, 27, 28, 29, 30, 31, 32, 33, 60, 61, 62, 66, 67, 68, 69, 70, 71, 63, 64, 65, 57, 58, 59] (by decide +kernel) (by decide +kernel)
set_option maxRecDepth 20000 in
theorem gX6_readJar_X3_init : GoodIn wsX6_readJar (wsX3_init) := ggX6_readJar_X3_init
theorem dX6_readJar_0 : decode cX6_readJar 0 = .ok (.aload_n 0, 1) := by decide +kernel
theorem dX6_readJar_1 : decode cX6_readJar 1 = .ok (.iload_n 1, 1) := by decide +kernel
theorem dX6_readJar_2 : decode cX6_readJar 2 = .ok (.iconst 1, 1) := by decide +kernel
theorem dX6_readJar_3 : decode cX6_readJar 3 = .ok (.iadd, 1) := by decide +kernel
theorem dX6_readJar_4 : decode cX6_readJar 4 = .ok (.invokevirtual 55, 3) := by decide +kernel
theorem dX6_readJar_7 : decode cX6_readJar 7 = .ok (.bipush 48, 2) := by decide +kernel
theorem dX6_readJar_9 : decode cX6_readJar 9 = .ok (.isub, 1) := by decide +kernel
theorem dX6_readJar_10 : decode cX6_readJar 10 = .ok (.istore_n 2, 1) := by decide +kernel
theorem dX6_readJar_11 : decode cX6_readJar 11 = .ok (.aload_n 0, 1) := by decide +kernel
theorem dX6_readJar_12 : decode cX6_readJar 12 = .ok (.iload_n 1, 1) := by decide +kernel
theorem dX6_readJar_13 : decode cX6_readJar 13 = .ok (.iconst 2, 1) := by decide +kernel
theorem dX6_readJar_14 : decode cX6_readJar 14 = .ok (.iadd, 1) := by decide +kernel
theorem dX6_readJar_15 : decode cX6_readJar 15 = .ok (.invokevirtual 55, 3) := by decide +kernel
theorem dX6_readJar_18 : decode cX6_readJar 18 = .ok (.bipush 48, 2) := by decide +kernel
theorem dX6_readJar_20 : decode cX6_readJar 20 = .ok (.isub, 1) := by decide +kernel
theorem dX6_readJar_21 : decode cX6_readJar 21 = .ok (.istore_n 3, 1) := by decide +kernel
theorem dX6_readJar_22 : decode cX6_readJar 22 = .ok (.aload_n 0, 1) := by decide +kernel
theorem dX6_readJar_23 : decode cX6_readJar 23 = .ok (.iload_n 1, 1) := by decide +kernel
theorem dX6_readJar_24 : decode cX6_readJar 24 = .ok (.invokevirtual 55, 3) := by decide +kernel
theorem dX6_readJar_27 : decode cX6_readJar 27 = .ok (.lookupswitch 81 #[(99, 51), (103, 71), (112, 61), (119, 41)], 41) := by decide +kernel
theorem dX6_readJar_68 : decode cX6_readJar 68 = .ok (.new 203, 3) := by decide +kernel
theorem dX6_readJar_71 : decode cX6_readJar 71 = .ok (.dup, 1) := by decide +kernel
theorem dX6_readJar_72 : decode cX6_readJar 72 = .ok (.iload_n 2, 1) := by decide +kernel
theorem dX6_readJar_73 : decode cX6_readJar 73 = .ok (.iload_n 3, 1) := by decide +kernel
theorem dX6_readJar_74 : decode cX6_readJar 74 = .ok (.invokespecial 205, 3) := by decide +kernel
theorem dX6_readJar_77 : decode cX6_readJar 77 = .ok (.areturn, 1) := by decide +kernel
theorem dX6_readJar_78 : decode cX6_readJar 78 = .ok (.new 208, 3) := by decide +kernel
theorem dX6_readJar_81 : decode cX6_readJar 81 = .ok (.dup, 1) := by decide +kernel
theorem dX6_readJar_82 : decode cX6_readJar 82 = .ok (.iload_n 2, 1) := by decide +kernel
theorem dX6_readJar_83 : decode cX6_readJar 83 = .ok (.iload_n 3, 1) := by decide +kernel
theorem dX6_readJar_84 : decode cX6_readJar 84 = .ok (.invokespecial 210, 3) := by decide +kernel
theorem dX6_readJar_87 : decode cX6_readJar 87 = .ok (.areturn, 1) := by decide +kernel
theorem dX6_readJar_88 : decode cX6_readJar 88 = .ok (.new 211, 3) := by decide +kernel
theorem dX6_readJar_91 : decode cX6_readJar 91 = .ok (.dup, 1) := by decide +kernel
theorem dX6_readJar_92 : decode cX6_readJar 92 = .ok (.iload_n 2, 1) := by decide +kernel
theorem dX6_readJar_93 : decode cX6_readJar 93 = .ok (.iload_n 3, 1) := by decide +kernel
theorem dX6_readJar_94 : decode cX6_readJar 94 = .ok (.invokespecial 213, 3) := by decide +kernel
theorem dX6_readJar_97 : decode cX6_readJar 97 = .ok (.areturn, 1) := by decide +kernel
theorem dX6_readJar_98 : decode cX6_readJar 98 = .ok (.new 214, 3) := by decide +kernel
theorem dX6_readJar_101 : decode cX6_readJar 101 = .ok (.dup, 1) := by decide +kernel
theorem dX6_readJar_102 : decode cX6_readJar 102 = .ok (.iload_n 2, 1) := by decide +kernel
theorem dX6_readJar_103 : decode cX6_readJar 103 = .ok (.iload_n 3, 1) := by decide +kernel
theorem dX6_readJar_104 : decode cX6_readJar 104 = .ok (.invokespecial 216, 3) := by decide +kernel
theorem dX6_readJar_107 : decode cX6_readJar 107 = .ok (.areturn, 1) := by decide +kernel
theorem dX6_readJar_108 : decode cX6_readJar 108 = .ok (.new 17, 3) := by decide +kernel
theorem dX6_readJar_111 : decode cX6_readJar 111 = .ok (.dup, 1) := by decide +kernel
theorem dX6_readJar_112 : decode cX6_readJar 112 = .ok (.iload_n 2, 1) := by decide +kernel
theorem dX6_readJar_113 : decode cX6_readJar 113 = .ok (.iload_n 3, 1) := by decide +kernel
theorem dX6_readJar_114 : decode cX6_readJar 114 = .ok (.invokespecial 217, 3) := by decide +kernel
theorem dX6_readJar_117 : decode cX6_readJar 117 = .ok (.areturn, 1) := by decide +kernel
theorem dX6_hasNoLarder_0 : decode cX6_hasNoLarder 0 = .ok (.aload_n 0, 1) := by decide +kernel
theorem dX6_hasNoLarder_1 : decode cX6_hasNoLarder 1 = .ok (.getfield 23, 3) := by decide +kernel
theorem dX6_hasNoLarder_4 : decode cX6_hasNoLarder 4 = .ok (.ifCond .ne 7, 3) := by decide +kernel
theorem dX6_hasNoLarder_7 : decode cX6_hasNoLarder 7 = .ok (.iconst 1, 1) := by decide +kernel
theorem dX6_hasNoLarder_8 : decode cX6_hasNoLarder 8 = .ok (.goto 4, 3) := by decide +kernel
theorem dX6_hasNoLarder_11 : decode cX6_hasNoLarder 11 = .ok (.iconst 0, 1) := by decide +kernel
theorem dX6_hasNoLarder_12 : decode cX6_hasNoLarder 12 = .ok (.ireturn, 1) := by decide +kernel
theorem dX6_isNoYear_0 : decode cX6_isNoYear 0 = .ok (.iload_n 0, 1) := by decide +kernel
theorem dX6_isNoYear_1 : decode cX6_isNoYear 1 = .ok (.ifCond .lt 9, 3) := by decide +kernel
theorem dX6_isNoYear_4 : decode cX6_isNoYear 4 = .ok (.iload_n 0, 1) := by decide +kernel
theorem dX6_isNoYear_5 : decode cX6_isNoYear 5 = .ok (.bipush 99, 2) := by decide +kernel
theorem dX6_isNoYear_7 : decode cX6_isNoYear 7 = .ok (.if_icmp .le 7, 3) := by decide +kernel
theorem dX6_isNoYear_10 : decode cX6_isNoYear 10 = .ok (.iconst 1, 1) := by decide +kernel
theorem dX6_isNoYear_11 : decode cX6_isNoYear 11 = .ok (.goto 4, 3) := by decide +kernel
theorem dX6_isNoYear_14 : decode cX6_isNoYear 14 = .ok (.iconst 0, 1) := by decide +kernel
theorem dX6_isNoYear_15 : decode cX6_isNoYear 15 = .ok (.ireturn, 1) := by decide +kernel
theorem dX6_find_0 : decode cX6_find 0 = .ok (.iload_n 1, 1) := by decide +kernel
theorem dX6_find_1 : decode cX6_find 1 = .ok (.ifCond .lt 26, 3) := by decide +kernel
theorem dX6_find_4 : decode cX6_find 4 = .ok (.iload_n 1, 1) := by decide +kernel
theorem dX6_find_5 : decode cX6_find 5 = .ok (.aload_n 0, 1) := by decide +kernel
theorem dX6_find_6 : decode cX6_find 6 = .ok (.getfield 23, 3) := by decide +kernel
theorem dX6_find_9 : decode cX6_find 9 = .ok (.if_icmp .ge 18, 3) := by decide +kernel
theorem dX6_find_12 : decode cX6_find 12 = .ok (.iload_n 1, 1) := by decide +kernel
theorem dX6_find_13 : decode cX6_find 13 = .ok (.bipush 6, 2) := by decide +kernel
theorem dX6_find_15 : decode cX6_find 15 = .ok (.if_icmp .ge 12, 3) := by decide +kernel
theorem dX6_find_18 : decode cX6_find 18 = .ok (.aload_n 0, 1) := by decide +kernel
theorem dX6_find_19 : decode cX6_find 19 = .ok (.getfield 19, 3) := by decide +kernel
theorem dX6_find_22 : decode cX6_find 22 = .ok (.iload_n 1, 1) := by decide +kernel
theorem dX6_find_23 : decode cX6_find 23 = .ok (.aaload, 1) := by decide +kernel
theorem dX6_find_24 : decode cX6_find 24 = .ok (.goto 4, 3) := by decide +kernel
theorem dX6_find_27 : decode cX6_find 27 = .ok (.aconst_null, 1) := by decide +kernel
theorem dX6_find_28 : decode cX6_find 28 = .ok (.areturn, 1) := by decide +kernel
theorem dX6_isOfKind_0 : decode cX6_isOfKind 0 = .ok (.iload_n 1, 1) := by decide +kernel
theorem dX6_isOfKind_1 : decode cX6_isOfKind 1 = .ok (.tableswitch 65 0 4 #[35, 45, 50, 55, 60], 35) := by decide +kernel
theorem dX6_isOfKind_36 : decode cX6_isOfKind 36 = .ok (.aload_n 0, 1) := by decide +kernel
theorem dX6_isOfKind_37 : decode cX6_isOfKind 37 = .ok (.ifnull 7, 3) := by decide +kernel
theorem dX6_isOfKind_40 : decode cX6_isOfKind 40 = .ok (.iconst 1, 1) := by decide +kernel
theorem dX6_isOfKind_41 : decode cX6_isOfKind 41 = .ok (.goto 4, 3) := by decide +kernel
theorem dX6_isOfKind_44 : decode cX6_isOfKind 44 = .ok (.iconst 0, 1) := by decide +kernel
theorem dX6_isOfKind_45 : decode cX6_isOfKind 45 = .ok (.ireturn, 1) := by decide +kernel
theorem dX6_isOfKind_46 : decode cX6_isOfKind 46 = .ok (.aload_n 0, 1) := by decide +kernel
theorem dX6_isOfKind_47 : decode cX6_isOfKind 47 = .ok (.instanceof 203, 3) := by decide +kernel
theorem dX6_isOfKind_50 : decode cX6_isOfKind 50 = .ok (.ireturn, 1) := by decide +kernel
theorem dX6_isOfKind_51 : decode cX6_isOfKind 51 = .ok (.aload_n 0, 1) := by decide +kernel
theorem dX6_isOfKind_52 : decode cX6_isOfKind 52 = .ok (.instanceof 208, 3) := by decide +kernel
theorem dX6_isOfKind_55 : decode cX6_isOfKind 55 = .ok (.ireturn, 1) := by decide +kernel
theorem dX6_isOfKind_56 : decode cX6_isOfKind 56 = .ok (.aload_n 0, 1) := by decide +kernel
theorem dX6_isOfKind_57 : decode cX6_isOfKind 57 = .ok (.instanceof 211, 3) := by decide +kernel
theorem dX6_isOfKind_60 : decode cX6_isOfKind 60 = .ok (.ireturn, 1) := by decide +kernel
theorem dX6_isOfKind_61 : decode cX6_isOfKind 61 = .ok (.aload_n 0, 1) := by decide +kernel
theorem dX6_isOfKind_62 : decode cX6_isOfKind 62 = .ok (.instanceof 214, 3) := by decide +kernel
theorem dX6_isOfKind_65 : decode cX6_isOfKind 65 = .ok (.ireturn, 1) := by decide +kernel
theorem dX6_isOfKind_66 : decode cX6_isOfKind 66 = .ok (.iconst 0, 1) := by decide +kernel
theorem dX6_isOfKind_67 : decode cX6_isOfKind 67 = .ok (.ireturn, 1) := by decide +kernel
set_option maxRecDepth 20000 in
theorem ggX6_firstWorth_X6_find : GoodIn wsX6_firstWorth wsX6_find := goodIn_r _ [5, 6, 7, 48, 49, 50, 51, 52, 53, 54, 55, 56, 57, 58, 59] (by decide +kernel) (by decide +kernel)
set_option maxRecDepth 20000 in
theorem gX6_firstWorth_X6_find : GoodIn wsX6_firstWorth (wsV RX6 75 RX6 yX6_find wsX6_find) := goodIn_app (goodIn_of _ (by decide +kernel)) ggX6_firstWorth_X6_find
set_option maxRecDepth 20000 in
theorem ggX6_firstWorth_X3_firstWorthIn : GoodIn wsX6_firstWorth wsX3_firstWorthIn := goodIn_r _ [13, 14, 15, 16, 17, 18, 12, 19, 20, 21, 22, 23, 24, 25, 60, 61, 62, 63, 64, 65, 66, 67, 68, 69, 70, 71, 72, 73, 74] (by decide +kernel) (by decide +kernel)
set_option maxRecDepth 20000 in
theorem gX6_firstWorth_X3_firstWorthIn_u218X0 : GoodIn wsX6_firstWorth (va_wsU RX6 218 RX0 "JamDays$Jar" ⟨"JamDays$Jar", "firstWorthIn", "(I)I"⟩ yX3_firstWorthIn wsX3_firstWorthIn) := goodIn_app (goodIn_of _ (by decide +kernel)) ggX6_firstWorth_X3_firstWorthIn
set_option maxRecDepth 20000 in
theorem ggX6_firstWorth_X2_firstWorthIn : GoodIn wsX6_firstWorth wsX2_firstWorthIn := goodIn_r _ [30, 31, 32, 33, 34, 35, 18, 12, 19, 20, 60, 61, 62, 63, 64, 65, 66, 67, 68, 69, 70, 71, 72, 73, 74] (by decide +kernel) (by decide +kernel)
set_option maxRecDepth 20000 in
theorem gX6_firstWorth_X2_firstWorthIn_u218X2 : GoodIn wsX6_firstWorth (va_wsO RX6 218 RX2 "JamDays$Jar" ⟨"JamDays$Jar", "firstWorthIn", "(I)I"⟩ yX2_firstWorthIn wsX2_firstWorthIn) := goodIn_app (goodIn_of _ (by decide +kernel)) ggX6_firstWorth_X2_firstWorthIn
set_option maxRecDepth 20000 in
theorem gX6_firstWorth_X3_firstWorthIn : GoodIn wsX6_firstWorth (wsV RX6 218 RX3 yX3_firstWorthIn wsX3_firstWorthIn) := goodIn_app (goodIn_of _ (by decide +kernel)) ggX6_firstWorth_X3_firstWorthIn
set_option maxRecDepth 20000 in
theorem ggX6_firstWorth_X4_firstWorthIn : GoodIn wsX6_firstWorth wsX4_firstWorthIn := goodIn_r _ [41, 42, 43, 44, 45, 46, 18, 12, 19, 20, 60, 61, 62, 63, 64, 65, 66, 67, 68, 69, 70, 71, 72, 73, 74] (by decide +kernel) (by decide +kernel)
set_option maxRecDepth 20000 in
theorem gX6_firstWorth_X4_firstWorthIn_u218X4 : GoodIn wsX6_firstWorth (va_wsO RX6 218 RX4 "JamDays$Jar" ⟨"JamDays$Jar", "firstWorthIn", "(I)I"⟩ yX4_firstWorthIn wsX4_firstWorthIn) := goodIn_app (goodIn_of _ (by decide +kernel)) ggX6_firstWorth_X4_firstWorthIn
set_option maxRecDepth 20000 in
theorem gX6_firstWorth_X3_firstWorthIn_u218X5 : GoodIn wsX6_firstWorth (va_wsU RX6 218 RX5 "JamDays$Jar" ⟨"JamDays$Jar", "firstWorthIn", "(I)I"⟩ yX3_firstWorthIn wsX3_firstWorthIn) := goodIn_app (goodIn_of _ (by decide +kernel)) ggX6_firstWorth_X3_firstWorthIn
theorem dX6_firstWorth_0 : decode cX6_firstWorth 0 = .ok (.aload_n 0, 1) := by decide +kernel
theorem dX6_firstWorth_1 : decode cX6_firstWorth 1 = .ok (.iload_n 1, 1) := by decide +kernel
theorem dX6_firstWorth_2 : decode cX6_firstWorth 2 = .ok (.invokevirtual 75, 3) := by decide +kernel
theorem dX6_firstWorth_5 : decode cX6_firstWorth 5 = .ok (.astore_n 3, 1) := by decide +kernel
theorem dX6_firstWorth_6 : decode cX6_firstWorth 6 = .ok (.aload_n 3, 1) := by decide +kernel
theorem dX6_firstWorth_7 : decode cX6_firstWorth 7 = .ok (.ifnonnull 7, 3) := by decide +kernel
theorem dX6_firstWorth_10 : decode cX6_firstWorth 10 = .ok (.iconst 0, 1) := by decide +kernel
theorem dX6_firstWorth_11 : decode cX6_firstWorth 11 = .ok (.goto 8, 3) := by decide +kernel
theorem dX6_firstWorth_14 : decode cX6_firstWorth 14 = .ok (.aload_n 3, 1) := by decide +kernel
theorem dX6_firstWorth_15 : decode cX6_firstWorth 15 = .ok (.iload_n 2, 1) := by decide +kernel
theorem dX6_firstWorth_16 : decode cX6_firstWorth 16 = .ok (.invokevirtual 218, 3) := by decide +kernel
theorem dX6_firstWorth_19 : decode cX6_firstWorth 19 = .ok (.ireturn, 1) := by decide +kernel
set_option maxRecDepth 20000 in
theorem ggX6_nextWorth_X6_firstWorth : GoodIn wsX6_nextWorth wsX6_firstWorth := goodIn_r _ [7, 8, 9, 10, 6, 11, 12, 13, 14, 15, 16, 17, 18, 19, 20, 21, 22, 23, 24, 25, 26, 27, 28, 29, 30, 31, 32, 33, 34, 35, 36, 37, 38, 39, 40, 41, 42, 43, 44, 45, 46, 47, 48, 49, 50, 51, 52, 53, 60, 61, 62, 63, 64, 65, 66, 67, 68, 69, 70, 71, 81, 82, 83, 84, 85, 86, 87, 88, 89, 90, 91, 92, 93, 94, 95] (by decide +kernel) (by decide +kernel)
set_option maxRecDepth 20000 in
theorem gX6_nextWorth_X6_firstWorth : GoodIn wsX6_nextWorth (wsV RX6 114 RX6 yX6_firstWorth wsX6_firstWorth) := goodIn_app (goodIn_of _ (by decide +kernel)) ggX6_nextWorth_X6_firstWorth
set_option maxRecDepth 20000 in
theorem ggX6_nextWorth_X1_eatenNowOf : GoodIn wsX6_nextWorth wsX1_eatenNowOf := goodIn_r _ [58, 59, 72, 73, 74, 75, 76, 77, 78, 79, 80] (by decide +kernel) (by decide +kernel)
set_option maxRecDepth 20000 in
theorem gX6_nextWorth_X1_eatenNowOf : GoodIn wsX6_nextWorth (wsV RX6 100 RX1 yX1_eatenNowOf wsX1_eatenNowOf) := goodIn_app (goodIn_of _ (by decide +kernel)) ggX6_nextWorth_X1_eatenNowOf
theorem dX6_nextWorth_0 : decode cX6_nextWorth 0 = .ok (.aload_n 0, 1) := by decide +kernel
theorem dX6_nextWorth_1 : decode cX6_nextWorth 1 = .ok (.iload_n 1, 1) := by decide +kernel
theorem dX6_nextWorth_2 : decode cX6_nextWorth 2 = .ok (.aload_n 0, 1) := by decide +kernel
theorem dX6_nextWorth_3 : decode cX6_nextWorth 3 = .ok (.getfield 29, 3) := by decide +kernel
theorem dX6_nextWorth_6 : decode cX6_nextWorth 6 = .ok (.getfield 91, 3) := by decide +kernel
theorem dX6_nextWorth_9 : decode cX6_nextWorth 9 = .ok (.invokevirtual 114, 3) := by decide +kernel
theorem dX6_nextWorth_12 : decode cX6_nextWorth 12 = .ok (.aload_n 0, 1) := by decide +kernel
theorem dX6_nextWorth_13 : decode cX6_nextWorth 13 = .ok (.getfield 29, 3) := by decide +kernel
theorem dX6_nextWorth_16 : decode cX6_nextWorth 16 = .ok (.iload_n 1, 1) := by decide +kernel
theorem dX6_nextWorth_17 : decode cX6_nextWorth 17 = .ok (.invokevirtual 100, 3) := by decide +kernel
theorem dX6_nextWorth_20 : decode cX6_nextWorth 20 = .ok (.isub, 1) := by decide +kernel
theorem dX6_nextWorth_21 : decode cX6_nextWorth 21 = .ok (.ireturn, 1) := by decide +kernel
set_option maxRecDepth 20000 in
theorem ggX6_yearsToBest_X6_firstWorth : GoodIn wsX6_yearsToBest wsX6_firstWorth := goodIn_r _ [7, 8, 9, 10, 6, 11, 12, 13, 14, 15, 16, 17, 18, 19, 20, 21, 22, 23, 24, 25, 26, 27, 28, 29, 30, 31, 32, 33, 34, 35, 36, 37, 38, 39, 40, 41, 42, 43, 44, 45, 46, 47, 48, 49, 50, 51, 52, 53, 54, 55, 56, 57, 58, 59, 60, 61, 62, 63, 64, 65, 75, 76, 77, 78, 79, 80, 81, 82, 83, 84, 85, 86, 87, 88, 89] (by decide +kernel) (by decide +kernel)
set_option maxRecDepth 20000 in
theorem gX6_yearsToBest_X6_firstWorth : GoodIn wsX6_yearsToBest (wsV RX6 114 RX6 yX6_firstWorth wsX6_firstWorth) := goodIn_app (goodIn_of _ (by decide +kernel)) ggX6_yearsToBest_X6_firstWorth
theorem dX6_yearsToBest_0 : decode cX6_yearsToBest 0 = .ok (.iconst 0, 1) := by decide +kernel
theorem dX6_yearsToBest_1 : decode cX6_yearsToBest 1 = .ok (.istore_n 2, 1) := by decide +kernel
theorem dX6_yearsToBest_2 : decode cX6_yearsToBest 2 = .ok (.iconst 1, 1) := by decide +kernel
theorem dX6_yearsToBest_3 : decode cX6_yearsToBest 3 = .ok (.istore_n 3, 1) := by decide +kernel
theorem dX6_yearsToBest_4 : decode cX6_yearsToBest 4 = .ok (.iload_n 3, 1) := by decide +kernel
theorem dX6_yearsToBest_5 : decode cX6_yearsToBest 5 = .ok (.bipush 10, 2) := by decide +kernel
theorem dX6_yearsToBest_7 : decode cX6_yearsToBest 7 = .ok (.if_icmp .ge 42, 3) := by decide +kernel
theorem dX6_yearsToBest_10 : decode cX6_yearsToBest 10 = .ok (.aload_n 0, 1) := by decide +kernel
theorem dX6_yearsToBest_11 : decode cX6_yearsToBest 11 = .ok (.iload_n 1, 1) := by decide +kernel
theorem dX6_yearsToBest_12 : decode cX6_yearsToBest 12 = .ok (.aload_n 0, 1) := by decide +kernel
theorem dX6_yearsToBest_13 : decode cX6_yearsToBest 13 = .ok (.getfield 29, 3) := by decide +kernel
theorem dX6_yearsToBest_16 : decode cX6_yearsToBest 16 = .ok (.getfield 91, 3) := by decide +kernel
theorem dX6_yearsToBest_19 : decode cX6_yearsToBest 19 = .ok (.iload_n 3, 1) := by decide +kernel
theorem dX6_yearsToBest_20 : decode cX6_yearsToBest 20 = .ok (.iadd, 1) := by decide +kernel
theorem dX6_yearsToBest_21 : decode cX6_yearsToBest 21 = .ok (.invokevirtual 114, 3) := by decide +kernel
theorem dX6_yearsToBest_24 : decode cX6_yearsToBest 24 = .ok (.aload_n 0, 1) := by decide +kernel
theorem dX6_yearsToBest_25 : decode cX6_yearsToBest 25 = .ok (.iload_n 1, 1) := by decide +kernel
theorem dX6_yearsToBest_26 : decode cX6_yearsToBest 26 = .ok (.aload_n 0, 1) := by decide +kernel
theorem dX6_yearsToBest_27 : decode cX6_yearsToBest 27 = .ok (.getfield 29, 3) := by decide +kernel
theorem dX6_yearsToBest_30 : decode cX6_yearsToBest 30 = .ok (.getfield 91, 3) := by decide +kernel
theorem dX6_yearsToBest_33 : decode cX6_yearsToBest 33 = .ok (.iload_n 2, 1) := by decide +kernel
theorem dX6_yearsToBest_34 : decode cX6_yearsToBest 34 = .ok (.iadd, 1) := by decide +kernel
theorem dX6_yearsToBest_35 : decode cX6_yearsToBest 35 = .ok (.invokevirtual 114, 3) := by decide +kernel
theorem dX6_yearsToBest_38 : decode cX6_yearsToBest 38 = .ok (.if_icmp .le 5, 3) := by decide +kernel
theorem dX6_yearsToBest_41 : decode cX6_yearsToBest 41 = .ok (.iload_n 3, 1) := by decide +kernel
theorem dX6_yearsToBest_42 : decode cX6_yearsToBest 42 = .ok (.istore_n 2, 1) := by decide +kernel
theorem dX6_yearsToBest_43 : decode cX6_yearsToBest 43 = .ok (.iinc 3 1, 3) := by decide +kernel
theorem dX6_yearsToBest_46 : decode cX6_yearsToBest 46 = .ok (.goto (-42), 3) := by decide +kernel
theorem dX6_yearsToBest_49 : decode cX6_yearsToBest 49 = .ok (.iload_n 2, 1) := by decide +kernel
theorem dX6_yearsToBest_50 : decode cX6_yearsToBest 50 = .ok (.ireturn, 1) := by decide +kernel
set_option maxRecDepth 20000 in
theorem ggX6_emptyJars_X1_spoonsOf : GoodIn wsX6_emptyJars wsX1_spoonsOf := goodIn_r _ [7, 8, 21, 22, 23, 24, 25, 26, 27, 28, 29] (by decide +kernel) (by decide +kernel)
set_option maxRecDepth 20000 in
theorem gX6_emptyJars_X1_spoonsOf : GoodIn wsX6_emptyJars (wsV RX6 88 RX1 yX1_spoonsOf wsX1_spoonsOf) := goodIn_app (goodIn_of _ (by decide +kernel)) ggX6_emptyJars_X1_spoonsOf
theorem dX6_emptyJars_0 : decode cX6_emptyJars 0 = .ok (.iconst 0, 1) := by decide +kernel
theorem dX6_emptyJars_1 : decode cX6_emptyJars 1 = .ok (.istore_n 1, 1) := by decide +kernel
theorem dX6_emptyJars_2 : decode cX6_emptyJars 2 = .ok (.iconst 0, 1) := by decide +kernel
theorem dX6_emptyJars_3 : decode cX6_emptyJars 3 = .ok (.istore_n 2, 1) := by decide +kernel
theorem dX6_emptyJars_4 : decode cX6_emptyJars 4 = .ok (.iload_n 2, 1) := by decide +kernel
theorem dX6_emptyJars_5 : decode cX6_emptyJars 5 = .ok (.aload_n 0, 1) := by decide +kernel
theorem dX6_emptyJars_6 : decode cX6_emptyJars 6 = .ok (.getfield 23, 3) := by decide +kernel
theorem dX6_emptyJars_9 : decode cX6_emptyJars 9 = .ok (.if_icmp .ge 23, 3) := by decide +kernel
theorem dX6_emptyJars_12 : decode cX6_emptyJars 12 = .ok (.aload_n 0, 1) := by decide +kernel
theorem dX6_emptyJars_13 : decode cX6_emptyJars 13 = .ok (.getfield 29, 3) := by decide +kernel
theorem dX6_emptyJars_16 : decode cX6_emptyJars 16 = .ok (.iload_n 2, 1) := by decide +kernel
theorem dX6_emptyJars_17 : decode cX6_emptyJars 17 = .ok (.invokevirtual 88, 3) := by decide +kernel
theorem dX6_emptyJars_20 : decode cX6_emptyJars 20 = .ok (.ifCond .ne 6, 3) := by decide +kernel
theorem dX6_emptyJars_23 : decode cX6_emptyJars 23 = .ok (.iinc 1 1, 3) := by decide +kernel
theorem dX6_emptyJars_26 : decode cX6_emptyJars 26 = .ok (.iinc 2 1, 3) := by decide +kernel
theorem dX6_emptyJars_29 : decode cX6_emptyJars 29 = .ok (.goto (-25), 3) := by decide +kernel
theorem dX6_emptyJars_32 : decode cX6_emptyJars 32 = .ok (.iload_n 1, 1) := by decide +kernel
theorem dX6_emptyJars_33 : decode cX6_emptyJars 33 = .ok (.ireturn, 1) := by decide +kernel
set_option maxRecDepth 20000 in
theorem ggX6_liveOn_X1_copyFrom : GoodIn wsX6_liveOn wsX1_copyFrom := goodIn_r _ [8, 9, 10, 11, 12, 13, 14, 15, 16, 17, 112, 113, 114, 115, 116, 117, 118, 119, 120] (by decide +kernel) (by decide +kernel)
set_option maxRecDepth 20000 in
theorem gX6_liveOn_X1_copyFrom : GoodIn wsX6_liveOn (wsV RX6 161 RX1 yX1_copyFrom wsX1_copyFrom) := goodIn_app (goodIn_of _ (by decide +kernel)) ggX6_liveOn_X1_copyFrom
set_option maxRecDepth 20000 in
theorem ggX6_liveOn_X6_nextSeed : GoodIn wsX6_liveOn wsX6_nextSeed := goodIn_r _ [21, 22, 23, 24] (by decide +kernel) (by decide +kernel)
set_option maxRecDepth 20000 in
theorem gX6_liveOn_X6_nextSeed : GoodIn wsX6_liveOn (va_wsS RX6 261 yX6_nextSeed wsX6_nextSeed) := goodIn_app (goodIn_of _ (by decide +kernel)) ggX6_liveOn_X6_nextSeed
set_option maxRecDepth 20000 in
theorem ggX6_liveOn_X6_draw : GoodIn wsX6_liveOn wsX6_draw := goodIn_r _ [28, 29, 30, 100, 101, 102, 103, 104, 105, 106, 107, 108, 109, 110, 111] (by decide +kernel) (by decide +kernel)
set_option maxRecDepth 20000 in
theorem gX6_liveOn_X6_draw : GoodIn wsX6_liveOn (wsV RX6 264 RX6 yX6_draw wsX6_draw) := goodIn_app (goodIn_of _ (by decide +kernel)) ggX6_liveOn_X6_draw
set_option maxRecDepth 20000 in
theorem ggX6_liveOn_X1_loseSpoon : GoodIn wsX6_liveOn wsX1_loseSpoon := goodIn_r _ [34, 14, 11, 35, 36, 37, 7, 38, 112, 113, 114, 115, 116, 117, 118, 119, 120] (by decide +kernel) (by decide +kernel)
set_option maxRecDepth 20000 in
theorem gX6_liveOn_X1_loseSpoon : GoodIn wsX6_liveOn (wsV RX6 121 RX1 yX1_loseSpoon wsX1_loseSpoon) := goodIn_app (goodIn_of _ (by decide +kernel)) ggX6_liveOn_X1_loseSpoon
set_option maxRecDepth 20000 in
theorem ggX6_liveOn_X6_firstWorth : GoodIn wsX6_liveOn wsX6_firstWorth := goodIn_r _ [42, 43, 44, 45, 20, 46, 29, 47, 48, 49, 50, 51, 52, 53, 54, 55, 56, 57, 58, 59, 60, 61, 62, 63, 64, 65, 66, 67, 68, 69, 70, 71, 72, 73, 74, 75, 76, 77, 78, 79, 80, 81, 82, 83, 84, 85, 86, 87, 100, 101, 102, 103, 104, 105, 106, 107, 108, 109, 110, 111, 121, 122, 123, 124, 125, 126, 127, 128, 129, 130, 131, 132, 133, 134, 135] (by decide +kernel) (by decide +kernel)
set_option maxRecDepth 20000 in
theorem gX6_liveOn_X6_firstWorth : GoodIn wsX6_liveOn (wsV RX6 114 RX6 yX6_firstWorth wsX6_firstWorth) := goodIn_app (goodIn_of _ (by decide +kernel)) ggX6_liveOn_X6_firstWorth
set_option maxRecDepth 20000 in
theorem ggX6_liveOn_X1_eatenNowOf : GoodIn wsX6_liveOn wsX1_eatenNowOf := goodIn_r _ [91, 15, 112, 113, 114, 115, 116, 117, 118, 119, 120] (by decide +kernel) (by decide +kernel)
set_option maxRecDepth 20000 in
theorem gX6_liveOn_X1_eatenNowOf : GoodIn wsX6_liveOn (wsV RX6 100 RX1 yX1_eatenNowOf wsX1_eatenNowOf) := goodIn_app (goodIn_of _ (by decide +kernel)) ggX6_liveOn_X1_eatenNowOf
set_option maxRecDepth 20000 in
theorem ggX6_liveOn_X1_eatSpoon : GoodIn wsX6_liveOn wsX1_eatSpoon := goodIn_r _ [95, 14, 15, 10, 12, 35, 36, 37, 7, 38, 112, 113, 114, 115, 116, 117, 118, 119, 120] (by decide +kernel) (by decide +kernel)
set_option maxRecDepth 20000 in
theorem gX6_liveOn_X1_eatSpoon : GoodIn wsX6_liveOn (wsV RX6 118 RX1 yX1_eatSpoon wsX1_eatSpoon) := goodIn_app (goodIn_of _ (by decide +kernel)) ggX6_liveOn_X1_eatSpoon
set_option maxRecDepth 20000 in
theorem ggX6_liveOn_X1_passYear : GoodIn wsX6_liveOn wsX1_passYear := goodIn_r _ [99, 9, 15, 112, 113, 114, 115, 116, 117, 118, 119, 120] (by decide +kernel) (by decide +kernel)
set_option maxRecDepth 20000 in
theorem gX6_liveOn_X1_passYear : GoodIn wsX6_liveOn (wsV RX6 127 RX1 yX1_passYear wsX1_passYear) := goodIn_app (goodIn_of _ (by decide +kernel)) ggX6_liveOn_X1_passYear
theorem dX6_liveOn_0 : decode cX6_liveOn 0 = .ok (.iload_n 2, 1) := by decide +kernel
theorem dX6_liveOn_1 : decode cX6_liveOn 1 = .ok (.istore_n 3, 1) := by decide +kernel
theorem dX6_liveOn_2 : decode cX6_liveOn 2 = .ok (.aload_n 0, 1) := by decide +kernel
theorem dX6_liveOn_3 : decode cX6_liveOn 3 = .ok (.getfield 36, 3) := by decide +kernel
theorem dX6_liveOn_6 : decode cX6_liveOn 6 = .ok (.aload_n 0, 1) := by decide +kernel
theorem dX6_liveOn_7 : decode cX6_liveOn 7 = .ok (.getfield 29, 3) := by decide +kernel
theorem dX6_liveOn_10 : decode cX6_liveOn 10 = .ok (.invokevirtual 161, 3) := by decide +kernel
theorem dX6_liveOn_13 : decode cX6_liveOn 13 = .ok (.iconst 0, 1) := by decide +kernel
theorem dX6_liveOn_14 : decode cX6_liveOn 14 = .ok (.istore 4, 2) := by decide +kernel
theorem dX6_liveOn_16 : decode cX6_liveOn 16 = .ok (.iload 4, 2) := by decide +kernel
theorem dX6_liveOn_18 : decode cX6_liveOn 18 = .ok (.iload_n 1, 1) := by decide +kernel
theorem dX6_liveOn_19 : decode cX6_liveOn 19 = .ok (.if_icmp .ge 79, 3) := by decide +kernel
theorem dX6_liveOn_22 : decode cX6_liveOn 22 = .ok (.iload_n 3, 1) := by decide +kernel
theorem dX6_liveOn_23 : decode cX6_liveOn 23 = .ok (.invokestatic 261, 3) := by decide +kernel
theorem dX6_liveOn_26 : decode cX6_liveOn 26 = .ok (.istore_n 3, 1) := by decide +kernel
theorem dX6_liveOn_27 : decode cX6_liveOn 27 = .ok (.aload_n 0, 1) := by decide +kernel
theorem dX6_liveOn_28 : decode cX6_liveOn 28 = .ok (.getfield 36, 3) := by decide +kernel
theorem dX6_liveOn_31 : decode cX6_liveOn 31 = .ok (.aload_n 0, 1) := by decide +kernel
theorem dX6_liveOn_32 : decode cX6_liveOn 32 = .ok (.iload_n 3, 1) := by decide +kernel
theorem dX6_liveOn_33 : decode cX6_liveOn 33 = .ok (.invokevirtual 264, 3) := by decide +kernel
theorem dX6_liveOn_36 : decode cX6_liveOn 36 = .ok (.invokevirtual 121, 3) := by decide +kernel
theorem dX6_liveOn_39 : decode cX6_liveOn 39 = .ok (.pop, 1) := by decide +kernel
theorem dX6_liveOn_40 : decode cX6_liveOn 40 = .ok (.iload_n 3, 1) := by decide +kernel
theorem dX6_liveOn_41 : decode cX6_liveOn 41 = .ok (.invokestatic 261, 3) := by decide +kernel
theorem dX6_liveOn_44 : decode cX6_liveOn 44 = .ok (.istore_n 3, 1) := by decide +kernel
theorem dX6_liveOn_45 : decode cX6_liveOn 45 = .ok (.aload_n 0, 1) := by decide +kernel
theorem dX6_liveOn_46 : decode cX6_liveOn 46 = .ok (.iload_n 3, 1) := by decide +kernel
theorem dX6_liveOn_47 : decode cX6_liveOn 47 = .ok (.invokevirtual 264, 3) := by decide +kernel
theorem dX6_liveOn_50 : decode cX6_liveOn 50 = .ok (.istore 5, 2) := by decide +kernel
theorem dX6_liveOn_52 : decode cX6_liveOn 52 = .ok (.aload_n 0, 1) := by decide +kernel
theorem dX6_liveOn_53 : decode cX6_liveOn 53 = .ok (.getfield 36, 3) := by decide +kernel
theorem dX6_liveOn_56 : decode cX6_liveOn 56 = .ok (.iload 5, 2) := by decide +kernel
theorem dX6_liveOn_58 : decode cX6_liveOn 58 = .ok (.aload_n 0, 1) := by decide +kernel
theorem dX6_liveOn_59 : decode cX6_liveOn 59 = .ok (.iload 5, 2) := by decide +kernel
theorem dX6_liveOn_61 : decode cX6_liveOn 61 = .ok (.aload_n 0, 1) := by decide +kernel
theorem dX6_liveOn_62 : decode cX6_liveOn 62 = .ok (.getfield 36, 3) := by decide +kernel
theorem dX6_liveOn_65 : decode cX6_liveOn 65 = .ok (.getfield 91, 3) := by decide +kernel
theorem dX6_liveOn_68 : decode cX6_liveOn 68 = .ok (.invokevirtual 114, 3) := by decide +kernel
theorem dX6_liveOn_71 : decode cX6_liveOn 71 = .ok (.aload_n 0, 1) := by decide +kernel
theorem dX6_liveOn_72 : decode cX6_liveOn 72 = .ok (.getfield 36, 3) := by decide +kernel
theorem dX6_liveOn_75 : decode cX6_liveOn 75 = .ok (.iload 5, 2) := by decide +kernel
theorem dX6_liveOn_77 : decode cX6_liveOn 77 = .ok (.invokevirtual 100, 3) := by decide +kernel
theorem dX6_liveOn_80 : decode cX6_liveOn 80 = .ok (.isub, 1) := by decide +kernel
theorem dX6_liveOn_81 : decode cX6_liveOn 81 = .ok (.invokevirtual 118, 3) := by decide +kernel
theorem dX6_liveOn_84 : decode cX6_liveOn 84 = .ok (.pop, 1) := by decide +kernel
theorem dX6_liveOn_85 : decode cX6_liveOn 85 = .ok (.aload_n 0, 1) := by decide +kernel
theorem dX6_liveOn_86 : decode cX6_liveOn 86 = .ok (.getfield 36, 3) := by decide +kernel
theorem dX6_liveOn_89 : decode cX6_liveOn 89 = .ok (.invokevirtual 127, 3) := by decide +kernel
theorem dX6_liveOn_92 : decode cX6_liveOn 92 = .ok (.iinc 4 1, 3) := by decide +kernel
theorem dX6_liveOn_95 : decode cX6_liveOn 95 = .ok (.goto (-79), 3) := by decide +kernel
theorem dX6_liveOn_98 : decode cX6_liveOn 98 = .ok (.iload_n 3, 1) := by decide +kernel
theorem dX6_liveOn_99 : decode cX6_liveOn 99 = .ok (.ireturn, 1) := by decide +kernel
theorem dX6_nextSeed_0 : decode cX6_nextSeed 0 = .ok (.ldc2_w 267, 3) := by decide +kernel
theorem dX6_nextSeed_3 : decode cX6_nextSeed 3 = .ok (.iload_n 0, 1) := by decide +kernel
theorem dX6_nextSeed_4 : decode cX6_nextSeed 4 = .ok (.i2l, 1) := by decide +kernel
theorem dX6_nextSeed_5 : decode cX6_nextSeed 5 = .ok (.lmul, 1) := by decide +kernel
theorem dX6_nextSeed_6 : decode cX6_nextSeed 6 = .ok (.ldc2_w 269, 3) := by decide +kernel
theorem dX6_nextSeed_9 : decode cX6_nextSeed 9 = .ok (.ladd, 1) := by decide +kernel
theorem dX6_nextSeed_10 : decode cX6_nextSeed 10 = .ok (.ldc2_w 271, 3) := by decide +kernel
theorem dX6_nextSeed_13 : decode cX6_nextSeed 13 = .ok (.lrem, 1) := by decide +kernel
theorem dX6_nextSeed_14 : decode cX6_nextSeed 14 = .ok (.l2i, 1) := by decide +kernel
theorem dX6_nextSeed_15 : decode cX6_nextSeed 15 = .ok (.ireturn, 1) := by decide +kernel
theorem dX6_draw_0 : decode cX6_draw 0 = .ok (.aload_n 0, 1) := by decide +kernel
theorem dX6_draw_1 : decode cX6_draw 1 = .ok (.getfield 23, 3) := by decide +kernel
theorem dX6_draw_4 : decode cX6_draw 4 = .ok (.ifCond .le 19, 3) := by decide +kernel
theorem dX6_draw_7 : decode cX6_draw 7 = .ok (.iload_n 1, 1) := by decide +kernel
theorem dX6_draw_8 : decode cX6_draw 8 = .ok (.i2l, 1) := by decide +kernel
theorem dX6_draw_9 : decode cX6_draw 9 = .ok (.ldc2_w 273, 3) := by decide +kernel
theorem dX6_draw_12 : decode cX6_draw 12 = .ok (.ldiv, 1) := by decide +kernel
theorem dX6_draw_13 : decode cX6_draw 13 = .ok (.aload_n 0, 1) := by decide +kernel
theorem dX6_draw_14 : decode cX6_draw 14 = .ok (.getfield 23, 3) := by decide +kernel
theorem dX6_draw_17 : decode cX6_draw 17 = .ok (.i2l, 1) := by decide +kernel
theorem dX6_draw_18 : decode cX6_draw 18 = .ok (.lrem, 1) := by decide +kernel
theorem dX6_draw_19 : decode cX6_draw 19 = .ok (.l2i, 1) := by decide +kernel
theorem dX6_draw_20 : decode cX6_draw 20 = .ok (.goto 4, 3) := by decide +kernel
theorem dX6_draw_23 : decode cX6_draw 23 = .ok (.iconst 0, 1) := by decide +kernel
theorem dX6_draw_24 : decode cX6_draw 24 = .ok (.ireturn, 1) := by decide +kernel
theorem dJ9_max_7cf53_0 : decode cJ9_max_7cf53 0 = .ok (.iload_n 0, 1) := by decide +kernel
theorem dJ9_max_7cf53_1 : decode cJ9_max_7cf53 1 = .ok (.iload_n 1, 1) := by decide +kernel
theorem dJ9_max_7cf53_2 : decode cJ9_max_7cf53 2 = .ok (.if_icmp .lt 7, 3) := by decide +kernel
theorem dJ9_max_7cf53_5 : decode cJ9_max_7cf53 5 = .ok (.iload_n 0, 1) := by decide +kernel
theorem dJ9_max_7cf53_6 : decode cJ9_max_7cf53 6 = .ok (.goto 4, 3) := by decide +kernel
theorem dJ9_max_7cf53_9 : decode cJ9_max_7cf53 9 = .ok (.iload_n 1, 1) := by decide +kernel
theorem dJ9_max_7cf53_10 : decode cJ9_max_7cf53 10 = .ok (.ireturn, 1) := by decide +kernel
theorem dL_cell_0 : decode cL_cell 0 = .ok (.iload_n 1, 1) := by decide +kernel
theorem dL_cell_1 : decode cL_cell 1 = .ok (.aload_n 0, 1) := by decide +kernel
theorem dL_cell_2 : decode cL_cell 2 = .ok (.arraylength, 1) := by decide +kernel
theorem dL_cell_3 : decode cL_cell 3 = .ok (.if_icmp .ge 9, 3) := by decide +kernel
theorem dL_cell_6 : decode cL_cell 6 = .ok (.aload_n 0, 1) := by decide +kernel
theorem dL_cell_7 : decode cL_cell 7 = .ok (.iload_n 1, 1) := by decide +kernel
theorem dL_cell_8 : decode cL_cell 8 = .ok (.iaload, 1) := by decide +kernel
theorem dL_cell_9 : decode cL_cell 9 = .ok (.goto 9, 3) := by decide +kernel
theorem dL_cell_12 : decode cL_cell 12 = .ok (.ldc 7, 2) := by decide +kernel
theorem dL_cell_14 : decode cL_cell 14 = .ok (.iload_n 1, 1) := by decide +kernel
theorem dL_cell_15 : decode cL_cell 15 = .ok (.iconst 1, 1) := by decide +kernel
theorem dL_cell_16 : decode cL_cell 16 = .ok (.iadd, 1) := by decide +kernel
theorem dL_cell_17 : decode cL_cell 17 = .ok (.imul, 1) := by decide +kernel
theorem dL_cell_18 : decode cL_cell 18 = .ok (.ireturn, 1) := by decide +kernel
theorem dL_at_0 : decode cL_at 0 = .ok (.iload_n 0, 1) := by decide +kernel
theorem dL_at_1 : decode cL_at 1 = .ok (.iconst 1, 1) := by decide +kernel
theorem dL_at_2 : decode cL_at 2 = .ok (.iushr, 1) := by decide +kernel
theorem dL_at_3 : decode cL_at 3 = .ok (.iload_n 1, 1) := by decide +kernel
theorem dL_at_4 : decode cL_at 4 = .ok (.irem, 1) := by decide +kernel
theorem dL_at_5 : decode cL_at 5 = .ok (.ireturn, 1) := by decide +kernel
set_option maxRecDepth 20000 in
theorem ggL_larderText_L_at : GoodIn wsL_larderText wsL_at := goodIn_r _ [4] (by decide +kernel) (by decide +kernel)
set_option maxRecDepth 20000 in
theorem gL_larderText_L_at : GoodIn wsL_larderText (va_wsS RL 8 yL_at wsL_at) := goodIn_app (goodIn_of _ (by decide +kernel)) ggL_larderText_L_at
theorem dL_larderText_0 : decode cL_larderText 0 = .ok (.iconst 0, 1) := by decide +kernel
theorem dL_larderText_1 : decode cL_larderText 1 = .ok (.istore 5, 2) := by decide +kernel
theorem dL_larderText_3 : decode cL_larderText 3 = .ok (.aload_n 3, 1) := by decide +kernel
theorem dL_larderText_4 : decode cL_larderText 4 = .ok (.iconst 0, 1) := by decide +kernel
theorem dL_larderText_5 : decode cL_larderText 5 = .ok (.iconst 2, 1) := by decide +kernel
theorem dL_larderText_6 : decode cL_larderText 6 = .ok (.iload_n 0, 1) := by decide +kernel
theorem dL_larderText_7 : decode cL_larderText 7 = .ok (.iconst 5, 1) := by decide +kernel
theorem dL_larderText_8 : decode cL_larderText 8 = .ok (.invokestatic 8, 3) := by decide +kernel
theorem dL_larderText_11 : decode cL_larderText 11 = .ok (.iadd, 1) := by decide +kernel
theorem dL_larderText_12 : decode cL_larderText 12 = .ok (.iastore, 1) := by decide +kernel
theorem dL_larderText_13 : decode cL_larderText 13 = .ok (.iconst 0, 1) := by decide +kernel
theorem dL_larderText_14 : decode cL_larderText 14 = .ok (.istore 6, 2) := by decide +kernel
theorem dL_larderText_16 : decode cL_larderText 16 = .ok (.iload 6, 2) := by decide +kernel
theorem dL_larderText_18 : decode cL_larderText 18 = .ok (.aload_n 3, 1) := by decide +kernel
theorem dL_larderText_19 : decode cL_larderText 19 = .ok (.iconst 0, 1) := by decide +kernel
theorem dL_larderText_20 : decode cL_larderText 20 = .ok (.iaload, 1) := by decide +kernel
theorem dL_larderText_21 : decode cL_larderText 21 = .ok (.if_icmp .ge 183, 3) := by decide +kernel
theorem dL_larderText_24 : decode cL_larderText 24 = .ok (.aload_n 3, 1) := by decide +kernel
theorem dL_larderText_25 : decode cL_larderText 25 = .ok (.iconst 1, 1) := by decide +kernel
theorem dL_larderText_26 : decode cL_larderText 26 = .ok (.iload 6, 2) := by decide +kernel
theorem dL_larderText_28 : decode cL_larderText 28 = .ok (.iadd, 1) := by decide +kernel
theorem dL_larderText_29 : decode cL_larderText 29 = .ok (.iload_n 0, 1) := by decide +kernel
theorem dL_larderText_30 : decode cL_larderText 30 = .ok (.iconst 3, 1) := by decide +kernel
theorem dL_larderText_31 : decode cL_larderText 31 = .ok (.iconst 3, 1) := by decide +kernel
theorem dL_larderText_32 : decode cL_larderText 32 = .ok (.iload 6, 2) := by decide +kernel
theorem dL_larderText_34 : decode cL_larderText 34 = .ok (.imul, 1) := by decide +kernel
theorem dL_larderText_35 : decode cL_larderText 35 = .ok (.iadd, 1) := by decide +kernel
theorem dL_larderText_36 : decode cL_larderText 36 = .ok (.ishr, 1) := by decide +kernel
theorem dL_larderText_37 : decode cL_larderText 37 = .ok (.iconst 5, 1) := by decide +kernel
theorem dL_larderText_38 : decode cL_larderText 38 = .ok (.invokestatic 8, 3) := by decide +kernel
theorem dL_larderText_41 : decode cL_larderText 41 = .ok (.iastore, 1) := by decide +kernel
theorem dL_larderText_42 : decode cL_larderText 42 = .ok (.aload_n 3, 1) := by decide +kernel
theorem dL_larderText_43 : decode cL_larderText 43 = .ok (.bipush 7, 2) := by decide +kernel
theorem dL_larderText_45 : decode cL_larderText 45 = .ok (.iload 6, 2) := by decide +kernel
theorem dL_larderText_47 : decode cL_larderText 47 = .ok (.iadd, 1) := by decide +kernel
theorem dL_larderText_48 : decode cL_larderText 48 = .ok (.iload_n 1, 1) := by decide +kernel
theorem dL_larderText_49 : decode cL_larderText 49 = .ok (.iconst 4, 1) := by decide +kernel
theorem dL_larderText_50 : decode cL_larderText 50 = .ok (.iload 6, 2) := by decide +kernel
theorem dL_larderText_52 : decode cL_larderText 52 = .ok (.imul, 1) := by decide +kernel
theorem dL_larderText_53 : decode cL_larderText 53 = .ok (.ishr, 1) := by decide +kernel
theorem dL_larderText_54 : decode cL_larderText 54 = .ok (.bipush 10, 2) := by decide +kernel
theorem dL_larderText_56 : decode cL_larderText 56 = .ok (.invokestatic 8, 3) := by decide +kernel
theorem dL_larderText_59 : decode cL_larderText 59 = .ok (.iastore, 1) := by decide +kernel
theorem dL_larderText_60 : decode cL_larderText 60 = .ok (.aload_n 3, 1) := by decide +kernel
theorem dL_larderText_61 : decode cL_larderText 61 = .ok (.bipush 13, 2) := by decide +kernel
theorem dL_larderText_63 : decode cL_larderText 63 = .ok (.iload 6, 2) := by decide +kernel
theorem dL_larderText_65 : decode cL_larderText 65 = .ok (.iadd, 1) := by decide +kernel
theorem dL_larderText_66 : decode cL_larderText 66 = .ok (.iload_n 2, 1) := by decide +kernel
theorem dL_larderText_67 : decode cL_larderText 67 = .ok (.iconst 4, 1) := by decide +kernel
theorem dL_larderText_68 : decode cL_larderText 68 = .ok (.iload 6, 2) := by decide +kernel
theorem dL_larderText_70 : decode cL_larderText 70 = .ok (.imul, 1) := by decide +kernel
theorem dL_larderText_71 : decode cL_larderText 71 = .ok (.ishr, 1) := by decide +kernel
theorem dL_larderText_72 : decode cL_larderText 72 = .ok (.bipush 10, 2) := by decide +kernel
theorem dL_larderText_74 : decode cL_larderText 74 = .ok (.invokestatic 8, 3) := by decide +kernel
theorem dL_larderText_77 : decode cL_larderText 77 = .ok (.iastore, 1) := by decide +kernel
theorem dL_larderText_78 : decode cL_larderText 78 = .ok (.iload 6, 2) := by decide +kernel
theorem dL_larderText_80 : decode cL_larderText 80 = .ok (.ifCond .le 13, 3) := by decide +kernel
theorem dL_larderText_83 : decode cL_larderText 83 = .ok (.aload 4, 2) := by decide +kernel
theorem dL_larderText_85 : decode cL_larderText 85 = .ok (.iload 5, 2) := by decide +kernel
theorem dL_larderText_87 : decode cL_larderText 87 = .ok (.iinc 5 1, 3) := by decide +kernel
theorem dL_larderText_90 : decode cL_larderText 90 = .ok (.bipush 44, 2) := by decide +kernel
theorem dL_larderText_92 : decode cL_larderText 92 = .ok (.iastore, 1) := by decide +kernel
theorem dL_larderText_93 : decode cL_larderText 93 = .ok (.aload 4, 2) := by decide +kernel
theorem dL_larderText_95 : decode cL_larderText 95 = .ok (.iload 5, 2) := by decide +kernel
theorem dL_larderText_97 : decode cL_larderText 97 = .ok (.iinc 5 1, 3) := by decide +kernel
theorem dL_larderText_100 : decode cL_larderText 100 = .ok (.aload_n 3, 1) := by decide +kernel
theorem dL_larderText_101 : decode cL_larderText 101 = .ok (.iconst 1, 1) := by decide +kernel
theorem dL_larderText_102 : decode cL_larderText 102 = .ok (.iload 6, 2) := by decide +kernel
theorem dL_larderText_104 : decode cL_larderText 104 = .ok (.iadd, 1) := by decide +kernel
theorem dL_larderText_105 : decode cL_larderText 105 = .ok (.iaload, 1) := by decide +kernel
theorem dL_larderText_106 : decode cL_larderText 106 = .ok (.ifCond .ne 8, 3) := by decide +kernel
theorem dL_larderText_109 : decode cL_larderText 109 = .ok (.bipush 106, 2) := by decide +kernel
theorem dL_larderText_111 : decode cL_larderText 111 = .ok (.goto 50, 3) := by decide +kernel
theorem dL_larderText_114 : decode cL_larderText 114 = .ok (.aload_n 3, 1) := by decide +kernel
theorem dL_larderText_115 : decode cL_larderText 115 = .ok (.iconst 1, 1) := by decide +kernel
theorem dL_larderText_116 : decode cL_larderText 116 = .ok (.iload 6, 2) := by decide +kernel
theorem dL_larderText_118 : decode cL_larderText 118 = .ok (.iadd, 1) := by decide +kernel
theorem dL_larderText_119 : decode cL_larderText 119 = .ok (.iaload, 1) := by decide +kernel
theorem dL_larderText_120 : decode cL_larderText 120 = .ok (.iconst 1, 1) := by decide +kernel
theorem dL_larderText_121 : decode cL_larderText 121 = .ok (.if_icmp .ne 8, 3) := by decide +kernel
theorem dL_larderText_124 : decode cL_larderText 124 = .ok (.bipush 119, 2) := by decide +kernel
theorem dL_larderText_126 : decode cL_larderText 126 = .ok (.goto 35, 3) := by decide +kernel
theorem dL_larderText_129 : decode cL_larderText 129 = .ok (.aload_n 3, 1) := by decide +kernel
theorem dL_larderText_130 : decode cL_larderText 130 = .ok (.iconst 1, 1) := by decide +kernel
theorem dL_larderText_131 : decode cL_larderText 131 = .ok (.iload 6, 2) := by decide +kernel
theorem dL_larderText_133 : decode cL_larderText 133 = .ok (.iadd, 1) := by decide +kernel
theorem dL_larderText_134 : decode cL_larderText 134 = .ok (.iaload, 1) := by decide +kernel
theorem dL_larderText_135 : decode cL_larderText 135 = .ok (.iconst 2, 1) := by decide +kernel
theorem dL_larderText_136 : decode cL_larderText 136 = .ok (.if_icmp .ne 8, 3) := by decide +kernel
theorem dL_larderText_139 : decode cL_larderText 139 = .ok (.bipush 99, 2) := by decide +kernel
theorem dL_larderText_141 : decode cL_larderText 141 = .ok (.goto 20, 3) := by decide +kernel
theorem dL_larderText_144 : decode cL_larderText 144 = .ok (.aload_n 3, 1) := by decide +kernel
theorem dL_larderText_145 : decode cL_larderText 145 = .ok (.iconst 1, 1) := by decide +kernel
theorem dL_larderText_146 : decode cL_larderText 146 = .ok (.iload 6, 2) := by decide +kernel
theorem dL_larderText_148 : decode cL_larderText 148 = .ok (.iadd, 1) := by decide +kernel
theorem dL_larderText_149 : decode cL_larderText 149 = .ok (.iaload, 1) := by decide +kernel
theorem dL_larderText_150 : decode cL_larderText 150 = .ok (.iconst 3, 1) := by decide +kernel
theorem dL_larderText_151 : decode cL_larderText 151 = .ok (.if_icmp .ne 8, 3) := by decide +kernel
theorem dL_larderText_154 : decode cL_larderText 154 = .ok (.bipush 112, 2) := by decide +kernel
theorem dL_larderText_156 : decode cL_larderText 156 = .ok (.goto 5, 3) := by decide +kernel
theorem dL_larderText_159 : decode cL_larderText 159 = .ok (.bipush 103, 2) := by decide +kernel
theorem dL_larderText_161 : decode cL_larderText 161 = .ok (.iastore, 1) := by decide +kernel
theorem dL_larderText_162 : decode cL_larderText 162 = .ok (.aload 4, 2) := by decide +kernel
theorem dL_larderText_164 : decode cL_larderText 164 = .ok (.iload 5, 2) := by decide +kernel
theorem dL_larderText_166 : decode cL_larderText 166 = .ok (.iinc 5 1, 3) := by decide +kernel
theorem dL_larderText_169 : decode cL_larderText 169 = .ok (.bipush 48, 2) := by decide +kernel
theorem dL_larderText_171 : decode cL_larderText 171 = .ok (.aload_n 3, 1) := by decide +kernel
theorem dL_larderText_172 : decode cL_larderText 172 = .ok (.bipush 7, 2) := by decide +kernel
theorem dL_larderText_174 : decode cL_larderText 174 = .ok (.iload 6, 2) := by decide +kernel
theorem dL_larderText_176 : decode cL_larderText 176 = .ok (.iadd, 1) := by decide +kernel
theorem dL_larderText_177 : decode cL_larderText 177 = .ok (.iaload, 1) := by decide +kernel
theorem dL_larderText_178 : decode cL_larderText 178 = .ok (.iadd, 1) := by decide +kernel
theorem dL_larderText_179 : decode cL_larderText 179 = .ok (.iastore, 1) := by decide +kernel
theorem dL_larderText_180 : decode cL_larderText 180 = .ok (.aload 4, 2) := by decide +kernel
theorem dL_larderText_182 : decode cL_larderText 182 = .ok (.iload 5, 2) := by decide +kernel
theorem dL_larderText_184 : decode cL_larderText 184 = .ok (.iinc 5 1, 3) := by decide +kernel
theorem dL_larderText_187 : decode cL_larderText 187 = .ok (.bipush 48, 2) := by decide +kernel
theorem dL_larderText_189 : decode cL_larderText 189 = .ok (.aload_n 3, 1) := by decide +kernel
theorem dL_larderText_190 : decode cL_larderText 190 = .ok (.bipush 13, 2) := by decide +kernel
theorem dL_larderText_192 : decode cL_larderText 192 = .ok (.iload 6, 2) := by decide +kernel
theorem dL_larderText_194 : decode cL_larderText 194 = .ok (.iadd, 1) := by decide +kernel
theorem dL_larderText_195 : decode cL_larderText 195 = .ok (.iaload, 1) := by decide +kernel
theorem dL_larderText_196 : decode cL_larderText 196 = .ok (.iadd, 1) := by decide +kernel
theorem dL_larderText_197 : decode cL_larderText 197 = .ok (.iastore, 1) := by decide +kernel
theorem dL_larderText_198 : decode cL_larderText 198 = .ok (.iinc 6 1, 3) := by decide +kernel
theorem dL_larderText_201 : decode cL_larderText 201 = .ok (.goto (-185), 3) := by decide +kernel
theorem dL_larderText_204 : decode cL_larderText 204 = .ok (.iload 5, 2) := by decide +kernel
theorem dL_larderText_206 : decode cL_larderText 206 = .ok (.ireturn, 1) := by decide +kernel
set_option maxRecDepth 20000 in
theorem ggL_write_X6_letter : GoodIn wsL_write wsX6_letter := goodIn_r _ [5, 6, 7, 8, 9, 10, 11, 12, 13, 14, 15, 16, 17, 18, 19] (by decide +kernel) (by decide +kernel)
set_option maxRecDepth 20000 in
theorem gL_write_X6_letter : GoodIn wsL_write (wsV RL 14 RX6 yX6_letter wsX6_letter) := goodIn_app (goodIn_of _ (by decide +kernel)) ggL_write_X6_letter
theorem dL_write_0 : decode cL_write 0 = .ok (.iconst 0, 1) := by decide +kernel
theorem dL_write_1 : decode cL_write 1 = .ok (.istore_n 3, 1) := by decide +kernel
theorem dL_write_2 : decode cL_write 2 = .ok (.iload_n 3, 1) := by decide +kernel
theorem dL_write_3 : decode cL_write 3 = .ok (.iload_n 2, 1) := by decide +kernel
theorem dL_write_4 : decode cL_write 4 = .ok (.if_icmp .ge 24, 3) := by decide +kernel
theorem dL_write_7 : decode cL_write 7 = .ok (.aload_n 0, 1) := by decide +kernel
theorem dL_write_8 : decode cL_write 8 = .ok (.aload_n 1, 1) := by decide +kernel
theorem dL_write_9 : decode cL_write 9 = .ok (.iload_n 3, 1) := by decide +kernel
theorem dL_write_10 : decode cL_write 10 = .ok (.iaload, 1) := by decide +kernel
theorem dL_write_11 : decode cL_write 11 = .ok (.invokevirtual 14, 3) := by decide +kernel
theorem dL_write_14 : decode cL_write 14 = .ok (.iload_n 3, 1) := by decide +kernel
theorem dL_write_15 : decode cL_write 15 = .ok (.iconst 1, 1) := by decide +kernel
theorem dL_write_16 : decode cL_write 16 = .ok (.iadd, 1) := by decide +kernel
theorem dL_write_17 : decode cL_write 17 = .ok (.if_icmp .eq 5, 3) := by decide +kernel
theorem dL_write_20 : decode cL_write 20 = .ok (.iconst 0, 1) := by decide +kernel
theorem dL_write_21 : decode cL_write 21 = .ok (.ireturn, 1) := by decide +kernel
theorem dL_write_22 : decode cL_write 22 = .ok (.iinc 3 1, 3) := by decide +kernel
theorem dL_write_25 : decode cL_write 25 = .ok (.goto (-23), 3) := by decide +kernel
theorem dL_write_28 : decode cL_write 28 = .ok (.iconst 1, 1) := by decide +kernel
theorem dL_write_29 : decode cL_write 29 = .ok (.ireturn, 1) := by decide +kernel
theorem dL_begin_0 : decode cL_begin 0 = .ok (.iconst 0, 1) := by decide +kernel
theorem dL_begin_1 : decode cL_begin 1 = .ok (.istore_n 2, 1) := by decide +kernel
theorem dL_begin_2 : decode cL_begin 2 = .ok (.iload_n 2, 1) := by decide +kernel
theorem dL_begin_3 : decode cL_begin 3 = .ok (.bipush 16, 2) := by decide +kernel
theorem dL_begin_5 : decode cL_begin 5 = .ok (.if_icmp .ge 25, 3) := by decide +kernel
theorem dL_begin_8 : decode cL_begin 8 = .ok (.aload_n 1, 1) := by decide +kernel
theorem dL_begin_9 : decode cL_begin 9 = .ok (.iload_n 2, 1) := by decide +kernel
theorem dL_begin_10 : decode cL_begin 10 = .ok (.iload_n 2, 1) := by decide +kernel
theorem dL_begin_11 : decode cL_begin 11 = .ok (.aload_n 0, 1) := by decide +kernel
theorem dL_begin_12 : decode cL_begin 12 = .ok (.iconst 0, 1) := by decide +kernel
theorem dL_begin_13 : decode cL_begin 13 = .ok (.iaload, 1) := by decide +kernel
theorem dL_begin_14 : decode cL_begin 14 = .ok (.if_icmp .ge 8, 3) := by decide +kernel
theorem dL_begin_17 : decode cL_begin 17 = .ok (.bipush 12, 2) := by decide +kernel
theorem dL_begin_19 : decode cL_begin 19 = .ok (.goto 4, 3) := by decide +kernel
theorem dL_begin_22 : decode cL_begin 22 = .ok (.iconst 0, 1) := by decide +kernel
theorem dL_begin_23 : decode cL_begin 23 = .ok (.iastore, 1) := by decide +kernel
theorem dL_begin_24 : decode cL_begin 24 = .ok (.iinc 2 1, 3) := by decide +kernel
theorem dL_begin_27 : decode cL_begin 27 = .ok (.goto (-25), 3) := by decide +kernel
theorem dL_begin_30 : decode cL_begin 30 = .ok (.return_, 1) := by decide +kernel
theorem dL_mould_0 : decode cL_mould 0 = .ok (.aload_n 0, 1) := by decide +kernel
theorem dL_mould_1 : decode cL_mould 1 = .ok (.iconst 1, 1) := by decide +kernel
theorem dL_mould_2 : decode cL_mould 2 = .ok (.iload_n 1, 1) := by decide +kernel
theorem dL_mould_3 : decode cL_mould 3 = .ok (.iadd, 1) := by decide +kernel
theorem dL_mould_4 : decode cL_mould 4 = .ok (.iaload, 1) := by decide +kernel
theorem dL_mould_5 : decode cL_mould 5 = .ok (.istore_n 3, 1) := by decide +kernel
theorem dL_mould_6 : decode cL_mould 6 = .ok (.iload_n 3, 1) := by decide +kernel
theorem dL_mould_7 : decode cL_mould 7 = .ok (.iconst 2, 1) := by decide +kernel
theorem dL_mould_8 : decode cL_mould 8 = .ok (.if_icmp .eq 8, 3) := by decide +kernel
theorem dL_mould_11 : decode cL_mould 11 = .ok (.iload_n 3, 1) := by decide +kernel
theorem dL_mould_12 : decode cL_mould 12 = .ok (.iconst 4, 1) := by decide +kernel
theorem dL_mould_13 : decode cL_mould 13 = .ok (.if_icmp .ne 5, 3) := by decide +kernel
theorem dL_mould_16 : decode cL_mould 16 = .ok (.iconst 0, 1) := by decide +kernel
theorem dL_mould_17 : decode cL_mould 17 = .ok (.ireturn, 1) := by decide +kernel
theorem dL_mould_18 : decode cL_mould 18 = .ok (.aload_n 0, 1) := by decide +kernel
theorem dL_mould_19 : decode cL_mould 19 = .ok (.bipush 13, 2) := by decide +kernel
theorem dL_mould_21 : decode cL_mould 21 = .ok (.iload_n 1, 1) := by decide +kernel
theorem dL_mould_22 : decode cL_mould 22 = .ok (.iadd, 1) := by decide +kernel
theorem dL_mould_23 : decode cL_mould 23 = .ok (.iaload, 1) := by decide +kernel
theorem dL_mould_24 : decode cL_mould 24 = .ok (.bipush 8, 2) := by decide +kernel
theorem dL_mould_26 : decode cL_mould 26 = .ok (.if_icmp .le 7, 3) := by decide +kernel
theorem dL_mould_29 : decode cL_mould 29 = .ok (.iconst 0, 1) := by decide +kernel
theorem dL_mould_30 : decode cL_mould 30 = .ok (.goto 32, 3) := by decide +kernel
theorem dL_mould_33 : decode cL_mould 33 = .ok (.aload_n 0, 1) := by decide +kernel
theorem dL_mould_34 : decode cL_mould 34 = .ok (.bipush 13, 2) := by decide +kernel
theorem dL_mould_36 : decode cL_mould 36 = .ok (.iload_n 1, 1) := by decide +kernel
theorem dL_mould_37 : decode cL_mould 37 = .ok (.iadd, 1) := by decide +kernel
theorem dL_mould_38 : decode cL_mould 38 = .ok (.iaload, 1) := by decide +kernel
theorem dL_mould_39 : decode cL_mould 39 = .ok (.iconst 5, 1) := by decide +kernel
theorem dL_mould_40 : decode cL_mould 40 = .ok (.if_icmp .le 7, 3) := by decide +kernel
theorem dL_mould_43 : decode cL_mould 43 = .ok (.iconst 1, 1) := by decide +kernel
theorem dL_mould_44 : decode cL_mould 44 = .ok (.goto 18, 3) := by decide +kernel
theorem dL_mould_47 : decode cL_mould 47 = .ok (.aload_n 0, 1) := by decide +kernel
theorem dL_mould_48 : decode cL_mould 48 = .ok (.bipush 13, 2) := by decide +kernel
theorem dL_mould_50 : decode cL_mould 50 = .ok (.iload_n 1, 1) := by decide +kernel
theorem dL_mould_51 : decode cL_mould 51 = .ok (.iadd, 1) := by decide +kernel
theorem dL_mould_52 : decode cL_mould 52 = .ok (.iaload, 1) := by decide +kernel
theorem dL_mould_53 : decode cL_mould 53 = .ok (.iconst 2, 1) := by decide +kernel
theorem dL_mould_54 : decode cL_mould 54 = .ok (.if_icmp .le 7, 3) := by decide +kernel
theorem dL_mould_57 : decode cL_mould 57 = .ok (.iconst 2, 1) := by decide +kernel
theorem dL_mould_58 : decode cL_mould 58 = .ok (.goto 4, 3) := by decide +kernel
theorem dL_mould_61 : decode cL_mould 61 = .ok (.iconst 3, 1) := by decide +kernel
theorem dL_mould_62 : decode cL_mould 62 = .ok (.istore 4, 2) := by decide +kernel
theorem dL_mould_64 : decode cL_mould 64 = .ok (.iload_n 3, 1) := by decide +kernel
theorem dL_mould_65 : decode cL_mould 65 = .ok (.iconst 1, 1) := by decide +kernel
theorem dL_mould_66 : decode cL_mould 66 = .ok (.if_icmp .ne 6, 3) := by decide +kernel
theorem dL_mould_69 : decode cL_mould 69 = .ok (.iinc 4 1, 3) := by decide +kernel
theorem dL_mould_72 : decode cL_mould 72 = .ok (.iload 4, 2) := by decide +kernel
theorem dL_mould_74 : decode cL_mould 74 = .ok (.iload_n 2, 1) := by decide +kernel
theorem dL_mould_75 : decode cL_mould 75 = .ok (.imul, 1) := by decide +kernel
theorem dL_mould_76 : decode cL_mould 76 = .ok (.bipush 20, 2) := by decide +kernel
theorem dL_mould_78 : decode cL_mould 78 = .ok (.if_icmp .le 8, 3) := by decide +kernel
theorem dL_mould_81 : decode cL_mould 81 = .ok (.bipush 20, 2) := by decide +kernel
theorem dL_mould_83 : decode cL_mould 83 = .ok (.goto 7, 3) := by decide +kernel
theorem dL_mould_86 : decode cL_mould 86 = .ok (.iload 4, 2) := by decide +kernel
theorem dL_mould_88 : decode cL_mould 88 = .ok (.iload_n 2, 1) := by decide +kernel
theorem dL_mould_89 : decode cL_mould 89 = .ok (.imul, 1) := by decide +kernel
theorem dL_mould_90 : decode cL_mould 90 = .ok (.ireturn, 1) := by decide +kernel
set_option maxRecDepth 20000 in
theorem ggL_worth_L_mould : GoodIn wsL_worth wsL_mould := goodIn_r _ [4] (by decide +kernel) (by decide +kernel)
set_option maxRecDepth 20000 in
theorem gL_worth_L_mould : GoodIn wsL_worth (va_wsS RL 20 yL_mould wsL_mould) := goodIn_app (goodIn_of _ (by decide +kernel)) ggL_worth_L_mould
theorem dL_worth_0 : decode cL_worth 0 = .ok (.aload_n 0, 1) := by decide +kernel
theorem dL_worth_1 : decode cL_worth 1 = .ok (.bipush 7, 2) := by decide +kernel
theorem dL_worth_3 : decode cL_worth 3 = .ok (.iload_n 1, 1) := by decide +kernel
theorem dL_worth_4 : decode cL_worth 4 = .ok (.iadd, 1) := by decide +kernel
theorem dL_worth_5 : decode cL_worth 5 = .ok (.iaload, 1) := by decide +kernel
theorem dL_worth_6 : decode cL_worth 6 = .ok (.aload_n 0, 1) := by decide +kernel
theorem dL_worth_7 : decode cL_worth 7 = .ok (.iload_n 1, 1) := by decide +kernel
theorem dL_worth_8 : decode cL_worth 8 = .ok (.iload_n 2, 1) := by decide +kernel
theorem dL_worth_9 : decode cL_worth 9 = .ok (.invokestatic 20, 3) := by decide +kernel
theorem dL_worth_12 : decode cL_worth 12 = .ok (.isub, 1) := by decide +kernel
theorem dL_worth_13 : decode cL_worth 13 = .ok (.istore_n 3, 1) := by decide +kernel
theorem dL_worth_14 : decode cL_worth 14 = .ok (.aload_n 0, 1) := by decide +kernel
theorem dL_worth_15 : decode cL_worth 15 = .ok (.iconst 1, 1) := by decide +kernel
theorem dL_worth_16 : decode cL_worth 16 = .ok (.iload_n 1, 1) := by decide +kernel
theorem dL_worth_17 : decode cL_worth 17 = .ok (.iadd, 1) := by decide +kernel
theorem dL_worth_18 : decode cL_worth 18 = .ok (.iaload, 1) := by decide +kernel
theorem dL_worth_19 : decode cL_worth 19 = .ok (.iconst 3, 1) := by decide +kernel
theorem dL_worth_20 : decode cL_worth 20 = .ok (.if_icmp .ne 13, 3) := by decide +kernel
theorem dL_worth_23 : decode cL_worth 23 = .ok (.iload_n 2, 1) := by decide +kernel
theorem dL_worth_24 : decode cL_worth 24 = .ok (.iconst 2, 1) := by decide +kernel
theorem dL_worth_25 : decode cL_worth 25 = .ok (.irem, 1) := by decide +kernel
theorem dL_worth_26 : decode cL_worth 26 = .ok (.iconst 1, 1) := by decide +kernel
theorem dL_worth_27 : decode cL_worth 27 = .ok (.if_icmp .ne 6, 3) := by decide +kernel
theorem dL_worth_30 : decode cL_worth 30 = .ok (.iinc 3 3, 3) := by decide +kernel
theorem dL_worth_33 : decode cL_worth 33 = .ok (.aload_n 0, 1) := by decide +kernel
theorem dL_worth_34 : decode cL_worth 34 = .ok (.iconst 1, 1) := by decide +kernel
theorem dL_worth_35 : decode cL_worth 35 = .ok (.iload_n 1, 1) := by decide +kernel
theorem dL_worth_36 : decode cL_worth 36 = .ok (.iadd, 1) := by decide +kernel
theorem dL_worth_37 : decode cL_worth 37 = .ok (.iaload, 1) := by decide +kernel
theorem dL_worth_38 : decode cL_worth 38 = .ok (.iconst 4, 1) := by decide +kernel
theorem dL_worth_39 : decode cL_worth 39 = .ok (.if_icmp .ne 9, 3) := by decide +kernel
theorem dL_worth_42 : decode cL_worth 42 = .ok (.iload_n 3, 1) := by decide +kernel
theorem dL_worth_43 : decode cL_worth 43 = .ok (.iload_n 3, 1) := by decide +kernel
theorem dL_worth_44 : decode cL_worth 44 = .ok (.iadd, 1) := by decide +kernel
theorem dL_worth_45 : decode cL_worth 45 = .ok (.goto 4, 3) := by decide +kernel
theorem dL_worth_48 : decode cL_worth 48 = .ok (.iload_n 3, 1) := by decide +kernel
theorem dL_worth_49 : decode cL_worth 49 = .ok (.ireturn, 1) := by decide +kernel
set_option maxRecDepth 20000 in
theorem ggL_eat_L_worth : GoodIn wsL_eat wsL_worth := goodIn_r _ [4, 5, 6, 3, 7] (by decide +kernel) (by decide +kernel)
set_option maxRecDepth 20000 in
theorem gL_eat_L_worth : GoodIn wsL_eat (va_wsS RL 24 yL_worth wsL_worth) := goodIn_app (goodIn_of _ (by decide +kernel)) ggL_eat_L_worth
theorem dL_eat_0 : decode cL_eat 0 = .ok (.aload_n 0, 1) := by decide +kernel
theorem dL_eat_1 : decode cL_eat 1 = .ok (.iload_n 2, 1) := by decide +kernel
theorem dL_eat_2 : decode cL_eat 2 = .ok (.aload_n 1, 1) := by decide +kernel
theorem dL_eat_3 : decode cL_eat 3 = .ok (.bipush 12, 2) := by decide +kernel
theorem dL_eat_5 : decode cL_eat 5 = .ok (.iaload, 1) := by decide +kernel
theorem dL_eat_6 : decode cL_eat 6 = .ok (.invokestatic 24, 3) := by decide +kernel
theorem dL_eat_9 : decode cL_eat 9 = .ok (.aload_n 1, 1) := by decide +kernel
theorem dL_eat_10 : decode cL_eat 10 = .ok (.bipush 6, 2) := by decide +kernel
theorem dL_eat_12 : decode cL_eat 12 = .ok (.iload_n 2, 1) := by decide +kernel
theorem dL_eat_13 : decode cL_eat 13 = .ok (.iadd, 1) := by decide +kernel
theorem dL_eat_14 : decode cL_eat 14 = .ok (.iaload, 1) := by decide +kernel
theorem dL_eat_15 : decode cL_eat 15 = .ok (.isub, 1) := by decide +kernel
theorem dL_eat_16 : decode cL_eat 16 = .ok (.istore_n 3, 1) := by decide +kernel
theorem dL_eat_17 : decode cL_eat 17 = .ok (.aload_n 1, 1) := by decide +kernel
theorem dL_eat_18 : decode cL_eat 18 = .ok (.iload_n 2, 1) := by decide +kernel
theorem dL_eat_19 : decode cL_eat 19 = .ok (.dup2, 1) := by decide +kernel
theorem dL_eat_20 : decode cL_eat 20 = .ok (.iaload, 1) := by decide +kernel
theorem dL_eat_21 : decode cL_eat 21 = .ok (.iconst 1, 1) := by decide +kernel
theorem dL_eat_22 : decode cL_eat 22 = .ok (.isub, 1) := by decide +kernel
theorem dL_eat_23 : decode cL_eat 23 = .ok (.iastore, 1) := by decide +kernel
theorem dL_eat_24 : decode cL_eat 24 = .ok (.aload_n 1, 1) := by decide +kernel
theorem dL_eat_25 : decode cL_eat 25 = .ok (.bipush 6, 2) := by decide +kernel
theorem dL_eat_27 : decode cL_eat 27 = .ok (.iload_n 2, 1) := by decide +kernel
theorem dL_eat_28 : decode cL_eat 28 = .ok (.iadd, 1) := by decide +kernel
theorem dL_eat_29 : decode cL_eat 29 = .ok (.dup2, 1) := by decide +kernel
theorem dL_eat_30 : decode cL_eat 30 = .ok (.iaload, 1) := by decide +kernel
theorem dL_eat_31 : decode cL_eat 31 = .ok (.iconst 1, 1) := by decide +kernel
theorem dL_eat_32 : decode cL_eat 32 = .ok (.iadd, 1) := by decide +kernel
theorem dL_eat_33 : decode cL_eat 33 = .ok (.iastore, 1) := by decide +kernel
theorem dL_eat_34 : decode cL_eat 34 = .ok (.aload_n 1, 1) := by decide +kernel
theorem dL_eat_35 : decode cL_eat 35 = .ok (.bipush 13, 2) := by decide +kernel
theorem dL_eat_37 : decode cL_eat 37 = .ok (.dup2, 1) := by decide +kernel
theorem dL_eat_38 : decode cL_eat 38 = .ok (.iaload, 1) := by decide +kernel
theorem dL_eat_39 : decode cL_eat 39 = .ok (.iload_n 3, 1) := by decide +kernel
theorem dL_eat_40 : decode cL_eat 40 = .ok (.iadd, 1) := by decide +kernel
theorem dL_eat_41 : decode cL_eat 41 = .ok (.iastore, 1) := by decide +kernel
theorem dL_eat_42 : decode cL_eat 42 = .ok (.aload_n 1, 1) := by decide +kernel
theorem dL_eat_43 : decode cL_eat 43 = .ok (.bipush 14, 2) := by decide +kernel
theorem dL_eat_45 : decode cL_eat 45 = .ok (.dup2, 1) := by decide +kernel
theorem dL_eat_46 : decode cL_eat 46 = .ok (.iaload, 1) := by decide +kernel
theorem dL_eat_47 : decode cL_eat 47 = .ok (.iconst 1, 1) := by decide +kernel
theorem dL_eat_48 : decode cL_eat 48 = .ok (.iadd, 1) := by decide +kernel
theorem dL_eat_49 : decode cL_eat 49 = .ok (.iastore, 1) := by decide +kernel
theorem dL_eat_50 : decode cL_eat 50 = .ok (.iload_n 3, 1) := by decide +kernel
theorem dL_eat_51 : decode cL_eat 51 = .ok (.ireturn, 1) := by decide +kernel
theorem dL_goOn_0 : decode cL_goOn 0 = .ok (.aload_n 0, 1) := by decide +kernel
theorem dL_goOn_1 : decode cL_goOn 1 = .ok (.bipush 12, 2) := by decide +kernel
theorem dL_goOn_3 : decode cL_goOn 3 = .ok (.dup2, 1) := by decide +kernel
theorem dL_goOn_4 : decode cL_goOn 4 = .ok (.iaload, 1) := by decide +kernel
theorem dL_goOn_5 : decode cL_goOn 5 = .ok (.iconst 1, 1) := by decide +kernel
theorem dL_goOn_6 : decode cL_goOn 6 = .ok (.iadd, 1) := by decide +kernel
theorem dL_goOn_7 : decode cL_goOn 7 = .ok (.iastore, 1) := by decide +kernel
theorem dL_goOn_8 : decode cL_goOn 8 = .ok (.iconst 0, 1) := by decide +kernel
theorem dL_goOn_9 : decode cL_goOn 9 = .ok (.istore_n 1, 1) := by decide +kernel
theorem dL_goOn_10 : decode cL_goOn 10 = .ok (.iload_n 1, 1) := by decide +kernel
theorem dL_goOn_11 : decode cL_goOn 11 = .ok (.bipush 6, 2) := by decide +kernel
theorem dL_goOn_13 : decode cL_goOn 13 = .ok (.if_icmp .ge 16, 3) := by decide +kernel
theorem dL_goOn_16 : decode cL_goOn 16 = .ok (.aload_n 0, 1) := by decide +kernel
theorem dL_goOn_17 : decode cL_goOn 17 = .ok (.bipush 6, 2) := by decide +kernel
theorem dL_goOn_19 : decode cL_goOn 19 = .ok (.iload_n 1, 1) := by decide +kernel
theorem dL_goOn_20 : decode cL_goOn 20 = .ok (.iadd, 1) := by decide +kernel
theorem dL_goOn_21 : decode cL_goOn 21 = .ok (.iconst 0, 1) := by decide +kernel
theorem dL_goOn_22 : decode cL_goOn 22 = .ok (.iastore, 1) := by decide +kernel
theorem dL_goOn_23 : decode cL_goOn 23 = .ok (.iinc 1 1, 3) := by decide +kernel
theorem dL_goOn_26 : decode cL_goOn 26 = .ok (.goto (-16), 3) := by decide +kernel
theorem dL_goOn_29 : decode cL_goOn 29 = .ok (.return_, 1) := by decide +kernel
theorem dL_left_0 : decode cL_left 0 = .ok (.aload_n 0, 1) := by decide +kernel
theorem dL_left_1 : decode cL_left 1 = .ok (.iconst 0, 1) := by decide +kernel
theorem dL_left_2 : decode cL_left 2 = .ok (.iaload, 1) := by decide +kernel
theorem dL_left_3 : decode cL_left 3 = .ok (.aload_n 0, 1) := by decide +kernel
theorem dL_left_4 : decode cL_left 4 = .ok (.iconst 1, 1) := by decide +kernel
theorem dL_left_5 : decode cL_left 5 = .ok (.iaload, 1) := by decide +kernel
theorem dL_left_6 : decode cL_left 6 = .ok (.iadd, 1) := by decide +kernel
theorem dL_left_7 : decode cL_left 7 = .ok (.aload_n 0, 1) := by decide +kernel
theorem dL_left_8 : decode cL_left 8 = .ok (.iconst 2, 1) := by decide +kernel
theorem dL_left_9 : decode cL_left 9 = .ok (.iaload, 1) := by decide +kernel
theorem dL_left_10 : decode cL_left 10 = .ok (.iadd, 1) := by decide +kernel
theorem dL_left_11 : decode cL_left 11 = .ok (.aload_n 0, 1) := by decide +kernel
theorem dL_left_12 : decode cL_left 12 = .ok (.iconst 3, 1) := by decide +kernel
theorem dL_left_13 : decode cL_left 13 = .ok (.iaload, 1) := by decide +kernel
theorem dL_left_14 : decode cL_left 14 = .ok (.iadd, 1) := by decide +kernel
theorem dL_left_15 : decode cL_left 15 = .ok (.aload_n 0, 1) := by decide +kernel
theorem dL_left_16 : decode cL_left 16 = .ok (.iconst 4, 1) := by decide +kernel
theorem dL_left_17 : decode cL_left 17 = .ok (.iaload, 1) := by decide +kernel
theorem dL_left_18 : decode cL_left 18 = .ok (.iadd, 1) := by decide +kernel
theorem dL_left_19 : decode cL_left 19 = .ok (.aload_n 0, 1) := by decide +kernel
theorem dL_left_20 : decode cL_left 20 = .ok (.iconst 5, 1) := by decide +kernel
theorem dL_left_21 : decode cL_left 21 = .ok (.iaload, 1) := by decide +kernel
theorem dL_left_22 : decode cL_left 22 = .ok (.iadd, 1) := by decide +kernel
theorem dL_left_23 : decode cL_left 23 = .ok (.ireturn, 1) := by decide +kernel
theorem dL_over_0 : decode cL_over 0 = .ok (.iconst 0, 1) := by decide +kernel
theorem dL_over_1 : decode cL_over 1 = .ok (.istore_n 2, 1) := by decide +kernel
theorem dL_over_2 : decode cL_over 2 = .ok (.iload_n 2, 1) := by decide +kernel
theorem dL_over_3 : decode cL_over 3 = .ok (.bipush 16, 2) := by decide +kernel
theorem dL_over_5 : decode cL_over 5 = .ok (.if_icmp .ge 15, 3) := by decide +kernel
theorem dL_over_8 : decode cL_over 8 = .ok (.aload_n 0, 1) := by decide +kernel
theorem dL_over_9 : decode cL_over 9 = .ok (.iload_n 2, 1) := by decide +kernel
theorem dL_over_10 : decode cL_over 10 = .ok (.aload_n 1, 1) := by decide +kernel
theorem dL_over_11 : decode cL_over 11 = .ok (.iload_n 2, 1) := by decide +kernel
theorem dL_over_12 : decode cL_over 12 = .ok (.iaload, 1) := by decide +kernel
theorem dL_over_13 : decode cL_over 13 = .ok (.iastore, 1) := by decide +kernel
theorem dL_over_14 : decode cL_over 14 = .ok (.iinc 2 1, 3) := by decide +kernel
theorem dL_over_17 : decode cL_over 17 = .ok (.goto (-15), 3) := by decide +kernel
theorem dL_over_20 : decode cL_over 20 = .ok (.return_, 1) := by decide +kernel
set_option maxRecDepth 20000 in
theorem ggL_stands_L_worth : GoodIn wsL_stands wsL_worth := goodIn_r _ [4, 5, 6, 3, 7] (by decide +kernel) (by decide +kernel)
set_option maxRecDepth 20000 in
theorem gL_stands_L_worth : GoodIn wsL_stands (va_wsS RL 24 yL_worth wsL_worth) := goodIn_app (goodIn_of _ (by decide +kernel)) ggL_stands_L_worth
set_option maxRecDepth 20000 in
theorem ggL_stands_X6_jar : GoodIn wsL_stands wsX6_jar := goodIn_r _ [12, 13, 14, 15, 16, 17, 18, 19, 11, 20, 21, 22, 23, 24, 25, 26, 27, 28, 29, 30, 31, 32, 33, 34, 35, 36, 37, 38, 39, 40, 41, 42, 43, 44, 45, 46, 47, 48, 49, 50, 51, 52, 53, 54, 55, 56, 57, 58, 59, 60, 61, 62, 63, 64, 65, 66, 67, 68, 69, 70, 71, 72, 73, 74, 75, 76, 77, 78, 79, 80, 81, 82, 83, 84, 85, 86, 87, 88, 89, 90, 91, 92, 93, 94, 95, 96, 97, 98, 99, 100, 101, 102, 103, 104, 105, 106, 107, 108, 131, 132, 133, 134, 135, 136, 137, 138, 139, 140, 141, 142, 143, 144, 145, 146, 147, 148, 149, 150, 151, 152, 153, 154, 155, 156, 157, 158, 159, 160, 161, 162, 163, 164, 165, 166] (by decide +kernel) (by decide +kernel)
set_option maxRecDepth 20000 in
theorem gL_stands_X6_jar : GoodIn wsL_stands (wsV RL 27 RX6 yX6_jar wsX6_jar) := goodIn_app (goodIn_of _ (by decide +kernel)) ggL_stands_X6_jar
set_option maxRecDepth 20000 in
theorem ggL_stands_L_mould : GoodIn wsL_stands wsL_mould := goodIn_r _ [7] (by decide +kernel) (by decide +kernel)
set_option maxRecDepth 20000 in
theorem gL_stands_L_mould : GoodIn wsL_stands (va_wsS RL 20 yL_mould wsL_mould) := goodIn_app (goodIn_of _ (by decide +kernel)) ggL_stands_L_mould
set_option maxRecDepth 20000 in
theorem ggL_stands_X6_count : GoodIn wsL_stands wsX6_count := goodIn_r _ [112, 21, 15, 16, 113, 114, 115, 116, 117, 118, 119, 120, 121, 122, 50, 123, 52, 124, 125, 126, 11, 127, 47, 48, 49, 51, 146, 147, 148, 149, 150, 151, 152, 153, 154, 155, 156, 157, 158, 159, 160, 161, 162, 163, 164, 165, 166] (by decide +kernel) (by decide +kernel)
set_option maxRecDepth 20000 in
theorem gL_stands_X6_count : GoodIn wsL_stands (wsV RL 30 RX6 yX6_count wsX6_count) := goodIn_app (goodIn_of _ (by decide +kernel)) ggL_stands_X6_count
set_option maxRecDepth 20000 in
theorem ggL_stands_L_left : GoodIn wsL_stands wsL_left := goodIn_r _ [130] (by decide +kernel) (by decide +kernel)
set_option maxRecDepth 20000 in
theorem gL_stands_L_left : GoodIn wsL_stands (va_wsS RL 33 yL_left wsL_left) := goodIn_app (goodIn_of _ (by decide +kernel)) ggL_stands_L_left
theorem dL_stands_0 : decode cL_stands 0 = .ok (.iconst 0, 1) := by decide +kernel
theorem dL_stands_1 : decode cL_stands 1 = .ok (.istore_n 3, 1) := by decide +kernel
theorem dL_stands_2 : decode cL_stands 2 = .ok (.iconst 0, 1) := by decide +kernel
theorem dL_stands_3 : decode cL_stands 3 = .ok (.istore 4, 2) := by decide +kernel
theorem dL_stands_5 : decode cL_stands 5 = .ok (.iload 4, 2) := by decide +kernel
theorem dL_stands_7 : decode cL_stands 7 = .ok (.aload_n 1, 1) := by decide +kernel
theorem dL_stands_8 : decode cL_stands 8 = .ok (.iconst 0, 1) := by decide +kernel
theorem dL_stands_9 : decode cL_stands 9 = .ok (.iaload, 1) := by decide +kernel
theorem dL_stands_10 : decode cL_stands 10 = .ok (.if_icmp .ge 224, 3) := by decide +kernel
theorem dL_stands_13 : decode cL_stands 13 = .ok (.bipush 9, 2) := by decide +kernel
theorem dL_stands_15 : decode cL_stands 15 = .ok (.istore 5, 2) := by decide +kernel
theorem dL_stands_17 : decode cL_stands 17 = .ok (.bipush 8, 2) := by decide +kernel
theorem dL_stands_19 : decode cL_stands 19 = .ok (.istore 6, 2) := by decide +kernel
theorem dL_stands_21 : decode cL_stands 21 = .ok (.iload 6, 2) := by decide +kernel
theorem dL_stands_23 : decode cL_stands 23 = .ok (.ifCond .lt 42, 3) := by decide +kernel
theorem dL_stands_26 : decode cL_stands 26 = .ok (.aload_n 1, 1) := by decide +kernel
theorem dL_stands_27 : decode cL_stands 27 = .ok (.iload 4, 2) := by decide +kernel
theorem dL_stands_29 : decode cL_stands 29 = .ok (.aload_n 2, 1) := by decide +kernel
theorem dL_stands_30 : decode cL_stands 30 = .ok (.bipush 12, 2) := by decide +kernel
theorem dL_stands_32 : decode cL_stands 32 = .ok (.iaload, 1) := by decide +kernel
theorem dL_stands_33 : decode cL_stands 33 = .ok (.iload 6, 2) := by decide +kernel
theorem dL_stands_35 : decode cL_stands 35 = .ok (.iadd, 1) := by decide +kernel
theorem dL_stands_36 : decode cL_stands 36 = .ok (.invokestatic 24, 3) := by decide +kernel
theorem dL_stands_39 : decode cL_stands 39 = .ok (.aload_n 1, 1) := by decide +kernel
theorem dL_stands_40 : decode cL_stands 40 = .ok (.iload 4, 2) := by decide +kernel
theorem dL_stands_42 : decode cL_stands 42 = .ok (.aload_n 2, 1) := by decide +kernel
theorem dL_stands_43 : decode cL_stands 43 = .ok (.bipush 12, 2) := by decide +kernel
theorem dL_stands_45 : decode cL_stands 45 = .ok (.iaload, 1) := by decide +kernel
theorem dL_stands_46 : decode cL_stands 46 = .ok (.iload 5, 2) := by decide +kernel
theorem dL_stands_48 : decode cL_stands 48 = .ok (.iadd, 1) := by decide +kernel
theorem dL_stands_49 : decode cL_stands 49 = .ok (.invokestatic 24, 3) := by decide +kernel
theorem dL_stands_52 : decode cL_stands 52 = .ok (.if_icmp .lt 7, 3) := by decide +kernel
theorem dL_stands_55 : decode cL_stands 55 = .ok (.iload 6, 2) := by decide +kernel
theorem dL_stands_57 : decode cL_stands 57 = .ok (.istore 5, 2) := by decide +kernel
theorem dL_stands_59 : decode cL_stands 59 = .ok (.iinc 6 (-1), 3) := by decide +kernel
theorem dL_stands_62 : decode cL_stands 62 = .ok (.goto (-41), 3) := by decide +kernel
theorem dL_stands_65 : decode cL_stands 65 = .ok (.aload_n 0, 1) := by decide +kernel
theorem dL_stands_66 : decode cL_stands 66 = .ok (.iload 4, 2) := by decide +kernel
theorem dL_stands_68 : decode cL_stands 68 = .ok (.iconst 0, 1) := by decide +kernel
theorem dL_stands_69 : decode cL_stands 69 = .ok (.invokevirtual 27, 3) := by decide +kernel
theorem dL_stands_72 : decode cL_stands 72 = .ok (.aload_n 1, 1) := by decide +kernel
theorem dL_stands_73 : decode cL_stands 73 = .ok (.iconst 1, 1) := by decide +kernel
theorem dL_stands_74 : decode cL_stands 74 = .ok (.iload 4, 2) := by decide +kernel
theorem dL_stands_76 : decode cL_stands 76 = .ok (.iadd, 1) := by decide +kernel
theorem dL_stands_77 : decode cL_stands 77 = .ok (.iaload, 1) := by decide +kernel
theorem dL_stands_78 : decode cL_stands 78 = .ok (.if_icmp .ne 133, 3) := by decide +kernel
theorem dL_stands_81 : decode cL_stands 81 = .ok (.aload_n 0, 1) := by decide +kernel
theorem dL_stands_82 : decode cL_stands 82 = .ok (.iload 4, 2) := by decide +kernel
theorem dL_stands_84 : decode cL_stands 84 = .ok (.iconst 1, 1) := by decide +kernel
theorem dL_stands_85 : decode cL_stands 85 = .ok (.invokevirtual 27, 3) := by decide +kernel
theorem dL_stands_88 : decode cL_stands 88 = .ok (.aload_n 1, 1) := by decide +kernel
theorem dL_stands_89 : decode cL_stands 89 = .ok (.bipush 7, 2) := by decide +kernel
theorem dL_stands_91 : decode cL_stands 91 = .ok (.iload 4, 2) := by decide +kernel
theorem dL_stands_93 : decode cL_stands 93 = .ok (.iadd, 1) := by decide +kernel
theorem dL_stands_94 : decode cL_stands 94 = .ok (.iaload, 1) := by decide +kernel
theorem dL_stands_95 : decode cL_stands 95 = .ok (.if_icmp .ne 116, 3) := by decide +kernel
theorem dL_stands_98 : decode cL_stands 98 = .ok (.aload_n 0, 1) := by decide +kernel
theorem dL_stands_99 : decode cL_stands 99 = .ok (.iload 4, 2) := by decide +kernel
theorem dL_stands_101 : decode cL_stands 101 = .ok (.iconst 2, 1) := by decide +kernel
theorem dL_stands_102 : decode cL_stands 102 = .ok (.invokevirtual 27, 3) := by decide +kernel
theorem dL_stands_105 : decode cL_stands 105 = .ok (.aload_n 1, 1) := by decide +kernel
theorem dL_stands_106 : decode cL_stands 106 = .ok (.bipush 13, 2) := by decide +kernel
theorem dL_stands_108 : decode cL_stands 108 = .ok (.iload 4, 2) := by decide +kernel
theorem dL_stands_110 : decode cL_stands 110 = .ok (.iadd, 1) := by decide +kernel
theorem dL_stands_111 : decode cL_stands 111 = .ok (.iaload, 1) := by decide +kernel
theorem dL_stands_112 : decode cL_stands 112 = .ok (.if_icmp .ne 99, 3) := by decide +kernel
theorem dL_stands_115 : decode cL_stands 115 = .ok (.aload_n 0, 1) := by decide +kernel
theorem dL_stands_116 : decode cL_stands 116 = .ok (.iload 4, 2) := by decide +kernel
theorem dL_stands_118 : decode cL_stands 118 = .ok (.iconst 3, 1) := by decide +kernel
theorem dL_stands_119 : decode cL_stands 119 = .ok (.invokevirtual 27, 3) := by decide +kernel
theorem dL_stands_122 : decode cL_stands 122 = .ok (.aload_n 2, 1) := by decide +kernel
theorem dL_stands_123 : decode cL_stands 123 = .ok (.iload 4, 2) := by decide +kernel
theorem dL_stands_125 : decode cL_stands 125 = .ok (.iaload, 1) := by decide +kernel
theorem dL_stands_126 : decode cL_stands 126 = .ok (.if_icmp .ne 85, 3) := by decide +kernel
theorem dL_stands_129 : decode cL_stands 129 = .ok (.aload_n 0, 1) := by decide +kernel
theorem dL_stands_130 : decode cL_stands 130 = .ok (.iload 4, 2) := by decide +kernel
theorem dL_stands_132 : decode cL_stands 132 = .ok (.iconst 4, 1) := by decide +kernel
theorem dL_stands_133 : decode cL_stands 133 = .ok (.invokevirtual 27, 3) := by decide +kernel
theorem dL_stands_136 : decode cL_stands 136 = .ok (.aload_n 1, 1) := by decide +kernel
theorem dL_stands_137 : decode cL_stands 137 = .ok (.iload 4, 2) := by decide +kernel
theorem dL_stands_139 : decode cL_stands 139 = .ok (.aload_n 2, 1) := by decide +kernel
theorem dL_stands_140 : decode cL_stands 140 = .ok (.bipush 12, 2) := by decide +kernel
theorem dL_stands_142 : decode cL_stands 142 = .ok (.iaload, 1) := by decide +kernel
theorem dL_stands_143 : decode cL_stands 143 = .ok (.invokestatic 20, 3) := by decide +kernel
theorem dL_stands_146 : decode cL_stands 146 = .ok (.if_icmp .ne 65, 3) := by decide +kernel
theorem dL_stands_149 : decode cL_stands 149 = .ok (.aload_n 0, 1) := by decide +kernel
theorem dL_stands_150 : decode cL_stands 150 = .ok (.iload 4, 2) := by decide +kernel
theorem dL_stands_152 : decode cL_stands 152 = .ok (.iconst 5, 1) := by decide +kernel
theorem dL_stands_153 : decode cL_stands 153 = .ok (.invokevirtual 27, 3) := by decide +kernel
theorem dL_stands_156 : decode cL_stands 156 = .ok (.bipush 100, 2) := by decide +kernel
theorem dL_stands_158 : decode cL_stands 158 = .ok (.aload_n 1, 1) := by decide +kernel
theorem dL_stands_159 : decode cL_stands 159 = .ok (.iload 4, 2) := by decide +kernel
theorem dL_stands_161 : decode cL_stands 161 = .ok (.aload_n 2, 1) := by decide +kernel
theorem dL_stands_162 : decode cL_stands 162 = .ok (.bipush 12, 2) := by decide +kernel
theorem dL_stands_164 : decode cL_stands 164 = .ok (.iaload, 1) := by decide +kernel
theorem dL_stands_165 : decode cL_stands 165 = .ok (.invokestatic 24, 3) := by decide +kernel
theorem dL_stands_168 : decode cL_stands 168 = .ok (.iadd, 1) := by decide +kernel
theorem dL_stands_169 : decode cL_stands 169 = .ok (.aload_n 2, 1) := by decide +kernel
theorem dL_stands_170 : decode cL_stands 170 = .ok (.bipush 6, 2) := by decide +kernel
theorem dL_stands_172 : decode cL_stands 172 = .ok (.iload 4, 2) := by decide +kernel
theorem dL_stands_174 : decode cL_stands 174 = .ok (.iadd, 1) := by decide +kernel
theorem dL_stands_175 : decode cL_stands 175 = .ok (.iaload, 1) := by decide +kernel
theorem dL_stands_176 : decode cL_stands 176 = .ok (.isub, 1) := by decide +kernel
theorem dL_stands_177 : decode cL_stands 177 = .ok (.if_icmp .ne 34, 3) := by decide +kernel
theorem dL_stands_180 : decode cL_stands 180 = .ok (.aload_n 0, 1) := by decide +kernel
theorem dL_stands_181 : decode cL_stands 181 = .ok (.iload 4, 2) := by decide +kernel
theorem dL_stands_183 : decode cL_stands 183 = .ok (.bipush 6, 2) := by decide +kernel
theorem dL_stands_185 : decode cL_stands 185 = .ok (.invokevirtual 27, 3) := by decide +kernel
theorem dL_stands_188 : decode cL_stands 188 = .ok (.aload_n 2, 1) := by decide +kernel
theorem dL_stands_189 : decode cL_stands 189 = .ok (.bipush 6, 2) := by decide +kernel
theorem dL_stands_191 : decode cL_stands 191 = .ok (.iload 4, 2) := by decide +kernel
theorem dL_stands_193 : decode cL_stands 193 = .ok (.iadd, 1) := by decide +kernel
theorem dL_stands_194 : decode cL_stands 194 = .ok (.iaload, 1) := by decide +kernel
theorem dL_stands_195 : decode cL_stands 195 = .ok (.if_icmp .ne 16, 3) := by decide +kernel
theorem dL_stands_198 : decode cL_stands 198 = .ok (.aload_n 0, 1) := by decide +kernel
theorem dL_stands_199 : decode cL_stands 199 = .ok (.iload 4, 2) := by decide +kernel
theorem dL_stands_201 : decode cL_stands 201 = .ok (.bipush 7, 2) := by decide +kernel
theorem dL_stands_203 : decode cL_stands 203 = .ok (.invokevirtual 27, 3) := by decide +kernel
theorem dL_stands_206 : decode cL_stands 206 = .ok (.iload 5, 2) := by decide +kernel
theorem dL_stands_208 : decode cL_stands 208 = .ok (.if_icmp .eq 5, 3) := by decide +kernel
theorem dL_stands_211 : decode cL_stands 211 = .ok (.iconst 0, 1) := by decide +kernel
theorem dL_stands_212 : decode cL_stands 212 = .ok (.ireturn, 1) := by decide +kernel
theorem dL_stands_213 : decode cL_stands 213 = .ok (.iload_n 3, 1) := by decide +kernel
theorem dL_stands_214 : decode cL_stands 214 = .ok (.aload_n 2, 1) := by decide +kernel
theorem dL_stands_215 : decode cL_stands 215 = .ok (.iload 4, 2) := by decide +kernel
theorem dL_stands_217 : decode cL_stands 217 = .ok (.iaload, 1) := by decide +kernel
theorem dL_stands_218 : decode cL_stands 218 = .ok (.ifCond .ne 7, 3) := by decide +kernel
theorem dL_stands_221 : decode cL_stands 221 = .ok (.iconst 1, 1) := by decide +kernel
theorem dL_stands_222 : decode cL_stands 222 = .ok (.goto 4, 3) := by decide +kernel
theorem dL_stands_225 : decode cL_stands 225 = .ok (.iconst 0, 1) := by decide +kernel
theorem dL_stands_226 : decode cL_stands 226 = .ok (.iadd, 1) := by decide +kernel
theorem dL_stands_227 : decode cL_stands 227 = .ok (.istore_n 3, 1) := by decide +kernel
theorem dL_stands_228 : decode cL_stands 228 = .ok (.iinc 4 1, 3) := by decide +kernel
theorem dL_stands_231 : decode cL_stands 231 = .ok (.goto (-226), 3) := by decide +kernel
theorem dL_stands_234 : decode cL_stands 234 = .ok (.aload_n 0, 1) := by decide +kernel
theorem dL_stands_235 : decode cL_stands 235 = .ok (.iconst 0, 1) := by decide +kernel
theorem dL_stands_236 : decode cL_stands 236 = .ok (.invokevirtual 30, 3) := by decide +kernel
theorem dL_stands_239 : decode cL_stands 239 = .ok (.aload_n 1, 1) := by decide +kernel
theorem dL_stands_240 : decode cL_stands 240 = .ok (.iconst 0, 1) := by decide +kernel
theorem dL_stands_241 : decode cL_stands 241 = .ok (.iaload, 1) := by decide +kernel
theorem dL_stands_242 : decode cL_stands 242 = .ok (.if_icmp .ne 81, 3) := by decide +kernel
theorem dL_stands_245 : decode cL_stands 245 = .ok (.aload_n 0, 1) := by decide +kernel
theorem dL_stands_246 : decode cL_stands 246 = .ok (.iconst 1, 1) := by decide +kernel
theorem dL_stands_247 : decode cL_stands 247 = .ok (.invokevirtual 30, 3) := by decide +kernel
theorem dL_stands_250 : decode cL_stands 250 = .ok (.aload_n 2, 1) := by decide +kernel
theorem dL_stands_251 : decode cL_stands 251 = .ok (.bipush 12, 2) := by decide +kernel
theorem dL_stands_253 : decode cL_stands 253 = .ok (.iaload, 1) := by decide +kernel
theorem dL_stands_254 : decode cL_stands 254 = .ok (.if_icmp .ne 69, 3) := by decide +kernel
theorem dL_stands_257 : decode cL_stands 257 = .ok (.aload_n 0, 1) := by decide +kernel
theorem dL_stands_258 : decode cL_stands 258 = .ok (.iconst 2, 1) := by decide +kernel
theorem dL_stands_259 : decode cL_stands 259 = .ok (.invokevirtual 30, 3) := by decide +kernel
theorem dL_stands_262 : decode cL_stands 262 = .ok (.aload_n 2, 1) := by decide +kernel
theorem dL_stands_263 : decode cL_stands 263 = .ok (.invokestatic 33, 3) := by decide +kernel
theorem dL_stands_266 : decode cL_stands 266 = .ok (.if_icmp .ne 57, 3) := by decide +kernel
theorem dL_stands_269 : decode cL_stands 269 = .ok (.aload_n 0, 1) := by decide +kernel
theorem dL_stands_270 : decode cL_stands 270 = .ok (.iconst 3, 1) := by decide +kernel
theorem dL_stands_271 : decode cL_stands 271 = .ok (.invokevirtual 30, 3) := by decide +kernel
theorem dL_stands_274 : decode cL_stands 274 = .ok (.sipush 2000, 3) := by decide +kernel
theorem dL_stands_277 : decode cL_stands 277 = .ok (.aload_n 2, 1) := by decide +kernel
theorem dL_stands_278 : decode cL_stands 278 = .ok (.bipush 13, 2) := by decide +kernel
theorem dL_stands_280 : decode cL_stands 280 = .ok (.iaload, 1) := by decide +kernel
theorem dL_stands_281 : decode cL_stands 281 = .ok (.iadd, 1) := by decide +kernel
theorem dL_stands_282 : decode cL_stands 282 = .ok (.if_icmp .ne 41, 3) := by decide +kernel
theorem dL_stands_285 : decode cL_stands 285 = .ok (.aload_n 0, 1) := by decide +kernel
theorem dL_stands_286 : decode cL_stands 286 = .ok (.iconst 4, 1) := by decide +kernel
theorem dL_stands_287 : decode cL_stands 287 = .ok (.invokevirtual 30, 3) := by decide +kernel
theorem dL_stands_290 : decode cL_stands 290 = .ok (.iload_n 3, 1) := by decide +kernel
theorem dL_stands_291 : decode cL_stands 291 = .ok (.if_icmp .ne 32, 3) := by decide +kernel
theorem dL_stands_294 : decode cL_stands 294 = .ok (.aload_n 0, 1) := by decide +kernel
theorem dL_stands_295 : decode cL_stands 295 = .ok (.iconst 5, 1) := by decide +kernel
theorem dL_stands_296 : decode cL_stands 296 = .ok (.invokevirtual 30, 3) := by decide +kernel
theorem dL_stands_299 : decode cL_stands 299 = .ok (.aload_n 2, 1) := by decide +kernel
theorem dL_stands_300 : decode cL_stands 300 = .ok (.bipush 14, 2) := by decide +kernel
theorem dL_stands_302 : decode cL_stands 302 = .ok (.iaload, 1) := by decide +kernel
theorem dL_stands_303 : decode cL_stands 303 = .ok (.if_icmp .ne 20, 3) := by decide +kernel
theorem dL_stands_306 : decode cL_stands 306 = .ok (.aload_n 0, 1) := by decide +kernel
theorem dL_stands_307 : decode cL_stands 307 = .ok (.bipush 6, 2) := by decide +kernel
theorem dL_stands_309 : decode cL_stands 309 = .ok (.invokevirtual 30, 3) := by decide +kernel
theorem dL_stands_312 : decode cL_stands 312 = .ok (.aload_n 2, 1) := by decide +kernel
theorem dL_stands_313 : decode cL_stands 313 = .ok (.bipush 15, 2) := by decide +kernel
theorem dL_stands_315 : decode cL_stands 315 = .ok (.iaload, 1) := by decide +kernel
theorem dL_stands_316 : decode cL_stands 316 = .ok (.if_icmp .ne 7, 3) := by decide +kernel
theorem dL_stands_319 : decode cL_stands 319 = .ok (.iconst 1, 1) := by decide +kernel
theorem dL_stands_320 : decode cL_stands 320 = .ok (.goto 4, 3) := by decide +kernel
theorem dL_stands_323 : decode cL_stands 323 = .ok (.iconst 0, 1) := by decide +kernel
theorem dL_stands_324 : decode cL_stands 324 = .ok (.ireturn, 1) := by decide +kernel
set_option maxRecDepth 20000 in
theorem ggL_does_L_at : GoodIn wsL_does wsL_at := goodIn_r _ [4] (by decide +kernel) (by decide +kernel)
set_option maxRecDepth 20000 in
theorem gL_does_L_at : GoodIn wsL_does (va_wsS RL 8 yL_at wsL_at) := goodIn_app (goodIn_of _ (by decide +kernel)) ggL_does_L_at
set_option maxRecDepth 20000 in
theorem ggL_does_X6_eat : GoodIn wsL_does wsX6_eat := goodIn_r _ [9, 10, 11, 12, 13, 8, 14, 15, 16, 17, 18, 19, 20, 21, 22, 23, 24, 25, 26, 27, 28, 29, 30, 31, 32, 33, 34, 35, 36, 37, 38, 39, 40, 41, 42, 43, 44, 45, 46, 47, 48, 49, 50, 51, 52, 53, 54, 55, 56, 57, 58, 59, 60, 61, 62, 63, 64, 65, 66, 67, 68, 69, 70, 71, 72, 73, 74, 75, 76, 77, 78, 79, 80, 81, 82, 118, 119, 120, 121, 122, 123, 124, 125, 126, 127, 128, 129, 130, 131, 132, 133, 134, 135, 136, 137, 138, 139, 140, 141, 142, 143, 144, 145, 146, 147, 148, 149, 150, 151, 152, 153] (by decide +kernel) (by decide +kernel)
set_option maxRecDepth 20000 in
theorem gL_does_X6_eat : GoodIn wsL_does (wsV RL 37 RX6 yX6_eat wsX6_eat) := goodIn_app (goodIn_of _ (by decide +kernel)) ggL_does_X6_eat
set_option maxRecDepth 20000 in
theorem ggL_does_L_eat : GoodIn wsL_does wsL_eat := goodIn_r _ [85, 86, 87, 3, 88, 89, 90, 91] (by decide +kernel) (by decide +kernel)
set_option maxRecDepth 20000 in
theorem gL_does_L_eat : GoodIn wsL_does (va_wsS RL 40 yL_eat wsL_eat) := goodIn_app (goodIn_of _ (by decide +kernel)) ggL_does_L_eat
set_option maxRecDepth 20000 in
theorem ggL_does_X6_wasps : GoodIn wsL_does wsX6_wasps := goodIn_r _ [95, 10, 11, 12, 13, 8, 14, 15, 16, 96, 97, 98, 69, 99, 76, 100, 79, 80, 81, 82, 101, 118, 119, 120, 121, 122, 123, 124, 125, 126, 127, 128, 129, 130, 131, 132, 133, 134, 135, 136, 137, 138] (by decide +kernel) (by decide +kernel)
set_option maxRecDepth 20000 in
theorem gL_does_X6_wasps : GoodIn wsL_does (wsV RL 43 RX6 yX6_wasps wsX6_wasps) := goodIn_app (goodIn_of _ (by decide +kernel)) ggL_does_X6_wasps
set_option maxRecDepth 20000 in
theorem ggL_does_L_goOn : GoodIn wsL_does wsL_goOn := goodIn_r _ [104] (by decide +kernel) (by decide +kernel)
set_option maxRecDepth 20000 in
theorem gL_does_L_goOn : GoodIn wsL_does (va_wsS RL 46 yL_goOn wsL_goOn) := goodIn_app (goodIn_of _ (by decide +kernel)) ggL_does_L_goOn
set_option maxRecDepth 20000 in
theorem ggL_does_X6_year : GoodIn wsL_does wsX6_year := goodIn_r _ [108, 10, 21, 109, 110, 111, 8, 112, 15, 113, 114, 115, 69, 116, 117, 71, 118, 119, 120, 121, 122, 123, 124, 125, 126, 127, 128, 129, 130, 131, 132, 133, 134, 135, 136, 137, 138] (by decide +kernel) (by decide +kernel)
set_option maxRecDepth 20000 in
theorem gL_does_X6_year : GoodIn wsL_does (wsV RL 50 RX6 yX6_year wsX6_year) := goodIn_app (goodIn_of _ (by decide +kernel)) ggL_does_X6_year
theorem dL_does_0 : decode cL_does 0 = .ok (.iload_n 3, 1) := by decide +kernel
theorem dL_does_1 : decode cL_does 1 = .ok (.bipush 10, 2) := by decide +kernel
theorem dL_does_3 : decode cL_does 3 = .ok (.invokestatic 8, 3) := by decide +kernel
theorem dL_does_6 : decode cL_does 6 = .ok (.istore 4, 2) := by decide +kernel
theorem dL_does_8 : decode cL_does 8 = .ok (.iload_n 3, 1) := by decide +kernel
theorem dL_does_9 : decode cL_does 9 = .ok (.iconst 4, 1) := by decide +kernel
theorem dL_does_10 : decode cL_does 10 = .ok (.ishr, 1) := by decide +kernel
theorem dL_does_11 : decode cL_does 11 = .ok (.aload_n 1, 1) := by decide +kernel
theorem dL_does_12 : decode cL_does 12 = .ok (.iconst 0, 1) := by decide +kernel
theorem dL_does_13 : decode cL_does 13 = .ok (.iaload, 1) := by decide +kernel
theorem dL_does_14 : decode cL_does 14 = .ok (.invokestatic 8, 3) := by decide +kernel
theorem dL_does_17 : decode cL_does 17 = .ok (.istore 5, 2) := by decide +kernel
theorem dL_does_19 : decode cL_does 19 = .ok (.iload 4, 2) := by decide +kernel
theorem dL_does_21 : decode cL_does 21 = .ok (.bipush 6, 2) := by decide +kernel
theorem dL_does_23 : decode cL_does 23 = .ok (.if_icmp .ge 56, 3) := by decide +kernel
theorem dL_does_26 : decode cL_does 26 = .ok (.aload_n 2, 1) := by decide +kernel
theorem dL_does_27 : decode cL_does 27 = .ok (.iload 5, 2) := by decide +kernel
theorem dL_does_29 : decode cL_does 29 = .ok (.iaload, 1) := by decide +kernel
theorem dL_does_30 : decode cL_does 30 = .ok (.ifCond .ne 20, 3) := by decide +kernel
theorem dL_does_33 : decode cL_does 33 = .ok (.aload_n 0, 1) := by decide +kernel
theorem dL_does_34 : decode cL_does 34 = .ok (.iload 5, 2) := by decide +kernel
theorem dL_does_36 : decode cL_does 36 = .ok (.invokevirtual 37, 3) := by decide +kernel
theorem dL_does_39 : decode cL_does 39 = .ok (.bipush (-103), 2) := by decide +kernel
theorem dL_does_41 : decode cL_does 41 = .ok (.if_icmp .ne 7, 3) := by decide +kernel
theorem dL_does_44 : decode cL_does 44 = .ok (.iconst 1, 1) := by decide +kernel
theorem dL_does_45 : decode cL_does 45 = .ok (.goto 4, 3) := by decide +kernel
theorem dL_does_48 : decode cL_does 48 = .ok (.iconst 0, 1) := by decide +kernel
theorem dL_does_49 : decode cL_does 49 = .ok (.ireturn, 1) := by decide +kernel
theorem dL_does_50 : decode cL_does 50 = .ok (.aload_n 1, 1) := by decide +kernel
theorem dL_does_51 : decode cL_does 51 = .ok (.aload_n 2, 1) := by decide +kernel
theorem dL_does_52 : decode cL_does 52 = .ok (.iload 5, 2) := by decide +kernel
theorem dL_does_54 : decode cL_does 54 = .ok (.invokestatic 40, 3) := by decide +kernel
theorem dL_does_57 : decode cL_does 57 = .ok (.istore 6, 2) := by decide +kernel
theorem dL_does_59 : decode cL_does 59 = .ok (.aload_n 0, 1) := by decide +kernel
theorem dL_does_60 : decode cL_does 60 = .ok (.iload 5, 2) := by decide +kernel
theorem dL_does_62 : decode cL_does 62 = .ok (.invokevirtual 37, 3) := by decide +kernel
theorem dL_does_65 : decode cL_does 65 = .ok (.bipush 100, 2) := by decide +kernel
theorem dL_does_67 : decode cL_does 67 = .ok (.iload 6, 2) := by decide +kernel
theorem dL_does_69 : decode cL_does 69 = .ok (.iadd, 1) := by decide +kernel
theorem dL_does_70 : decode cL_does 70 = .ok (.if_icmp .ne 7, 3) := by decide +kernel
theorem dL_does_73 : decode cL_does 73 = .ok (.iconst 1, 1) := by decide +kernel
theorem dL_does_74 : decode cL_does 74 = .ok (.goto 4, 3) := by decide +kernel
theorem dL_does_77 : decode cL_does 77 = .ok (.iconst 0, 1) := by decide +kernel
theorem dL_does_78 : decode cL_does 78 = .ok (.ireturn, 1) := by decide +kernel
theorem dL_does_79 : decode cL_does 79 = .ok (.iload 4, 2) := by decide +kernel
theorem dL_does_81 : decode cL_does 81 = .ok (.bipush 7, 2) := by decide +kernel
theorem dL_does_83 : decode cL_does 83 = .ok (.if_icmp .ge 62, 3) := by decide +kernel
theorem dL_does_86 : decode cL_does 86 = .ok (.aload_n 2, 1) := by decide +kernel
theorem dL_does_87 : decode cL_does 87 = .ok (.iload 5, 2) := by decide +kernel
theorem dL_does_89 : decode cL_does 89 = .ok (.iaload, 1) := by decide +kernel
theorem dL_does_90 : decode cL_does 90 = .ok (.ifCond .ne 20, 3) := by decide +kernel
theorem dL_does_93 : decode cL_does 93 = .ok (.aload_n 0, 1) := by decide +kernel
theorem dL_does_94 : decode cL_does 94 = .ok (.iload 5, 2) := by decide +kernel
theorem dL_does_96 : decode cL_does 96 = .ok (.invokevirtual 43, 3) := by decide +kernel
theorem dL_does_99 : decode cL_does 99 = .ok (.bipush (-103), 2) := by decide +kernel
theorem dL_does_101 : decode cL_does 101 = .ok (.if_icmp .ne 7, 3) := by decide +kernel
theorem dL_does_104 : decode cL_does 104 = .ok (.iconst 1, 1) := by decide +kernel
theorem dL_does_105 : decode cL_does 105 = .ok (.goto 4, 3) := by decide +kernel
theorem dL_does_108 : decode cL_does 108 = .ok (.iconst 0, 1) := by decide +kernel
theorem dL_does_109 : decode cL_does 109 = .ok (.ireturn, 1) := by decide +kernel
theorem dL_does_110 : decode cL_does 110 = .ok (.aload_n 2, 1) := by decide +kernel
theorem dL_does_111 : decode cL_does 111 = .ok (.iload 5, 2) := by decide +kernel
theorem dL_does_113 : decode cL_does 113 = .ok (.dup2, 1) := by decide +kernel
theorem dL_does_114 : decode cL_does 114 = .ok (.iaload, 1) := by decide +kernel
theorem dL_does_115 : decode cL_does 115 = .ok (.iconst 1, 1) := by decide +kernel
theorem dL_does_116 : decode cL_does 116 = .ok (.isub, 1) := by decide +kernel
theorem dL_does_117 : decode cL_does 117 = .ok (.iastore, 1) := by decide +kernel
theorem dL_does_118 : decode cL_does 118 = .ok (.aload_n 2, 1) := by decide +kernel
theorem dL_does_119 : decode cL_does 119 = .ok (.bipush 15, 2) := by decide +kernel
theorem dL_does_121 : decode cL_does 121 = .ok (.dup2, 1) := by decide +kernel
theorem dL_does_122 : decode cL_does 122 = .ok (.iaload, 1) := by decide +kernel
theorem dL_does_123 : decode cL_does 123 = .ok (.iconst 1, 1) := by decide +kernel
theorem dL_does_124 : decode cL_does 124 = .ok (.iadd, 1) := by decide +kernel
theorem dL_does_125 : decode cL_does 125 = .ok (.iastore, 1) := by decide +kernel
theorem dL_does_126 : decode cL_does 126 = .ok (.aload_n 0, 1) := by decide +kernel
theorem dL_does_127 : decode cL_does 127 = .ok (.iload 5, 2) := by decide +kernel
theorem dL_does_129 : decode cL_does 129 = .ok (.invokevirtual 43, 3) := by decide +kernel
theorem dL_does_132 : decode cL_does 132 = .ok (.aload_n 2, 1) := by decide +kernel
theorem dL_does_133 : decode cL_does 133 = .ok (.iload 5, 2) := by decide +kernel
theorem dL_does_135 : decode cL_does 135 = .ok (.iaload, 1) := by decide +kernel
theorem dL_does_136 : decode cL_does 136 = .ok (.if_icmp .ne 7, 3) := by decide +kernel
theorem dL_does_139 : decode cL_does 139 = .ok (.iconst 1, 1) := by decide +kernel
theorem dL_does_140 : decode cL_does 140 = .ok (.goto 4, 3) := by decide +kernel
theorem dL_does_143 : decode cL_does 143 = .ok (.iconst 0, 1) := by decide +kernel
theorem dL_does_144 : decode cL_does 144 = .ok (.ireturn, 1) := by decide +kernel
theorem dL_does_145 : decode cL_does 145 = .ok (.aload_n 2, 1) := by decide +kernel
theorem dL_does_146 : decode cL_does 146 = .ok (.invokestatic 46, 3) := by decide +kernel
theorem dL_does_149 : decode cL_does 149 = .ok (.aload_n 0, 1) := by decide +kernel
theorem dL_does_150 : decode cL_does 150 = .ok (.invokevirtual 50, 3) := by decide +kernel
theorem dL_does_153 : decode cL_does 153 = .ok (.aload_n 2, 1) := by decide +kernel
theorem dL_does_154 : decode cL_does 154 = .ok (.bipush 12, 2) := by decide +kernel
theorem dL_does_156 : decode cL_does 156 = .ok (.iaload, 1) := by decide +kernel
theorem dL_does_157 : decode cL_does 157 = .ok (.if_icmp .ne 7, 3) := by decide +kernel
theorem dL_does_160 : decode cL_does 160 = .ok (.iconst 1, 1) := by decide +kernel
theorem dL_does_161 : decode cL_does 161 = .ok (.goto 4, 3) := by decide +kernel
theorem dL_does_164 : decode cL_does 164 = .ok (.iconst 0, 1) := by decide +kernel
theorem dL_does_165 : decode cL_does 165 = .ok (.ireturn, 1) := by decide +kernel
set_option maxRecDepth 20000 in
theorem ggL_law_X6_init : GoodIn wsL_law wsX6_init := goodIn_r _ [7, 8, 9, 10, 3, 11, 12, 13, 14, 15, 16, 17, 18, 19, 20, 21, 22, 23, 24, 25, 26, 27, 28, 29, 30, 31, 32, 33, 34, 35, 36, 37, 38, 345, 346, 347, 348, 349, 350, 351, 352, 353, 354, 355, 356, 357, 358, 359, 360, 361, 362, 363, 364, 365] (by decide +kernel) (by decide +kernel)
set_option maxRecDepth 20000 in
theorem gL_law_X6_init : GoodIn wsL_law (wsX6_init) := ggL_law_X6_init
set_option maxRecDepth 20000 in
theorem ggL_law_L_cell : GoodIn wsL_law wsL_cell := goodIn_r _ [42, 43] (by decide +kernel) (by decide +kernel)
set_option maxRecDepth 20000 in
theorem gL_law_L_cell : GoodIn wsL_law (va_wsS RL 55 yL_cell wsL_cell) := goodIn_app (goodIn_of _ (by decide +kernel)) ggL_law_L_cell
set_option maxRecDepth 20000 in
theorem ggL_law_L_larderText : GoodIn wsL_law wsL_larderText := goodIn_r _ [46, 47, 48, 41, 49] (by decide +kernel) (by decide +kernel)
set_option maxRecDepth 20000 in
theorem gL_law_L_larderText : GoodIn wsL_law (va_wsS RL 59 yL_larderText wsL_larderText) := goodIn_app (goodIn_of _ (by decide +kernel)) ggL_law_L_larderText
set_option maxRecDepth 20000 in
theorem ggL_law_L_begin : GoodIn wsL_law wsL_begin := goodIn_r _ [52] (by decide +kernel) (by decide +kernel)
set_option maxRecDepth 20000 in
theorem gL_law_L_begin : GoodIn wsL_law (va_wsS RL 63 yL_begin wsL_begin) := goodIn_app (goodIn_of _ (by decide +kernel)) ggL_law_L_begin
set_option maxRecDepth 20000 in
theorem ggL_law_L_write : GoodIn wsL_law wsL_write := goodIn_r _ [55, 56, 57, 58, 2, 59, 12, 11, 345, 346, 347, 348, 349, 350, 351, 352, 353, 354, 355, 356] (by decide +kernel) (by decide +kernel)
set_option maxRecDepth 20000 in
theorem gL_law_L_write : GoodIn wsL_law (va_wsS RL 67 yL_write wsL_write) := goodIn_app (goodIn_of _ (by decide +kernel)) ggL_law_L_write
set_option maxRecDepth 20000 in
theorem ggL_law_X6_fault : GoodIn wsL_law wsX6_fault := goodIn_r _ [63, 12, 64, 65, 66, 2, 67, 11, 68, 69, 70, 71, 72, 73, 345, 346, 347, 348, 349, 350, 351, 352, 353, 354, 355, 356] (by decide +kernel) (by decide +kernel)
set_option maxRecDepth 20000 in
theorem gL_law_X6_fault : GoodIn wsL_law (wsV RL 71 RX6 yX6_fault wsX6_fault) := goodIn_app (goodIn_of _ (by decide +kernel)) ggL_law_X6_fault
set_option maxRecDepth 20000 in
theorem ggL_law_X6_larder : GoodIn wsL_law wsX6_larder := goodIn_r _ [77, 12, 15, 14, 19, 22, 23, 78, 79, 80, 2, 81, 82, 61, 62, 63, 64, 65, 66, 67, 11, 68, 69, 70, 71, 72, 73, 83, 84, 85, 86, 87, 88, 89, 90, 91, 92, 93, 94, 95, 96, 97, 98, 13, 99, 100, 101, 102, 103, 104, 105, 106, 107, 9, 10, 108, 109, 110, 111, 112, 113, 114, 115, 116, 117, 118, 119, 120, 121, 122, 123, 124, 125, 126, 127, 128, 129, 130, 131, 132, 133, 134, 135, 136, 18, 137, 30, 31, 32, 33, 34, 35, 36, 345, 346, 347, 348, 349, 350, 351, 352, 353, 354, 355, 356, 366, 367, 368, 369, 370, 371, 372, 373, 374, 375, 376, 377, 378, 379, 380, 357, 358, 359, 360, 361, 362, 363, 364, 365] (by decide +kernel) (by decide +kernel)
set_option maxRecDepth 20000 in
theorem gL_law_X6_larder : GoodIn wsL_law (wsV RL 74 RX6 yX6_larder wsX6_larder) := goodIn_app (goodIn_of _ (by decide +kernel)) ggL_law_X6_larder
set_option maxRecDepth 20000 in
theorem ggL_law_L_stands : GoodIn wsL_law wsL_stands := goodIn_r _ [140, 141, 142, 41, 143, 144, 145, 146, 147, 148, 149, 2, 150, 151, 152, 19, 153, 154, 155, 156, 157, 15, 14, 158, 159, 160, 161, 162, 92, 163, 164, 165, 166, 98, 167, 168, 169, 170, 100, 171, 172, 95, 173, 174, 175, 89, 176, 177, 178, 179, 18, 180, 35, 181, 182, 183, 184, 185, 110, 186, 187, 188, 189, 190, 191, 192, 193, 194, 195, 196, 197, 198, 199, 200, 201, 202, 203, 108, 204, 205, 206, 207, 208, 209, 210, 211, 212, 213, 214, 215, 216, 217, 218, 219, 220, 221, 222, 223, 224, 225, 226, 227, 228, 229, 36, 230, 231, 232, 233, 234, 235, 236, 237, 238, 239, 240, 241, 12, 23, 24, 242, 243, 244, 245, 246, 247, 248, 249, 250, 251, 252, 369, 370, 371, 375, 376, 377, 378, 379, 380, 372, 373, 374, 366, 367, 368, 345, 346, 347, 348, 349, 350, 351, 352, 353, 354, 355, 356, 357, 358, 359, 360, 361, 362, 363, 364, 365] (by decide +kernel) (by decide +kernel)
set_option maxRecDepth 20000 in
theorem gL_law_L_stands : GoodIn wsL_law (va_wsS RL 77 yL_stands wsL_stands) := goodIn_app (goodIn_of _ (by decide +kernel)) ggL_law_L_stands
set_option maxRecDepth 20000 in
theorem ggL_law_X6_as : GoodIn wsL_law wsX6_as := goodIn_r _ [256, 154, 155, 156, 2, 157, 15, 14, 257, 258, 259, 260, 261, 262, 263, 345, 346, 347, 348, 349, 350, 351, 352, 353, 354, 355, 356] (by decide +kernel) (by decide +kernel)
set_option maxRecDepth 20000 in
theorem gL_law_X6_as : GoodIn wsL_law (wsV RL 81 RX6 yX6_as wsX6_as) := goodIn_app (goodIn_of _ (by decide +kernel)) ggL_law_X6_as
set_option maxRecDepth 20000 in
theorem ggL_law_L_at : GoodIn wsL_law wsL_at := goodIn_r _ [49] (by decide +kernel) (by decide +kernel)
set_option maxRecDepth 20000 in
theorem gL_law_L_at : GoodIn wsL_law (va_wsS RL 8 yL_at wsL_at) := goodIn_app (goodIn_of _ (by decide +kernel)) ggL_law_L_at
set_option maxRecDepth 20000 in
theorem ggL_law_L_does : GoodIn wsL_law wsL_does := goodIn_r _ [266, 47, 48, 41, 49, 267, 268, 269, 2, 270, 19, 154, 155, 156, 157, 15, 14, 191, 192, 193, 194, 153, 195, 196, 197, 198, 199, 200, 201, 202, 100, 203, 108, 204, 182, 183, 184, 185, 110, 186, 205, 188, 189, 190, 206, 207, 208, 98, 209, 210, 211, 212, 213, 214, 215, 216, 217, 218, 95, 219, 220, 221, 222, 223, 224, 225, 226, 227, 228, 18, 229, 36, 271, 272, 273, 274, 35, 31, 33, 275, 178, 179, 180, 276, 277, 278, 141, 142, 143, 144, 145, 146, 279, 280, 281, 282, 283, 284, 285, 286, 32, 177, 287, 288, 289, 290, 291, 292, 293, 294, 295, 296, 297, 298, 299, 300, 301, 30, 345, 346, 347, 348, 349, 350, 351, 352, 353, 354, 355, 356, 357, 358, 359, 360, 361, 362, 363, 364, 365, 369, 370, 371, 375, 376, 377, 378, 379, 380, 372, 373, 374, 366, 367, 368] (by decide +kernel) (by decide +kernel)
set_option maxRecDepth 20000 in
theorem gL_law_L_does : GoodIn wsL_law (va_wsS RL 84 yL_does wsL_does) := goodIn_app (goodIn_of _ (by decide +kernel)) ggL_law_L_does
set_option maxRecDepth 20000 in
theorem ggL_law_L_times : GoodIn wsL_law wsL_times := goodIn_r _ [304, 3, 305, 306, 307, 41, 308, 309, 310, 311, 312, 313, 314, 276, 277, 278, 141, 142, 143, 144, 145, 146, 287, 288, 289, 315, 316, 317, 2, 318, 21, 238, 294, 295, 296, 297, 15, 319, 320, 321, 322, 19, 153, 323, 324, 325, 18, 326, 30, 31, 32, 33, 34, 35, 36, 37, 38, 327, 328, 329, 330, 331, 332, 333, 334, 335, 336, 337, 283, 284, 285, 286, 275, 178, 179, 180, 195, 196, 197, 198, 154, 155, 156, 157, 14, 199, 200, 201, 202, 100, 203, 108, 204, 182, 183, 184, 185, 110, 186, 205, 188, 189, 190, 206, 207, 208, 98, 209, 210, 211, 212, 213, 214, 215, 216, 217, 218, 95, 219, 220, 221, 222, 223, 224, 225, 226, 227, 228, 229, 271, 272, 273, 274, 298, 299, 300, 301, 242, 243, 244, 245, 250, 251, 252, 345, 346, 347, 348, 349, 350, 351, 352, 353, 354, 355, 356, 357, 358, 359, 360, 361, 362, 363, 364, 365, 369, 370, 371, 375, 376, 377, 378, 379, 380, 372, 373, 374, 366, 367, 368] (by decide +kernel) (by decide +kernel)
set_option maxRecDepth 20000 in
theorem gL_law_L_times : GoodIn wsL_law (va_wsS RL 89 yL_times wsL_times) := goodIn_app (goodIn_of _ (by decide +kernel)) ggL_law_L_times
set_option maxRecDepth 20000 in
theorem ggL_law_X6_worth : GoodIn wsL_law wsX6_worth := goodIn_r _ [341, 154, 155, 156, 2, 157, 15, 14, 342, 343, 344, 195, 196, 197, 198, 199, 200, 201, 202, 100, 203, 108, 204, 182, 183, 184, 185, 110, 186, 205, 188, 189, 190, 206, 207, 208, 98, 209, 210, 211, 212, 213, 214, 215, 216, 217, 218, 95, 219, 220, 221, 222, 223, 224, 225, 345, 346, 347, 348, 349, 350, 351, 352, 353, 354, 355, 356, 369, 370, 371, 375, 376, 377, 378, 379, 380, 372, 373, 374, 366, 367, 368] (by decide +kernel) (by decide +kernel)
set_option maxRecDepth 20000 in
theorem gL_law_X6_worth : GoodIn wsL_law (wsV RL 93 RX6 yX6_worth wsX6_worth) := goodIn_app (goodIn_of _ (by decide +kernel)) ggL_law_X6_worth
set_option maxRecDepth 20000 in
theorem ggL_law_L_worth : GoodIn wsL_law wsL_worth := goodIn_r _ [143, 144, 145, 41, 146] (by decide +kernel) (by decide +kernel)
set_option maxRecDepth 20000 in
theorem gL_law_L_worth : GoodIn wsL_law (va_wsS RL 24 yL_worth wsL_worth) := goodIn_app (goodIn_of _ (by decide +kernel)) ggL_law_L_worth
set_option maxRecDepth 20000 in
theorem ggL_law_X6_jar : GoodIn wsL_law wsX6_jar := goodIn_r _ [150, 151, 152, 19, 153, 154, 155, 156, 2, 157, 15, 14, 158, 159, 160, 161, 162, 92, 163, 164, 165, 166, 98, 167, 168, 169, 170, 100, 171, 172, 95, 173, 174, 175, 89, 176, 177, 178, 179, 18, 180, 35, 181, 182, 183, 184, 185, 110, 186, 187, 188, 189, 190, 191, 192, 193, 194, 195, 196, 197, 198, 199, 200, 201, 202, 203, 108, 204, 205, 206, 207, 208, 209, 210, 211, 212, 213, 214, 215, 216, 217, 218, 219, 220, 221, 222, 223, 224, 225, 226, 227, 228, 229, 36, 230, 231, 232, 233, 369, 370, 371, 375, 376, 377, 378, 379, 380, 372, 373, 374, 366, 367, 368, 345, 346, 347, 348, 349, 350, 351, 352, 353, 354, 355, 356, 357, 358, 359, 360, 361, 362, 363, 364, 365] (by decide +kernel) (by decide +kernel)
set_option maxRecDepth 20000 in
theorem gL_law_X6_jar : GoodIn wsL_law (wsV RL 27 RX6 yX6_jar wsX6_jar) := goodIn_app (goodIn_of _ (by decide +kernel)) ggL_law_X6_jar
set_option maxRecDepth 20000 in
theorem ggL_law_X6_eat : GoodIn wsL_law wsX6_eat := goodIn_r _ [270, 19, 154, 155, 156, 2, 157, 15, 14, 191, 192, 193, 194, 153, 195, 196, 197, 198, 199, 200, 201, 202, 100, 203, 108, 204, 182, 183, 184, 185, 110, 186, 205, 188, 189, 190, 206, 207, 208, 98, 209, 210, 211, 212, 213, 214, 215, 216, 217, 218, 95, 219, 220, 221, 222, 223, 224, 225, 226, 227, 228, 18, 229, 36, 271, 272, 273, 274, 35, 31, 33, 275, 178, 179, 180, 345, 346, 347, 348, 349, 350, 351, 352, 353, 354, 355, 356, 357, 358, 359, 360, 361, 362, 363, 364, 365, 369, 370, 371, 375, 376, 377, 378, 379, 380, 372, 373, 374, 366, 367, 368] (by decide +kernel) (by decide +kernel)
set_option maxRecDepth 20000 in
theorem gL_law_X6_eat : GoodIn wsL_law (wsV RL 37 RX6 yX6_eat wsX6_eat) := goodIn_app (goodIn_of _ (by decide +kernel)) ggL_law_X6_eat
set_option maxRecDepth 20000 in
theorem ggL_law_X6_wasps : GoodIn wsL_law wsX6_wasps := goodIn_r _ [282, 19, 154, 155, 156, 2, 157, 15, 14, 283, 284, 285, 18, 286, 35, 32, 275, 178, 179, 180, 177, 345, 346, 347, 348, 349, 350, 351, 352, 353, 354, 355, 356, 357, 358, 359, 360, 361, 362, 363, 364, 365] (by decide +kernel) (by decide +kernel)
set_option maxRecDepth 20000 in
theorem gL_law_X6_wasps : GoodIn wsL_law (wsV RL 43 RX6 yX6_wasps wsX6_wasps) := goodIn_app (goodIn_of _ (by decide +kernel)) ggL_law_X6_wasps
set_option maxRecDepth 20000 in
theorem ggL_law_X6_times : GoodIn wsL_law wsX6_times := goodIn_r _ [318, 21, 238, 294, 295, 296, 2, 297, 15, 319, 320, 321, 322, 19, 153, 323, 324, 325, 18, 326, 30, 31, 32, 33, 34, 35, 36, 37, 38, 327, 328, 329, 330, 331, 332, 333, 334, 335, 336, 337, 283, 284, 285, 286, 275, 178, 179, 180, 195, 196, 197, 198, 154, 155, 156, 157, 14, 199, 200, 201, 202, 100, 203, 108, 204, 182, 183, 184, 185, 110, 186, 205, 188, 189, 190, 206, 207, 208, 98, 209, 210, 211, 212, 213, 214, 215, 216, 217, 218, 95, 219, 220, 221, 222, 223, 224, 225, 226, 227, 228, 229, 271, 272, 273, 274, 298, 299, 300, 301, 242, 243, 244, 245, 345, 346, 347, 348, 349, 350, 351, 352, 353, 354, 355, 356, 357, 358, 359, 360, 361, 362, 363, 364, 365, 369, 370, 371, 375, 376, 377, 378, 379, 380, 372, 373, 374, 366, 367, 368] (by decide +kernel) (by decide +kernel)
set_option maxRecDepth 20000 in
theorem gL_law_X6_times : GoodIn wsL_law (wsV RL 95 RX6 yX6_times wsX6_times) := goodIn_app (goodIn_of _ (by decide +kernel)) ggL_law_X6_times
theorem dL_law_0 : decode cL_law 0 = .ok (.new 15, 3) := by decide +kernel
theorem dL_law_3 : decode cL_law 3 = .ok (.dup, 1) := by decide +kernel
theorem dL_law_4 : decode cL_law 4 = .ok (.invokespecial 54, 3) := by decide +kernel
theorem dL_law_7 : decode cL_law 7 = .ok (.astore_n 1, 1) := by decide +kernel
theorem dL_law_8 : decode cL_law 8 = .ok (.bipush 19, 2) := by decide +kernel
theorem dL_law_10 : decode cL_law 10 = .ok (.newarray .int, 2) := by decide +kernel
theorem dL_law_12 : decode cL_law 12 = .ok (.astore_n 2, 1) := by decide +kernel
theorem dL_law_13 : decode cL_law 13 = .ok (.bipush 16, 2) := by decide +kernel
theorem dL_law_15 : decode cL_law 15 = .ok (.newarray .int, 2) := by decide +kernel
theorem dL_law_17 : decode cL_law 17 = .ok (.astore_n 3, 1) := by decide +kernel
theorem dL_law_18 : decode cL_law 18 = .ok (.bipush 25, 2) := by decide +kernel
theorem dL_law_20 : decode cL_law 20 = .ok (.newarray .int, 2) := by decide +kernel
theorem dL_law_22 : decode cL_law 22 = .ok (.astore 4, 2) := by decide +kernel
theorem dL_law_24 : decode cL_law 24 = .ok (.aload_n 0, 1) := by decide +kernel
theorem dL_law_25 : decode cL_law 25 = .ok (.iconst 0, 1) := by decide +kernel
theorem dL_law_26 : decode cL_law 26 = .ok (.invokestatic 55, 3) := by decide +kernel
theorem dL_law_29 : decode cL_law 29 = .ok (.aload_n 0, 1) := by decide +kernel
theorem dL_law_30 : decode cL_law 30 = .ok (.iconst 1, 1) := by decide +kernel
theorem dL_law_31 : decode cL_law 31 = .ok (.invokestatic 55, 3) := by decide +kernel
theorem dL_law_34 : decode cL_law 34 = .ok (.aload_n 0, 1) := by decide +kernel
theorem dL_law_35 : decode cL_law 35 = .ok (.iconst 2, 1) := by decide +kernel
theorem dL_law_36 : decode cL_law 36 = .ok (.invokestatic 55, 3) := by decide +kernel
theorem dL_law_39 : decode cL_law 39 = .ok (.aload_n 2, 1) := by decide +kernel
theorem dL_law_40 : decode cL_law 40 = .ok (.aload 4, 2) := by decide +kernel
theorem dL_law_42 : decode cL_law 42 = .ok (.invokestatic 59, 3) := by decide +kernel
theorem dL_law_45 : decode cL_law 45 = .ok (.istore 5, 2) := by decide +kernel
theorem dL_law_47 : decode cL_law 47 = .ok (.aload_n 2, 1) := by decide +kernel
theorem dL_law_48 : decode cL_law 48 = .ok (.aload_n 3, 1) := by decide +kernel
theorem dL_law_49 : decode cL_law 49 = .ok (.invokestatic 63, 3) := by decide +kernel
theorem dL_law_52 : decode cL_law 52 = .ok (.aload_n 1, 1) := by decide +kernel
theorem dL_law_53 : decode cL_law 53 = .ok (.aload 4, 2) := by decide +kernel
theorem dL_law_55 : decode cL_law 55 = .ok (.iload 5, 2) := by decide +kernel
theorem dL_law_57 : decode cL_law 57 = .ok (.invokestatic 67, 3) := by decide +kernel
theorem dL_law_60 : decode cL_law 60 = .ok (.ifCond .eq 31, 3) := by decide +kernel
theorem dL_law_63 : decode cL_law 63 = .ok (.aload_n 1, 1) := by decide +kernel
theorem dL_law_64 : decode cL_law 64 = .ok (.invokevirtual 71, 3) := by decide +kernel
theorem dL_law_67 : decode cL_law 67 = .ok (.iload 5, 2) := by decide +kernel
theorem dL_law_69 : decode cL_law 69 = .ok (.if_icmp .ne 22, 3) := by decide +kernel
theorem dL_law_72 : decode cL_law 72 = .ok (.aload_n 1, 1) := by decide +kernel
theorem dL_law_73 : decode cL_law 73 = .ok (.invokevirtual 74, 3) := by decide +kernel
theorem dL_law_76 : decode cL_law 76 = .ok (.aload_n 2, 1) := by decide +kernel
theorem dL_law_77 : decode cL_law 77 = .ok (.iconst 0, 1) := by decide +kernel
theorem dL_law_78 : decode cL_law 78 = .ok (.iaload, 1) := by decide +kernel
theorem dL_law_79 : decode cL_law 79 = .ok (.if_icmp .ne 12, 3) := by decide +kernel
theorem dL_law_82 : decode cL_law 82 = .ok (.aload_n 1, 1) := by decide +kernel
theorem dL_law_83 : decode cL_law 83 = .ok (.aload_n 2, 1) := by decide +kernel
theorem dL_law_84 : decode cL_law 84 = .ok (.aload_n 3, 1) := by decide +kernel
theorem dL_law_85 : decode cL_law 85 = .ok (.invokestatic 77, 3) := by decide +kernel
theorem dL_law_88 : decode cL_law 88 = .ok (.ifCond .ne 5, 3) := by decide +kernel
theorem dL_law_91 : decode cL_law 91 = .ok (.iconst 0, 1) := by decide +kernel
theorem dL_law_92 : decode cL_law 92 = .ok (.ireturn, 1) := by decide +kernel
theorem dL_law_93 : decode cL_law 93 = .ok (.iconst 0, 1) := by decide +kernel
theorem dL_law_94 : decode cL_law 94 = .ok (.istore 6, 2) := by decide +kernel
theorem dL_law_96 : decode cL_law 96 = .ok (.iload 6, 2) := by decide +kernel
theorem dL_law_98 : decode cL_law 98 = .ok (.aload_n 2, 1) := by decide +kernel
theorem dL_law_99 : decode cL_law 99 = .ok (.iconst 0, 1) := by decide +kernel
theorem dL_law_100 : decode cL_law 100 = .ok (.iaload, 1) := by decide +kernel
theorem dL_law_101 : decode cL_law 101 = .ok (.if_icmp .ge 75, 3) := by decide +kernel
theorem dL_law_104 : decode cL_law 104 = .ok (.iconst 0, 1) := by decide +kernel
theorem dL_law_105 : decode cL_law 105 = .ok (.istore 7, 2) := by decide +kernel
theorem dL_law_107 : decode cL_law 107 = .ok (.iload 7, 2) := by decide +kernel
theorem dL_law_109 : decode cL_law 109 = .ok (.iconst 5, 1) := by decide +kernel
theorem dL_law_110 : decode cL_law 110 = .ok (.if_icmp .ge 60, 3) := by decide +kernel
theorem dL_law_113 : decode cL_law 113 = .ok (.aload_n 1, 1) := by decide +kernel
theorem dL_law_114 : decode cL_law 114 = .ok (.iload 6, 2) := by decide +kernel
theorem dL_law_116 : decode cL_law 116 = .ok (.iload 7, 2) := by decide +kernel
theorem dL_law_118 : decode cL_law 118 = .ok (.invokevirtual 81, 3) := by decide +kernel
theorem dL_law_121 : decode cL_law 121 = .ok (.iload 7, 2) := by decide +kernel
theorem dL_law_123 : decode cL_law 123 = .ok (.ifCond .eq 30, 3) := by decide +kernel
theorem dL_law_126 : decode cL_law 126 = .ok (.iload 7, 2) := by decide +kernel
theorem dL_law_128 : decode cL_law 128 = .ok (.aload_n 2, 1) := by decide +kernel
theorem dL_law_129 : decode cL_law 129 = .ok (.iconst 1, 1) := by decide +kernel
theorem dL_law_130 : decode cL_law 130 = .ok (.iload 6, 2) := by decide +kernel
theorem dL_law_132 : decode cL_law 132 = .ok (.iadd, 1) := by decide +kernel
theorem dL_law_133 : decode cL_law 133 = .ok (.iaload, 1) := by decide +kernel
theorem dL_law_134 : decode cL_law 134 = .ok (.if_icmp .eq 19, 3) := by decide +kernel
theorem dL_law_137 : decode cL_law 137 = .ok (.iload 7, 2) := by decide +kernel
theorem dL_law_139 : decode cL_law 139 = .ok (.iconst 2, 1) := by decide +kernel
theorem dL_law_140 : decode cL_law 140 = .ok (.if_icmp .ne 18, 3) := by decide +kernel
theorem dL_law_143 : decode cL_law 143 = .ok (.aload_n 2, 1) := by decide +kernel
theorem dL_law_144 : decode cL_law 144 = .ok (.iconst 1, 1) := by decide +kernel
theorem dL_law_145 : decode cL_law 145 = .ok (.iload 6, 2) := by decide +kernel
theorem dL_law_147 : decode cL_law 147 = .ok (.iadd, 1) := by decide +kernel
theorem dL_law_148 : decode cL_law 148 = .ok (.iaload, 1) := by decide +kernel
theorem dL_law_149 : decode cL_law 149 = .ok (.iconst 4, 1) := by decide +kernel
theorem dL_law_150 : decode cL_law 150 = .ok (.if_icmp .ne 8, 3) := by decide +kernel
theorem dL_law_153 : decode cL_law 153 = .ok (.iload 6, 2) := by decide +kernel
theorem dL_law_155 : decode cL_law 155 = .ok (.goto 4, 3) := by decide +kernel
theorem dL_law_158 : decode cL_law 158 = .ok (.iconst (-1), 1) := by decide +kernel
theorem dL_law_159 : decode cL_law 159 = .ok (.if_icmp .eq 5, 3) := by decide +kernel
theorem dL_law_162 : decode cL_law 162 = .ok (.iconst 0, 1) := by decide +kernel
theorem dL_law_163 : decode cL_law 163 = .ok (.ireturn, 1) := by decide +kernel
theorem dL_law_164 : decode cL_law 164 = .ok (.iinc 7 1, 3) := by decide +kernel
theorem dL_law_167 : decode cL_law 167 = .ok (.goto (-60), 3) := by decide +kernel
theorem dL_law_170 : decode cL_law 170 = .ok (.iinc 6 1, 3) := by decide +kernel
theorem dL_law_173 : decode cL_law 173 = .ok (.goto (-77), 3) := by decide +kernel
theorem dL_law_176 : decode cL_law 176 = .ok (.iconst 0, 1) := by decide +kernel
theorem dL_law_177 : decode cL_law 177 = .ok (.istore 6, 2) := by decide +kernel
theorem dL_law_179 : decode cL_law 179 = .ok (.iload 6, 2) := by decide +kernel
theorem dL_law_181 : decode cL_law 181 = .ok (.bipush 32, 2) := by decide +kernel
theorem dL_law_183 : decode cL_law 183 = .ok (.if_icmp .ge 144, 3) := by decide +kernel
theorem dL_law_186 : decode cL_law 186 = .ok (.aload_n 0, 1) := by decide +kernel
theorem dL_law_187 : decode cL_law 187 = .ok (.iconst 3, 1) := by decide +kernel
theorem dL_law_188 : decode cL_law 188 = .ok (.iload 6, 2) := by decide +kernel
theorem dL_law_190 : decode cL_law 190 = .ok (.iadd, 1) := by decide +kernel
theorem dL_law_191 : decode cL_law 191 = .ok (.invokestatic 55, 3) := by decide +kernel
theorem dL_law_194 : decode cL_law 194 = .ok (.istore 7, 2) := by decide +kernel
theorem dL_law_196 : decode cL_law 196 = .ok (.iload 7, 2) := by decide +kernel
theorem dL_law_198 : decode cL_law 198 = .ok (.bipush 8, 2) := by decide +kernel
theorem dL_law_200 : decode cL_law 200 = .ok (.invokestatic 8, 3) := by decide +kernel
theorem dL_law_203 : decode cL_law 203 = .ok (.istore 8, 2) := by decide +kernel
theorem dL_law_205 : decode cL_law 205 = .ok (.iload 8, 2) := by decide +kernel
theorem dL_law_207 : decode cL_law 207 = .ok (.bipush 7, 2) := by decide +kernel
theorem dL_law_209 : decode cL_law 209 = .ok (.if_icmp .ge 19, 3) := by decide +kernel
theorem dL_law_212 : decode cL_law 212 = .ok (.aload_n 1, 1) := by decide +kernel
theorem dL_law_213 : decode cL_law 213 = .ok (.aload_n 2, 1) := by decide +kernel
theorem dL_law_214 : decode cL_law 214 = .ok (.aload_n 3, 1) := by decide +kernel
theorem dL_law_215 : decode cL_law 215 = .ok (.iload 7, 2) := by decide +kernel
theorem dL_law_217 : decode cL_law 217 = .ok (.iconst 3, 1) := by decide +kernel
theorem dL_law_218 : decode cL_law 218 = .ok (.ishr, 1) := by decide +kernel
theorem dL_law_219 : decode cL_law 219 = .ok (.invokestatic 84, 3) := by decide +kernel
theorem dL_law_222 : decode cL_law 222 = .ok (.ifCond .ne 42, 3) := by decide +kernel
theorem dL_law_225 : decode cL_law 225 = .ok (.goto 37, 3) := by decide +kernel
theorem dL_law_228 : decode cL_law 228 = .ok (.aload_n 1, 1) := by decide +kernel
theorem dL_law_229 : decode cL_law 229 = .ok (.aload_n 2, 1) := by decide +kernel
theorem dL_law_230 : decode cL_law 230 = .ok (.aload_n 3, 1) := by decide +kernel
theorem dL_law_231 : decode cL_law 231 = .ok (.iconst 1, 1) := by decide +kernel
theorem dL_law_232 : decode cL_law 232 = .ok (.iload 7, 2) := by decide +kernel
theorem dL_law_234 : decode cL_law 234 = .ok (.iconst 3, 1) := by decide +kernel
theorem dL_law_235 : decode cL_law 235 = .ok (.ishr, 1) := by decide +kernel
theorem dL_law_236 : decode cL_law 236 = .ok (.bipush 60, 2) := by decide +kernel
theorem dL_law_238 : decode cL_law 238 = .ok (.invokestatic 8, 3) := by decide +kernel
theorem dL_law_241 : decode cL_law 241 = .ok (.iadd, 1) := by decide +kernel
theorem dL_law_242 : decode cL_law 242 = .ok (.aload_n 0, 1) := by decide +kernel
theorem dL_law_243 : decode cL_law 243 = .ok (.bipush 35, 2) := by decide +kernel
theorem dL_law_245 : decode cL_law 245 = .ok (.iload 6, 2) := by decide +kernel
theorem dL_law_247 : decode cL_law 247 = .ok (.iconst 4, 1) := by decide +kernel
theorem dL_law_248 : decode cL_law 248 = .ok (.irem, 1) := by decide +kernel
theorem dL_law_249 : decode cL_law 249 = .ok (.iadd, 1) := by decide +kernel
theorem dL_law_250 : decode cL_law 250 = .ok (.invokestatic 55, 3) := by decide +kernel
theorem dL_law_253 : decode cL_law 253 = .ok (.ldc 88, 2) := by decide +kernel
theorem dL_law_255 : decode cL_law 255 = .ok (.iand, 1) := by decide +kernel
theorem dL_law_256 : decode cL_law 256 = .ok (.invokestatic 89, 3) := by decide +kernel
theorem dL_law_259 : decode cL_law 259 = .ok (.ifCond .ne 5, 3) := by decide +kernel
theorem dL_law_262 : decode cL_law 262 = .ok (.iconst 0, 1) := by decide +kernel
theorem dL_law_263 : decode cL_law 263 = .ok (.ireturn, 1) := by decide +kernel
theorem dL_law_264 : decode cL_law 264 = .ok (.iload 7, 2) := by decide +kernel
theorem dL_law_266 : decode cL_law 266 = .ok (.iconst 5, 1) := by decide +kernel
theorem dL_law_267 : decode cL_law 267 = .ok (.ishr, 1) := by decide +kernel
theorem dL_law_268 : decode cL_law 268 = .ok (.aload_n 2, 1) := by decide +kernel
theorem dL_law_269 : decode cL_law 269 = .ok (.iconst 0, 1) := by decide +kernel
theorem dL_law_270 : decode cL_law 270 = .ok (.iaload, 1) := by decide +kernel
theorem dL_law_271 : decode cL_law 271 = .ok (.invokestatic 8, 3) := by decide +kernel
theorem dL_law_274 : decode cL_law 274 = .ok (.istore 9, 2) := by decide +kernel
theorem dL_law_276 : decode cL_law 276 = .ok (.iload 7, 2) := by decide +kernel
theorem dL_law_278 : decode cL_law 278 = .ok (.bipush 9, 2) := by decide +kernel
theorem dL_law_280 : decode cL_law 280 = .ok (.ishr, 1) := by decide +kernel
theorem dL_law_281 : decode cL_law 281 = .ok (.bipush 100, 2) := by decide +kernel
theorem dL_law_283 : decode cL_law 283 = .ok (.invokestatic 8, 3) := by decide +kernel
theorem dL_law_286 : decode cL_law 286 = .ok (.istore 10, 2) := by decide +kernel
theorem dL_law_288 : decode cL_law 288 = .ok (.aload_n 1, 1) := by decide +kernel
theorem dL_law_289 : decode cL_law 289 = .ok (.aload_n 2, 1) := by decide +kernel
theorem dL_law_290 : decode cL_law 290 = .ok (.aload_n 3, 1) := by decide +kernel
theorem dL_law_291 : decode cL_law 291 = .ok (.invokestatic 77, 3) := by decide +kernel
theorem dL_law_294 : decode cL_law 294 = .ok (.ifCond .eq 25, 3) := by decide +kernel
theorem dL_law_297 : decode cL_law 297 = .ok (.aload_n 1, 1) := by decide +kernel
theorem dL_law_298 : decode cL_law 298 = .ok (.iload 9, 2) := by decide +kernel
theorem dL_law_300 : decode cL_law 300 = .ok (.iload 10, 2) := by decide +kernel
theorem dL_law_302 : decode cL_law 302 = .ok (.invokevirtual 93, 3) := by decide +kernel
theorem dL_law_305 : decode cL_law 305 = .ok (.bipush 100, 2) := by decide +kernel
theorem dL_law_307 : decode cL_law 307 = .ok (.aload_n 2, 1) := by decide +kernel
theorem dL_law_308 : decode cL_law 308 = .ok (.iload 9, 2) := by decide +kernel
theorem dL_law_310 : decode cL_law 310 = .ok (.iload 10, 2) := by decide +kernel
theorem dL_law_312 : decode cL_law 312 = .ok (.invokestatic 24, 3) := by decide +kernel
theorem dL_law_315 : decode cL_law 315 = .ok (.iadd, 1) := by decide +kernel
theorem dL_law_316 : decode cL_law 316 = .ok (.if_icmp .eq 5, 3) := by decide +kernel
theorem dL_law_319 : decode cL_law 319 = .ok (.iconst 0, 1) := by decide +kernel
theorem dL_law_320 : decode cL_law 320 = .ok (.ireturn, 1) := by decide +kernel
theorem dL_law_321 : decode cL_law 321 = .ok (.iinc 6 1, 3) := by decide +kernel
theorem dL_law_324 : decode cL_law 324 = .ok (.goto (-145), 3) := by decide +kernel
theorem dL_law_327 : decode cL_law 327 = .ok (.aload_n 2, 1) := by decide +kernel
theorem dL_law_328 : decode cL_law 328 = .ok (.iconst 0, 1) := by decide +kernel
theorem dL_law_329 : decode cL_law 329 = .ok (.iaload, 1) := by decide +kernel
theorem dL_law_330 : decode cL_law 330 = .ok (.istore 6, 2) := by decide +kernel
theorem dL_law_332 : decode cL_law 332 = .ok (.aload_n 1, 1) := by decide +kernel
theorem dL_law_333 : decode cL_law 333 = .ok (.aload_n 2, 1) := by decide +kernel
theorem dL_law_334 : decode cL_law 334 = .ok (.aload_n 3, 1) := by decide +kernel
theorem dL_law_335 : decode cL_law 335 = .ok (.bipush 60, 2) := by decide +kernel
theorem dL_law_337 : decode cL_law 337 = .ok (.iconst 0, 1) := by decide +kernel
theorem dL_law_338 : decode cL_law 338 = .ok (.invokestatic 89, 3) := by decide +kernel
theorem dL_law_341 : decode cL_law 341 = .ok (.ifCond .eq 183, 3) := by decide +kernel
theorem dL_law_344 : decode cL_law 344 = .ok (.aload_n 1, 1) := by decide +kernel
theorem dL_law_345 : decode cL_law 345 = .ok (.aload_n 2, 1) := by decide +kernel
theorem dL_law_346 : decode cL_law 346 = .ok (.aload_n 3, 1) := by decide +kernel
theorem dL_law_347 : decode cL_law 347 = .ok (.iconst 1, 1) := by decide +kernel
theorem dL_law_348 : decode cL_law 348 = .ok (.ldc 88, 2) := by decide +kernel
theorem dL_law_350 : decode cL_law 350 = .ok (.invokestatic 89, 3) := by decide +kernel
theorem dL_law_353 : decode cL_law 353 = .ok (.ifCond .eq 171, 3) := by decide +kernel
theorem dL_law_356 : decode cL_law 356 = .ok (.aload_n 1, 1) := by decide +kernel
theorem dL_law_357 : decode cL_law 357 = .ok (.iload 6, 2) := by decide +kernel
theorem dL_law_359 : decode cL_law 359 = .ok (.iconst 0, 1) := by decide +kernel
theorem dL_law_360 : decode cL_law 360 = .ok (.invokevirtual 27, 3) := by decide +kernel
theorem dL_law_363 : decode cL_law 363 = .ok (.bipush (-101), 2) := by decide +kernel
theorem dL_law_365 : decode cL_law 365 = .ok (.if_icmp .ne 159, 3) := by decide +kernel
theorem dL_law_368 : decode cL_law 368 = .ok (.aload_n 1, 1) := by decide +kernel
theorem dL_law_369 : decode cL_law 369 = .ok (.iconst (-1), 1) := by decide +kernel
theorem dL_law_370 : decode cL_law 370 = .ok (.iconst 0, 1) := by decide +kernel
theorem dL_law_371 : decode cL_law 371 = .ok (.invokevirtual 27, 3) := by decide +kernel
theorem dL_law_374 : decode cL_law 374 = .ok (.bipush (-101), 2) := by decide +kernel
theorem dL_law_376 : decode cL_law 376 = .ok (.if_icmp .ne 148, 3) := by decide +kernel
theorem dL_law_379 : decode cL_law 379 = .ok (.aload_n 1, 1) := by decide +kernel
theorem dL_law_380 : decode cL_law 380 = .ok (.iconst 0, 1) := by decide +kernel
theorem dL_law_381 : decode cL_law 381 = .ok (.bipush 8, 2) := by decide +kernel
theorem dL_law_383 : decode cL_law 383 = .ok (.invokevirtual 27, 3) := by decide +kernel
theorem dL_law_386 : decode cL_law 386 = .ok (.bipush (-102), 2) := by decide +kernel
theorem dL_law_388 : decode cL_law 388 = .ok (.if_icmp .ne 136, 3) := by decide +kernel
theorem dL_law_391 : decode cL_law 391 = .ok (.aload_n 1, 1) := by decide +kernel
theorem dL_law_392 : decode cL_law 392 = .ok (.iload 6, 2) := by decide +kernel
theorem dL_law_394 : decode cL_law 394 = .ok (.iconst 0, 1) := by decide +kernel
theorem dL_law_395 : decode cL_law 395 = .ok (.invokevirtual 81, 3) := by decide +kernel
theorem dL_law_398 : decode cL_law 398 = .ok (.bipush (-101), 2) := by decide +kernel
theorem dL_law_400 : decode cL_law 400 = .ok (.if_icmp .ne 124, 3) := by decide +kernel
theorem dL_law_403 : decode cL_law 403 = .ok (.aload_n 1, 1) := by decide +kernel
theorem dL_law_404 : decode cL_law 404 = .ok (.iconst 0, 1) := by decide +kernel
theorem dL_law_405 : decode cL_law 405 = .ok (.iconst 5, 1) := by decide +kernel
theorem dL_law_406 : decode cL_law 406 = .ok (.invokevirtual 81, 3) := by decide +kernel
theorem dL_law_409 : decode cL_law 409 = .ok (.bipush (-102), 2) := by decide +kernel
theorem dL_law_411 : decode cL_law 411 = .ok (.if_icmp .ne 113, 3) := by decide +kernel
theorem dL_law_414 : decode cL_law 414 = .ok (.aload_n 1, 1) := by decide +kernel
theorem dL_law_415 : decode cL_law 415 = .ok (.iload 6, 2) := by decide +kernel
theorem dL_law_417 : decode cL_law 417 = .ok (.iconst 0, 1) := by decide +kernel
theorem dL_law_418 : decode cL_law 418 = .ok (.invokevirtual 93, 3) := by decide +kernel
theorem dL_law_421 : decode cL_law 421 = .ok (.bipush (-101), 2) := by decide +kernel
theorem dL_law_423 : decode cL_law 423 = .ok (.if_icmp .ne 101, 3) := by decide +kernel
theorem dL_law_426 : decode cL_law 426 = .ok (.aload_n 1, 1) := by decide +kernel
theorem dL_law_427 : decode cL_law 427 = .ok (.iconst 0, 1) := by decide +kernel
theorem dL_law_428 : decode cL_law 428 = .ok (.bipush 100, 2) := by decide +kernel
theorem dL_law_430 : decode cL_law 430 = .ok (.invokevirtual 93, 3) := by decide +kernel
theorem dL_law_433 : decode cL_law 433 = .ok (.bipush (-102), 2) := by decide +kernel
theorem dL_law_435 : decode cL_law 435 = .ok (.if_icmp .ne 89, 3) := by decide +kernel
theorem dL_law_438 : decode cL_law 438 = .ok (.aload_n 1, 1) := by decide +kernel
theorem dL_law_439 : decode cL_law 439 = .ok (.iconst 0, 1) := by decide +kernel
theorem dL_law_440 : decode cL_law 440 = .ok (.iconst (-1), 1) := by decide +kernel
theorem dL_law_441 : decode cL_law 441 = .ok (.invokevirtual 93, 3) := by decide +kernel
theorem dL_law_444 : decode cL_law 444 = .ok (.bipush (-102), 2) := by decide +kernel
theorem dL_law_446 : decode cL_law 446 = .ok (.if_icmp .ne 78, 3) := by decide +kernel
theorem dL_law_449 : decode cL_law 449 = .ok (.aload_n 1, 1) := by decide +kernel
theorem dL_law_450 : decode cL_law 450 = .ok (.iload 6, 2) := by decide +kernel
theorem dL_law_452 : decode cL_law 452 = .ok (.invokevirtual 37, 3) := by decide +kernel
theorem dL_law_455 : decode cL_law 455 = .ok (.bipush (-101), 2) := by decide +kernel
theorem dL_law_457 : decode cL_law 457 = .ok (.if_icmp .ne 67, 3) := by decide +kernel
theorem dL_law_460 : decode cL_law 460 = .ok (.aload_n 1, 1) := by decide +kernel
theorem dL_law_461 : decode cL_law 461 = .ok (.iload 6, 2) := by decide +kernel
theorem dL_law_463 : decode cL_law 463 = .ok (.invokevirtual 43, 3) := by decide +kernel
theorem dL_law_466 : decode cL_law 466 = .ok (.bipush (-101), 2) := by decide +kernel
theorem dL_law_468 : decode cL_law 468 = .ok (.if_icmp .ne 56, 3) := by decide +kernel
theorem dL_law_471 : decode cL_law 471 = .ok (.aload_n 1, 1) := by decide +kernel
theorem dL_law_472 : decode cL_law 472 = .ok (.iconst 0, 1) := by decide +kernel
theorem dL_law_473 : decode cL_law 473 = .ok (.iconst 0, 1) := by decide +kernel
theorem dL_law_474 : decode cL_law 474 = .ok (.iconst 0, 1) := by decide +kernel
theorem dL_law_475 : decode cL_law 475 = .ok (.invokevirtual 95, 3) := by decide +kernel
theorem dL_law_478 : decode cL_law 478 = .ok (.bipush (-102), 2) := by decide +kernel
theorem dL_law_480 : decode cL_law 480 = .ok (.if_icmp .ne 44, 3) := by decide +kernel
theorem dL_law_483 : decode cL_law 483 = .ok (.aload_n 1, 1) := by decide +kernel
theorem dL_law_484 : decode cL_law 484 = .ok (.bipush 61, 2) := by decide +kernel
theorem dL_law_486 : decode cL_law 486 = .ok (.iconst 0, 1) := by decide +kernel
theorem dL_law_487 : decode cL_law 487 = .ok (.iconst 0, 1) := by decide +kernel
theorem dL_law_488 : decode cL_law 488 = .ok (.invokevirtual 95, 3) := by decide +kernel
theorem dL_law_491 : decode cL_law 491 = .ok (.bipush (-102), 2) := by decide +kernel
theorem dL_law_493 : decode cL_law 493 = .ok (.if_icmp .ne 31, 3) := by decide +kernel
theorem dL_law_496 : decode cL_law 496 = .ok (.aload_n 1, 1) := by decide +kernel
theorem dL_law_497 : decode cL_law 497 = .ok (.iconst 1, 1) := by decide +kernel
theorem dL_law_498 : decode cL_law 498 = .ok (.iconst (-1), 1) := by decide +kernel
theorem dL_law_499 : decode cL_law 499 = .ok (.iconst 0, 1) := by decide +kernel
theorem dL_law_500 : decode cL_law 500 = .ok (.invokevirtual 95, 3) := by decide +kernel
theorem dL_law_503 : decode cL_law 503 = .ok (.bipush (-102), 2) := by decide +kernel
theorem dL_law_505 : decode cL_law 505 = .ok (.if_icmp .ne 19, 3) := by decide +kernel
theorem dL_law_508 : decode cL_law 508 = .ok (.aload_n 1, 1) := by decide +kernel
theorem dL_law_509 : decode cL_law 509 = .ok (.iconst 1, 1) := by decide +kernel
theorem dL_law_510 : decode cL_law 510 = .ok (.iconst 0, 1) := by decide +kernel
theorem dL_law_511 : decode cL_law 511 = .ok (.iconst 3, 1) := by decide +kernel
theorem dL_law_512 : decode cL_law 512 = .ok (.invokevirtual 95, 3) := by decide +kernel
theorem dL_law_515 : decode cL_law 515 = .ok (.bipush (-102), 2) := by decide +kernel
theorem dL_law_517 : decode cL_law 517 = .ok (.if_icmp .ne 7, 3) := by decide +kernel
theorem dL_law_520 : decode cL_law 520 = .ok (.iconst 1, 1) := by decide +kernel
theorem dL_law_521 : decode cL_law 521 = .ok (.goto 4, 3) := by decide +kernel
theorem dL_law_524 : decode cL_law 524 = .ok (.iconst 0, 1) := by decide +kernel
theorem dL_law_525 : decode cL_law 525 = .ok (.ireturn, 1) := by decide +kernel
set_option maxRecDepth 20000 in
theorem ggL_times_L_over : GoodIn wsL_times wsL_over := goodIn_r _ [6] (by decide +kernel) (by decide +kernel)
set_option maxRecDepth 20000 in
theorem gL_times_L_over : GoodIn wsL_times (va_wsS RL 98 yL_over wsL_over) := goodIn_app (goodIn_of _ (by decide +kernel)) ggL_times_L_over
set_option maxRecDepth 20000 in
theorem ggL_times_L_after : GoodIn wsL_times wsL_after := goodIn_r _ [9, 10, 11, 12] (by decide +kernel) (by decide +kernel)
set_option maxRecDepth 20000 in
theorem gL_times_L_after : GoodIn wsL_times (va_wsS RL 101 yL_after wsL_after) := goodIn_app (goodIn_of _ (by decide +kernel)) ggL_times_L_after
set_option maxRecDepth 20000 in
theorem ggL_times_L_eat : GoodIn wsL_times wsL_eat := goodIn_r _ [15, 16, 17, 5, 18, 19, 20, 21] (by decide +kernel) (by decide +kernel)
set_option maxRecDepth 20000 in
theorem gL_times_L_eat : GoodIn wsL_times (va_wsS RL 40 yL_eat wsL_eat) := goodIn_app (goodIn_of _ (by decide +kernel)) ggL_times_L_eat
set_option maxRecDepth 20000 in
theorem ggL_times_L_goOn : GoodIn wsL_times wsL_goOn := goodIn_r _ [24] (by decide +kernel) (by decide +kernel)
set_option maxRecDepth 20000 in
theorem gL_times_L_goOn : GoodIn wsL_times (va_wsS RL 46 yL_goOn wsL_goOn) := goodIn_app (goodIn_of _ (by decide +kernel)) ggL_times_L_goOn
set_option maxRecDepth 20000 in
theorem ggL_times_X6_times : GoodIn wsL_times wsX6_times := goodIn_r _ [29, 30, 31, 32, 33, 34, 28, 35, 36, 37, 38, 39, 40, 41, 42, 43, 44, 45, 46, 47, 48, 49, 50, 51, 52, 53, 54, 55, 56, 57, 58, 59, 60, 61, 62, 63, 64, 65, 66, 67, 68, 69, 70, 71, 72, 73, 74, 75, 76, 77, 78, 79, 80, 81, 82, 83, 84, 85, 86, 87, 88, 89, 90, 91, 92, 93, 94, 95, 96, 97, 98, 99, 100, 101, 102, 103, 104, 105, 106, 107, 108, 109, 110, 111, 112, 113, 114, 115, 116, 117, 118, 119, 120, 121, 122, 123, 124, 125, 126, 127, 128, 129, 130, 131, 132, 133, 134, 135, 136, 137, 138, 139, 140, 144, 145, 146, 147, 148, 149, 150, 151, 152, 153, 154, 155, 156, 157, 158, 159, 160, 161, 162, 163, 164, 165, 166, 167, 168, 169, 170, 171, 172, 173, 174, 175, 176, 177, 178, 179] (by decide +kernel) (by decide +kernel)
set_option maxRecDepth 20000 in
theorem gL_times_X6_times : GoodIn wsL_times (wsV RL 95 RX6 yX6_times wsX6_times) := goodIn_app (goodIn_of _ (by decide +kernel)) ggL_times_X6_times
set_option maxRecDepth 20000 in
theorem ggL_times_L_left : GoodIn wsL_times wsL_left := goodIn_r _ [143] (by decide +kernel) (by decide +kernel)
set_option maxRecDepth 20000 in
theorem gL_times_L_left : GoodIn wsL_times (va_wsS RL 33 yL_left wsL_left) := goodIn_app (goodIn_of _ (by decide +kernel)) ggL_times_L_left
theorem dL_times_0 : decode cL_times 0 = .ok (.bipush 16, 2) := by decide +kernel
theorem dL_times_2 : decode cL_times 2 = .ok (.newarray .int, 2) := by decide +kernel
theorem dL_times_4 : decode cL_times 4 = .ok (.astore 5, 2) := by decide +kernel
theorem dL_times_6 : decode cL_times 6 = .ok (.aload 5, 2) := by decide +kernel
theorem dL_times_8 : decode cL_times 8 = .ok (.aload_n 2, 1) := by decide +kernel
theorem dL_times_9 : decode cL_times 9 = .ok (.invokestatic 98, 3) := by decide +kernel
theorem dL_times_12 : decode cL_times 12 = .ok (.iload 4, 2) := by decide +kernel
theorem dL_times_14 : decode cL_times 14 = .ok (.i2l, 1) := by decide +kernel
theorem dL_times_15 : decode cL_times 15 = .ok (.lstore 6, 2) := by decide +kernel
theorem dL_times_17 : decode cL_times 17 = .ok (.iconst 0, 1) := by decide +kernel
theorem dL_times_18 : decode cL_times 18 = .ok (.istore 8, 2) := by decide +kernel
theorem dL_times_20 : decode cL_times 20 = .ok (.iload 8, 2) := by decide +kernel
theorem dL_times_22 : decode cL_times 22 = .ok (.iload_n 3, 1) := by decide +kernel
theorem dL_times_23 : decode cL_times 23 = .ok (.if_icmp .ge 90, 3) := by decide +kernel
theorem dL_times_26 : decode cL_times 26 = .ok (.lload 6, 2) := by decide +kernel
theorem dL_times_28 : decode cL_times 28 = .ok (.invokestatic 101, 3) := by decide +kernel
theorem dL_times_31 : decode cL_times 31 = .ok (.lstore 6, 2) := by decide +kernel
theorem dL_times_33 : decode cL_times 33 = .ok (.lload 6, 2) := by decide +kernel
theorem dL_times_35 : decode cL_times 35 = .ok (.ldc2_w 105, 3) := by decide +kernel
theorem dL_times_38 : decode cL_times 38 = .ok (.ldiv, 1) := by decide +kernel
theorem dL_times_39 : decode cL_times 39 = .ok (.aload_n 1, 1) := by decide +kernel
theorem dL_times_40 : decode cL_times 40 = .ok (.iconst 0, 1) := by decide +kernel
theorem dL_times_41 : decode cL_times 41 = .ok (.iaload, 1) := by decide +kernel
theorem dL_times_42 : decode cL_times 42 = .ok (.i2l, 1) := by decide +kernel
theorem dL_times_43 : decode cL_times 43 = .ok (.lrem, 1) := by decide +kernel
theorem dL_times_44 : decode cL_times 44 = .ok (.l2i, 1) := by decide +kernel
theorem dL_times_45 : decode cL_times 45 = .ok (.istore 9, 2) := by decide +kernel
theorem dL_times_47 : decode cL_times 47 = .ok (.aload 5, 2) := by decide +kernel
theorem dL_times_49 : decode cL_times 49 = .ok (.iload 9, 2) := by decide +kernel
theorem dL_times_51 : decode cL_times 51 = .ok (.iaload, 1) := by decide +kernel
theorem dL_times_52 : decode cL_times 52 = .ok (.ifCond .le 12, 3) := by decide +kernel
theorem dL_times_55 : decode cL_times 55 = .ok (.aload 5, 2) := by decide +kernel
theorem dL_times_57 : decode cL_times 57 = .ok (.iload 9, 2) := by decide +kernel
theorem dL_times_59 : decode cL_times 59 = .ok (.dup2, 1) := by decide +kernel
theorem dL_times_60 : decode cL_times 60 = .ok (.iaload, 1) := by decide +kernel
theorem dL_times_61 : decode cL_times 61 = .ok (.iconst 1, 1) := by decide +kernel
theorem dL_times_62 : decode cL_times 62 = .ok (.isub, 1) := by decide +kernel
theorem dL_times_63 : decode cL_times 63 = .ok (.iastore, 1) := by decide +kernel
theorem dL_times_64 : decode cL_times 64 = .ok (.lload 6, 2) := by decide +kernel
theorem dL_times_66 : decode cL_times 66 = .ok (.invokestatic 101, 3) := by decide +kernel
theorem dL_times_69 : decode cL_times 69 = .ok (.lstore 6, 2) := by decide +kernel
theorem dL_times_71 : decode cL_times 71 = .ok (.lload 6, 2) := by decide +kernel
theorem dL_times_73 : decode cL_times 73 = .ok (.ldc2_w 105, 3) := by decide +kernel
theorem dL_times_76 : decode cL_times 76 = .ok (.ldiv, 1) := by decide +kernel
theorem dL_times_77 : decode cL_times 77 = .ok (.aload_n 1, 1) := by decide +kernel
theorem dL_times_78 : decode cL_times 78 = .ok (.iconst 0, 1) := by decide +kernel
theorem dL_times_79 : decode cL_times 79 = .ok (.iaload, 1) := by decide +kernel
theorem dL_times_80 : decode cL_times 80 = .ok (.i2l, 1) := by decide +kernel
theorem dL_times_81 : decode cL_times 81 = .ok (.lrem, 1) := by decide +kernel
theorem dL_times_82 : decode cL_times 82 = .ok (.l2i, 1) := by decide +kernel
theorem dL_times_83 : decode cL_times 83 = .ok (.istore 9, 2) := by decide +kernel
theorem dL_times_85 : decode cL_times 85 = .ok (.aload 5, 2) := by decide +kernel
theorem dL_times_87 : decode cL_times 87 = .ok (.iload 9, 2) := by decide +kernel
theorem dL_times_89 : decode cL_times 89 = .ok (.iaload, 1) := by decide +kernel
theorem dL_times_90 : decode cL_times 90 = .ok (.ifCond .le 12, 3) := by decide +kernel
theorem dL_times_93 : decode cL_times 93 = .ok (.aload_n 1, 1) := by decide +kernel
theorem dL_times_94 : decode cL_times 94 = .ok (.aload 5, 2) := by decide +kernel
theorem dL_times_96 : decode cL_times 96 = .ok (.iload 9, 2) := by decide +kernel
theorem dL_times_98 : decode cL_times 98 = .ok (.invokestatic 40, 3) := by decide +kernel
theorem dL_times_101 : decode cL_times 101 = .ok (.pop, 1) := by decide +kernel
theorem dL_times_102 : decode cL_times 102 = .ok (.aload 5, 2) := by decide +kernel
theorem dL_times_104 : decode cL_times 104 = .ok (.invokestatic 46, 3) := by decide +kernel
theorem dL_times_107 : decode cL_times 107 = .ok (.iinc 8 1, 3) := by decide +kernel
theorem dL_times_110 : decode cL_times 110 = .ok (.goto (-90), 3) := by decide +kernel
theorem dL_times_113 : decode cL_times 113 = .ok (.aload_n 0, 1) := by decide +kernel
theorem dL_times_114 : decode cL_times 114 = .ok (.iload_n 3, 1) := by decide +kernel
theorem dL_times_115 : decode cL_times 115 = .ok (.iload 4, 2) := by decide +kernel
theorem dL_times_117 : decode cL_times 117 = .ok (.iconst 0, 1) := by decide +kernel
theorem dL_times_118 : decode cL_times 118 = .ok (.invokevirtual 95, 3) := by decide +kernel
theorem dL_times_121 : decode cL_times 121 = .ok (.aload 5, 2) := by decide +kernel
theorem dL_times_123 : decode cL_times 123 = .ok (.invokestatic 33, 3) := by decide +kernel
theorem dL_times_126 : decode cL_times 126 = .ok (.if_icmp .ne 42, 3) := by decide +kernel
theorem dL_times_129 : decode cL_times 129 = .ok (.aload_n 0, 1) := by decide +kernel
theorem dL_times_130 : decode cL_times 130 = .ok (.iload_n 3, 1) := by decide +kernel
theorem dL_times_131 : decode cL_times 131 = .ok (.iload 4, 2) := by decide +kernel
theorem dL_times_133 : decode cL_times 133 = .ok (.iconst 1, 1) := by decide +kernel
theorem dL_times_134 : decode cL_times 134 = .ok (.invokevirtual 95, 3) := by decide +kernel
theorem dL_times_137 : decode cL_times 137 = .ok (.sipush 2000, 3) := by decide +kernel
theorem dL_times_140 : decode cL_times 140 = .ok (.aload 5, 2) := by decide +kernel
theorem dL_times_142 : decode cL_times 142 = .ok (.bipush 13, 2) := by decide +kernel
theorem dL_times_144 : decode cL_times 144 = .ok (.iaload, 1) := by decide +kernel
theorem dL_times_145 : decode cL_times 145 = .ok (.iadd, 1) := by decide +kernel
theorem dL_times_146 : decode cL_times 146 = .ok (.if_icmp .ne 22, 3) := by decide +kernel
theorem dL_times_149 : decode cL_times 149 = .ok (.aload_n 0, 1) := by decide +kernel
theorem dL_times_150 : decode cL_times 150 = .ok (.iload_n 3, 1) := by decide +kernel
theorem dL_times_151 : decode cL_times 151 = .ok (.iload 4, 2) := by decide +kernel
theorem dL_times_153 : decode cL_times 153 = .ok (.iconst 2, 1) := by decide +kernel
theorem dL_times_154 : decode cL_times 154 = .ok (.invokevirtual 95, 3) := by decide +kernel
theorem dL_times_157 : decode cL_times 157 = .ok (.i2l, 1) := by decide +kernel
theorem dL_times_158 : decode cL_times 158 = .ok (.lload 6, 2) := by decide +kernel
theorem dL_times_160 : decode cL_times 160 = .ok (.lcmp, 1) := by decide +kernel
theorem dL_times_161 : decode cL_times 161 = .ok (.ifCond .ne 7, 3) := by decide +kernel
theorem dL_times_164 : decode cL_times 164 = .ok (.iconst 1, 1) := by decide +kernel
theorem dL_times_165 : decode cL_times 165 = .ok (.goto 4, 3) := by decide +kernel
theorem dL_times_168 : decode cL_times 168 = .ok (.iconst 0, 1) := by decide +kernel
theorem dL_times_169 : decode cL_times 169 = .ok (.ireturn, 1) := by decide +kernel
theorem dL_after_0 : decode cL_after 0 = .ok (.lload_n 0, 1) := by decide +kernel
theorem dL_after_1 : decode cL_after 1 = .ok (.ldc2_w 107, 3) := by decide +kernel
theorem dL_after_4 : decode cL_after 4 = .ok (.lmul, 1) := by decide +kernel
theorem dL_after_5 : decode cL_after 5 = .ok (.ldc2_w 109, 3) := by decide +kernel
theorem dL_after_8 : decode cL_after 8 = .ok (.ladd, 1) := by decide +kernel
theorem dL_after_9 : decode cL_after 9 = .ok (.ldc2_w 111, 3) := by decide +kernel
theorem dL_after_12 : decode cL_after 12 = .ok (.lrem, 1) := by decide +kernel
theorem dL_after_13 : decode cL_after 13 = .ok (.lreturn, 1) := by decide +kernel
