set_option maxRecDepth 20000 in
theorem ggX0_init_X3_init_ : GoodIn wsX0_init wsX3_init_ := goodIn_r _ [4, 5, 6, 7, 8, 9, 10, 11, 12, 13, 14, 15, 16, 17, 18, 19, 20, 21, 22, 23, 24, 25] (by decide +kernel) (by decide +kernel)
set_option maxRecDepth 20000 in
theorem gX0_init_X3_init_ : GoodIn wsX0_init (wsX3_init_) := ggX0_init_X3_init_
theorem dX0_init_0 : decode cX0_init 0 = .ok (.aload_n 0, 1) := by decide +kernel
theorem dX0_init_1 : decode cX0_init 1 = .ok (.iload_n 1, 1) := by decide +kernel
theorem dX0_init_2 : decode cX0_init 2 = .ok (.iload_n 2, 1) := by decide +kernel
theorem dX0_init_3 : decode cX0_init 3 = .ok (.iconst 0, 1) := by decide +kernel
theorem dX0_init_4 : decode cX0_init 4 = .ok (.invokespecial 3, 3) := by decide +kernel
theorem dX0_init_7 : decode cX0_init 7 = .ok (.return_, 1) := by decide +kernel
theorem dX0_kindNumber_0 : decode cX0_kindNumber 0 = .ok (.iconst 2, 1) := by decide +kernel
theorem dX0_kindNumber_1 : decode cX0_kindNumber 1 = .ok (.ireturn, 1) := by decide +kernel
theorem dX1_init_0 : decode cX1_init 0 = .ok (.aload_n 0, 1) := by decide +kernel
theorem dX1_init_1 : decode cX1_init 1 = .ok (.invokespecial 3, 3) := by decide +kernel
theorem dX1_init_4 : decode cX1_init 4 = .ok (.aload_n 0, 1) := by decide +kernel
theorem dX1_init_5 : decode cX1_init 5 = .ok (.iconst 0, 1) := by decide +kernel
theorem dX1_init_6 : decode cX1_init 6 = .ok (.putfield 9, 3) := by decide +kernel
theorem dX1_init_9 : decode cX1_init 9 = .ok (.aload_n 0, 1) := by decide +kernel
theorem dX1_init_10 : decode cX1_init 10 = .ok (.iconst 0, 1) := by decide +kernel
theorem dX1_init_11 : decode cX1_init 11 = .ok (.putfield 15, 3) := by decide +kernel
theorem dX1_init_14 : decode cX1_init 14 = .ok (.aload_n 0, 1) := by decide +kernel
theorem dX1_init_15 : decode cX1_init 15 = .ok (.iconst 0, 1) := by decide +kernel
theorem dX1_init_16 : decode cX1_init 16 = .ok (.putfield 18, 3) := by decide +kernel
theorem dX1_init_19 : decode cX1_init 19 = .ok (.aload_n 0, 1) := by decide +kernel
theorem dX1_init_20 : decode cX1_init 20 = .ok (.iconst 0, 1) := by decide +kernel
theorem dX1_init_21 : decode cX1_init 21 = .ok (.putfield 21, 3) := by decide +kernel
theorem dX1_init_24 : decode cX1_init 24 = .ok (.aload_n 0, 1) := by decide +kernel
theorem dX1_init_25 : decode cX1_init 25 = .ok (.iconst 0, 1) := by decide +kernel
theorem dX1_init_26 : decode cX1_init 26 = .ok (.putfield 24, 3) := by decide +kernel
theorem dX1_init_29 : decode cX1_init 29 = .ok (.aload_n 0, 1) := by decide +kernel
theorem dX1_init_30 : decode cX1_init 30 = .ok (.bipush 6, 2) := by decide +kernel
theorem dX1_init_32 : decode cX1_init 32 = .ok (.newarray .int, 2) := by decide +kernel
theorem dX1_init_34 : decode cX1_init 34 = .ok (.putfield 27, 3) := by decide +kernel
theorem dX1_init_37 : decode cX1_init 37 = .ok (.aload_n 0, 1) := by decide +kernel
theorem dX1_init_38 : decode cX1_init 38 = .ok (.bipush 6, 2) := by decide +kernel
theorem dX1_init_40 : decode cX1_init 40 = .ok (.newarray .int, 2) := by decide +kernel
theorem dX1_init_42 : decode cX1_init 42 = .ok (.putfield 31, 3) := by decide +kernel
theorem dX1_init_45 : decode cX1_init 45 = .ok (.aload_n 0, 1) := by decide +kernel
theorem dX1_init_46 : decode cX1_init 46 = .ok (.bipush 6, 2) := by decide +kernel
theorem dX1_init_48 : decode cX1_init 48 = .ok (.newarray .int, 2) := by decide +kernel
theorem dX1_init_50 : decode cX1_init 50 = .ok (.putfield 34, 3) := by decide +kernel
theorem dX1_init_53 : decode cX1_init 53 = .ok (.aload_n 0, 1) := by decide +kernel
theorem dX1_init_54 : decode cX1_init 54 = .ok (.bipush 6, 2) := by decide +kernel
theorem dX1_init_56 : decode cX1_init 56 = .ok (.newarray .int, 2) := by decide +kernel
theorem dX1_init_58 : decode cX1_init 58 = .ok (.putfield 37, 3) := by decide +kernel
theorem dX1_init_61 : decode cX1_init 61 = .ok (.return_, 1) := by decide +kernel
theorem dX1_startAnew_0 : decode cX1_startAnew 0 = .ok (.aload_n 0, 1) := by decide +kernel
theorem dX1_startAnew_1 : decode cX1_startAnew 1 = .ok (.iconst 0, 1) := by decide +kernel
theorem dX1_startAnew_2 : decode cX1_startAnew 2 = .ok (.putfield 9, 3) := by decide +kernel
theorem dX1_startAnew_5 : decode cX1_startAnew 5 = .ok (.aload_n 0, 1) := by decide +kernel
theorem dX1_startAnew_6 : decode cX1_startAnew 6 = .ok (.iconst 0, 1) := by decide +kernel
theorem dX1_startAnew_7 : decode cX1_startAnew 7 = .ok (.putfield 15, 3) := by decide +kernel
theorem dX1_startAnew_10 : decode cX1_startAnew 10 = .ok (.aload_n 0, 1) := by decide +kernel
theorem dX1_startAnew_11 : decode cX1_startAnew 11 = .ok (.iconst 0, 1) := by decide +kernel
theorem dX1_startAnew_12 : decode cX1_startAnew 12 = .ok (.putfield 18, 3) := by decide +kernel
theorem dX1_startAnew_15 : decode cX1_startAnew 15 = .ok (.aload_n 0, 1) := by decide +kernel
theorem dX1_startAnew_16 : decode cX1_startAnew 16 = .ok (.iconst 0, 1) := by decide +kernel
theorem dX1_startAnew_17 : decode cX1_startAnew 17 = .ok (.putfield 21, 3) := by decide +kernel
theorem dX1_startAnew_20 : decode cX1_startAnew 20 = .ok (.aload_n 0, 1) := by decide +kernel
theorem dX1_startAnew_21 : decode cX1_startAnew 21 = .ok (.iconst 0, 1) := by decide +kernel
theorem dX1_startAnew_22 : decode cX1_startAnew 22 = .ok (.putfield 24, 3) := by decide +kernel
theorem dX1_startAnew_25 : decode cX1_startAnew 25 = .ok (.iconst 0, 1) := by decide +kernel
theorem dX1_startAnew_26 : decode cX1_startAnew 26 = .ok (.istore_n 2, 1) := by decide +kernel
theorem dX1_startAnew_27 : decode cX1_startAnew 27 = .ok (.iload_n 2, 1) := by decide +kernel
theorem dX1_startAnew_28 : decode cX1_startAnew 28 = .ok (.bipush 6, 2) := by decide +kernel
theorem dX1_startAnew_30 : decode cX1_startAnew 30 = .ok (.if_icmp .ge 33, 3) := by decide +kernel
theorem dX1_startAnew_33 : decode cX1_startAnew 33 = .ok (.aload_n 0, 1) := by decide +kernel
theorem dX1_startAnew_34 : decode cX1_startAnew 34 = .ok (.getfield 27, 3) := by decide +kernel
theorem dX1_startAnew_37 : decode cX1_startAnew 37 = .ok (.iload_n 2, 1) := by decide +kernel
theorem dX1_startAnew_38 : decode cX1_startAnew 38 = .ok (.iload_n 2, 1) := by decide +kernel
theorem dX1_startAnew_39 : decode cX1_startAnew 39 = .ok (.iload_n 1, 1) := by decide +kernel
theorem dX1_startAnew_40 : decode cX1_startAnew 40 = .ok (.if_icmp .ge 8, 3) := by decide +kernel
theorem dX1_startAnew_43 : decode cX1_startAnew 43 = .ok (.bipush 12, 2) := by decide +kernel
theorem dX1_startAnew_45 : decode cX1_startAnew 45 = .ok (.goto 4, 3) := by decide +kernel
theorem dX1_startAnew_48 : decode cX1_startAnew 48 = .ok (.iconst 0, 1) := by decide +kernel
theorem dX1_startAnew_49 : decode cX1_startAnew 49 = .ok (.iastore, 1) := by decide +kernel
theorem dX1_startAnew_50 : decode cX1_startAnew 50 = .ok (.aload_n 0, 1) := by decide +kernel
theorem dX1_startAnew_51 : decode cX1_startAnew 51 = .ok (.getfield 31, 3) := by decide +kernel
theorem dX1_startAnew_54 : decode cX1_startAnew 54 = .ok (.iload_n 2, 1) := by decide +kernel
theorem dX1_startAnew_55 : decode cX1_startAnew 55 = .ok (.iconst 0, 1) := by decide +kernel
theorem dX1_startAnew_56 : decode cX1_startAnew 56 = .ok (.iastore, 1) := by decide +kernel
theorem dX1_startAnew_57 : decode cX1_startAnew 57 = .ok (.iinc 2 1, 3) := by decide +kernel
theorem dX1_startAnew_60 : decode cX1_startAnew 60 = .ok (.goto (-33), 3) := by decide +kernel
theorem dX1_startAnew_63 : decode cX1_startAnew 63 = .ok (.return_, 1) := by decide +kernel
theorem dX1_copyFrom_0 : decode cX1_copyFrom 0 = .ok (.aload_n 1, 1) := by decide +kernel
theorem dX1_copyFrom_1 : decode cX1_copyFrom 1 = .ok (.ifnonnull 4, 3) := by decide +kernel
theorem dX1_copyFrom_4 : decode cX1_copyFrom 4 = .ok (.return_, 1) := by decide +kernel
theorem dX1_copyFrom_5 : decode cX1_copyFrom 5 = .ok (.aload_n 0, 1) := by decide +kernel
theorem dX1_copyFrom_6 : decode cX1_copyFrom 6 = .ok (.aload_n 1, 1) := by decide +kernel
theorem dX1_copyFrom_7 : decode cX1_copyFrom 7 = .ok (.getfield 9, 3) := by decide +kernel
theorem dX1_copyFrom_10 : decode cX1_copyFrom 10 = .ok (.putfield 9, 3) := by decide +kernel
theorem dX1_copyFrom_13 : decode cX1_copyFrom 13 = .ok (.aload_n 0, 1) := by decide +kernel
theorem dX1_copyFrom_14 : decode cX1_copyFrom 14 = .ok (.aload_n 1, 1) := by decide +kernel
theorem dX1_copyFrom_15 : decode cX1_copyFrom 15 = .ok (.getfield 15, 3) := by decide +kernel
theorem dX1_copyFrom_18 : decode cX1_copyFrom 18 = .ok (.putfield 15, 3) := by decide +kernel
theorem dX1_copyFrom_21 : decode cX1_copyFrom 21 = .ok (.aload_n 0, 1) := by decide +kernel
theorem dX1_copyFrom_22 : decode cX1_copyFrom 22 = .ok (.aload_n 1, 1) := by decide +kernel
theorem dX1_copyFrom_23 : decode cX1_copyFrom 23 = .ok (.getfield 18, 3) := by decide +kernel
theorem dX1_copyFrom_26 : decode cX1_copyFrom 26 = .ok (.putfield 18, 3) := by decide +kernel
theorem dX1_copyFrom_29 : decode cX1_copyFrom 29 = .ok (.aload_n 0, 1) := by decide +kernel
theorem dX1_copyFrom_30 : decode cX1_copyFrom 30 = .ok (.aload_n 1, 1) := by decide +kernel
theorem dX1_copyFrom_31 : decode cX1_copyFrom 31 = .ok (.getfield 21, 3) := by decide +kernel
theorem dX1_copyFrom_34 : decode cX1_copyFrom 34 = .ok (.putfield 21, 3) := by decide +kernel
theorem dX1_copyFrom_37 : decode cX1_copyFrom 37 = .ok (.aload_n 0, 1) := by decide +kernel
theorem dX1_copyFrom_38 : decode cX1_copyFrom 38 = .ok (.aload_n 1, 1) := by decide +kernel
theorem dX1_copyFrom_39 : decode cX1_copyFrom 39 = .ok (.getfield 24, 3) := by decide +kernel
theorem dX1_copyFrom_42 : decode cX1_copyFrom 42 = .ok (.putfield 24, 3) := by decide +kernel
theorem dX1_copyFrom_45 : decode cX1_copyFrom 45 = .ok (.iconst 0, 1) := by decide +kernel
theorem dX1_copyFrom_46 : decode cX1_copyFrom 46 = .ok (.istore_n 2, 1) := by decide +kernel
theorem dX1_copyFrom_47 : decode cX1_copyFrom 47 = .ok (.iload_n 2, 1) := by decide +kernel
theorem dX1_copyFrom_48 : decode cX1_copyFrom 48 = .ok (.bipush 6, 2) := by decide +kernel
theorem dX1_copyFrom_50 : decode cX1_copyFrom 50 = .ok (.if_icmp .ge 33, 3) := by decide +kernel
theorem dX1_copyFrom_53 : decode cX1_copyFrom 53 = .ok (.aload_n 0, 1) := by decide +kernel
theorem dX1_copyFrom_54 : decode cX1_copyFrom 54 = .ok (.getfield 27, 3) := by decide +kernel
theorem dX1_copyFrom_57 : decode cX1_copyFrom 57 = .ok (.iload_n 2, 1) := by decide +kernel
theorem dX1_copyFrom_58 : decode cX1_copyFrom 58 = .ok (.aload_n 1, 1) := by decide +kernel
theorem dX1_copyFrom_59 : decode cX1_copyFrom 59 = .ok (.getfield 27, 3) := by decide +kernel
theorem dX1_copyFrom_62 : decode cX1_copyFrom 62 = .ok (.iload_n 2, 1) := by decide +kernel
theorem dX1_copyFrom_63 : decode cX1_copyFrom 63 = .ok (.iaload, 1) := by decide +kernel
theorem dX1_copyFrom_64 : decode cX1_copyFrom 64 = .ok (.iastore, 1) := by decide +kernel
theorem dX1_copyFrom_65 : decode cX1_copyFrom 65 = .ok (.aload_n 0, 1) := by decide +kernel
theorem dX1_copyFrom_66 : decode cX1_copyFrom 66 = .ok (.getfield 31, 3) := by decide +kernel
theorem dX1_copyFrom_69 : decode cX1_copyFrom 69 = .ok (.iload_n 2, 1) := by decide +kernel
theorem dX1_copyFrom_70 : decode cX1_copyFrom 70 = .ok (.aload_n 1, 1) := by decide +kernel
theorem dX1_copyFrom_71 : decode cX1_copyFrom 71 = .ok (.getfield 31, 3) := by decide +kernel
theorem dX1_copyFrom_74 : decode cX1_copyFrom 74 = .ok (.iload_n 2, 1) := by decide +kernel
theorem dX1_copyFrom_75 : decode cX1_copyFrom 75 = .ok (.iaload, 1) := by decide +kernel
theorem dX1_copyFrom_76 : decode cX1_copyFrom 76 = .ok (.iastore, 1) := by decide +kernel
theorem dX1_copyFrom_77 : decode cX1_copyFrom 77 = .ok (.iinc 2 1, 3) := by decide +kernel
theorem dX1_copyFrom_80 : decode cX1_copyFrom 80 = .ok (.goto (-33), 3) := by decide +kernel
theorem dX1_copyFrom_83 : decode cX1_copyFrom 83 = .ok (.iconst 0, 1) := by decide +kernel
theorem dX1_copyFrom_84 : decode cX1_copyFrom 84 = .ok (.istore_n 2, 1) := by decide +kernel
theorem dX1_copyFrom_85 : decode cX1_copyFrom 85 = .ok (.iload_n 2, 1) := by decide +kernel
theorem dX1_copyFrom_86 : decode cX1_copyFrom 86 = .ok (.bipush 6, 2) := by decide +kernel
theorem dX1_copyFrom_88 : decode cX1_copyFrom 88 = .ok (.if_icmp .ge 33, 3) := by decide +kernel
theorem dX1_copyFrom_91 : decode cX1_copyFrom 91 = .ok (.aload_n 0, 1) := by decide +kernel
theorem dX1_copyFrom_92 : decode cX1_copyFrom 92 = .ok (.getfield 34, 3) := by decide +kernel
theorem dX1_copyFrom_95 : decode cX1_copyFrom 95 = .ok (.iload_n 2, 1) := by decide +kernel
theorem dX1_copyFrom_96 : decode cX1_copyFrom 96 = .ok (.aload_n 1, 1) := by decide +kernel
theorem dX1_copyFrom_97 : decode cX1_copyFrom 97 = .ok (.getfield 34, 3) := by decide +kernel
theorem dX1_copyFrom_100 : decode cX1_copyFrom 100 = .ok (.iload_n 2, 1) := by decide +kernel
theorem dX1_copyFrom_101 : decode cX1_copyFrom 101 = .ok (.iaload, 1) := by decide +kernel
theorem dX1_copyFrom_102 : decode cX1_copyFrom 102 = .ok (.iastore, 1) := by decide +kernel
theorem dX1_copyFrom_103 : decode cX1_copyFrom 103 = .ok (.aload_n 0, 1) := by decide +kernel
theorem dX1_copyFrom_104 : decode cX1_copyFrom 104 = .ok (.getfield 37, 3) := by decide +kernel
theorem dX1_copyFrom_107 : decode cX1_copyFrom 107 = .ok (.iload_n 2, 1) := by decide +kernel
theorem dX1_copyFrom_108 : decode cX1_copyFrom 108 = .ok (.aload_n 1, 1) := by decide +kernel
theorem dX1_copyFrom_109 : decode cX1_copyFrom 109 = .ok (.getfield 37, 3) := by decide +kernel
theorem dX1_copyFrom_112 : decode cX1_copyFrom 112 = .ok (.iload_n 2, 1) := by decide +kernel
theorem dX1_copyFrom_113 : decode cX1_copyFrom 113 = .ok (.iaload, 1) := by decide +kernel
theorem dX1_copyFrom_114 : decode cX1_copyFrom 114 = .ok (.iastore, 1) := by decide +kernel
theorem dX1_copyFrom_115 : decode cX1_copyFrom 115 = .ok (.iinc 2 1, 3) := by decide +kernel
theorem dX1_copyFrom_118 : decode cX1_copyFrom 118 = .ok (.goto (-33), 3) := by decide +kernel
theorem dX1_copyFrom_121 : decode cX1_copyFrom 121 = .ok (.return_, 1) := by decide +kernel
theorem dX1_spoonsOf_0 : decode cX1_spoonsOf 0 = .ok (.iload_n 1, 1) := by decide +kernel
theorem dX1_spoonsOf_1 : decode cX1_spoonsOf 1 = .ok (.ifCond .lt 18, 3) := by decide +kernel
theorem dX1_spoonsOf_4 : decode cX1_spoonsOf 4 = .ok (.iload_n 1, 1) := by decide +kernel
theorem dX1_spoonsOf_5 : decode cX1_spoonsOf 5 = .ok (.bipush 6, 2) := by decide +kernel
theorem dX1_spoonsOf_7 : decode cX1_spoonsOf 7 = .ok (.if_icmp .ge 12, 3) := by decide +kernel
theorem dX1_spoonsOf_10 : decode cX1_spoonsOf 10 = .ok (.aload_n 0, 1) := by decide +kernel
theorem dX1_spoonsOf_11 : decode cX1_spoonsOf 11 = .ok (.getfield 27, 3) := by decide +kernel
theorem dX1_spoonsOf_14 : decode cX1_spoonsOf 14 = .ok (.iload_n 1, 1) := by decide +kernel
theorem dX1_spoonsOf_15 : decode cX1_spoonsOf 15 = .ok (.iaload, 1) := by decide +kernel
theorem dX1_spoonsOf_16 : decode cX1_spoonsOf 16 = .ok (.goto 4, 3) := by decide +kernel
theorem dX1_spoonsOf_19 : decode cX1_spoonsOf 19 = .ok (.iconst 0, 1) := by decide +kernel
theorem dX1_spoonsOf_20 : decode cX1_spoonsOf 20 = .ok (.ireturn, 1) := by decide +kernel
theorem dX1_eatenNowOf_0 : decode cX1_eatenNowOf 0 = .ok (.iload_n 1, 1) := by decide +kernel
theorem dX1_eatenNowOf_1 : decode cX1_eatenNowOf 1 = .ok (.ifCond .lt 18, 3) := by decide +kernel
theorem dX1_eatenNowOf_4 : decode cX1_eatenNowOf 4 = .ok (.iload_n 1, 1) := by decide +kernel
theorem dX1_eatenNowOf_5 : decode cX1_eatenNowOf 5 = .ok (.bipush 6, 2) := by decide +kernel
theorem dX1_eatenNowOf_7 : decode cX1_eatenNowOf 7 = .ok (.if_icmp .ge 12, 3) := by decide +kernel
theorem dX1_eatenNowOf_10 : decode cX1_eatenNowOf 10 = .ok (.aload_n 0, 1) := by decide +kernel
theorem dX1_eatenNowOf_11 : decode cX1_eatenNowOf 11 = .ok (.getfield 31, 3) := by decide +kernel
theorem dX1_eatenNowOf_14 : decode cX1_eatenNowOf 14 = .ok (.iload_n 1, 1) := by decide +kernel
theorem dX1_eatenNowOf_15 : decode cX1_eatenNowOf 15 = .ok (.iaload, 1) := by decide +kernel
theorem dX1_eatenNowOf_16 : decode cX1_eatenNowOf 16 = .ok (.goto 4, 3) := by decide +kernel
theorem dX1_eatenNowOf_19 : decode cX1_eatenNowOf 19 = .ok (.iconst 0, 1) := by decide +kernel
theorem dX1_eatenNowOf_20 : decode cX1_eatenNowOf 20 = .ok (.ireturn, 1) := by decide +kernel
theorem dX1_spoonsOfAll_0 : decode cX1_spoonsOfAll 0 = .ok (.iconst 0, 1) := by decide +kernel
theorem dX1_spoonsOfAll_1 : decode cX1_spoonsOfAll 1 = .ok (.istore_n 1, 1) := by decide +kernel
theorem dX1_spoonsOfAll_2 : decode cX1_spoonsOfAll 2 = .ok (.iconst 0, 1) := by decide +kernel
theorem dX1_spoonsOfAll_3 : decode cX1_spoonsOfAll 3 = .ok (.istore_n 2, 1) := by decide +kernel
theorem dX1_spoonsOfAll_4 : decode cX1_spoonsOfAll 4 = .ok (.iload_n 2, 1) := by decide +kernel
theorem dX1_spoonsOfAll_5 : decode cX1_spoonsOfAll 5 = .ok (.bipush 6, 2) := by decide +kernel
theorem dX1_spoonsOfAll_7 : decode cX1_spoonsOfAll 7 = .ok (.if_icmp .ge 18, 3) := by decide +kernel
theorem dX1_spoonsOfAll_10 : decode cX1_spoonsOfAll 10 = .ok (.iload_n 1, 1) := by decide +kernel
theorem dX1_spoonsOfAll_11 : decode cX1_spoonsOfAll 11 = .ok (.aload_n 0, 1) := by decide +kernel
theorem dX1_spoonsOfAll_12 : decode cX1_spoonsOfAll 12 = .ok (.getfield 27, 3) := by decide +kernel
theorem dX1_spoonsOfAll_15 : decode cX1_spoonsOfAll 15 = .ok (.iload_n 2, 1) := by decide +kernel
theorem dX1_spoonsOfAll_16 : decode cX1_spoonsOfAll 16 = .ok (.iaload, 1) := by decide +kernel
theorem dX1_spoonsOfAll_17 : decode cX1_spoonsOfAll 17 = .ok (.iadd, 1) := by decide +kernel
theorem dX1_spoonsOfAll_18 : decode cX1_spoonsOfAll 18 = .ok (.istore_n 1, 1) := by decide +kernel
theorem dX1_spoonsOfAll_19 : decode cX1_spoonsOfAll 19 = .ok (.iinc 2 1, 3) := by decide +kernel
theorem dX1_spoonsOfAll_22 : decode cX1_spoonsOfAll 22 = .ok (.goto (-18), 3) := by decide +kernel
theorem dX1_spoonsOfAll_25 : decode cX1_spoonsOfAll 25 = .ok (.iload_n 1, 1) := by decide +kernel
theorem dX1_spoonsOfAll_26 : decode cX1_spoonsOfAll 26 = .ok (.ireturn, 1) := by decide +kernel
set_option maxRecDepth 20000 in
theorem ggX1_eatSpoon_X1_spoonsOf : GoodIn wsX1_eatSpoon wsX1_spoonsOf := goodIn_r _ [9, 1, 10, 11, 12, 13, 14, 15, 16, 17, 18] (by decide +kernel) (by decide +kernel)
set_option maxRecDepth 20000 in
theorem gX1_eatSpoon_X1_spoonsOf : GoodIn wsX1_eatSpoon (wsV RX1 40 RX1 yX1_spoonsOf wsX1_spoonsOf) := goodIn_app (goodIn_of _ (by decide +kernel)) ggX1_eatSpoon_X1_spoonsOf
theorem dX1_eatSpoon_0 : decode cX1_eatSpoon 0 = .ok (.aload_n 0, 1) := by decide +kernel
theorem dX1_eatSpoon_1 : decode cX1_eatSpoon 1 = .ok (.iload_n 1, 1) := by decide +kernel
theorem dX1_eatSpoon_2 : decode cX1_eatSpoon 2 = .ok (.invokevirtual 40, 3) := by decide +kernel
theorem dX1_eatSpoon_5 : decode cX1_eatSpoon 5 = .ok (.ifCond .gt 5, 3) := by decide +kernel
theorem dX1_eatSpoon_8 : decode cX1_eatSpoon 8 = .ok (.iconst 0, 1) := by decide +kernel
theorem dX1_eatSpoon_9 : decode cX1_eatSpoon 9 = .ok (.ireturn, 1) := by decide +kernel
theorem dX1_eatSpoon_10 : decode cX1_eatSpoon 10 = .ok (.aload_n 0, 1) := by decide +kernel
theorem dX1_eatSpoon_11 : decode cX1_eatSpoon 11 = .ok (.getfield 27, 3) := by decide +kernel
theorem dX1_eatSpoon_14 : decode cX1_eatSpoon 14 = .ok (.iload_n 1, 1) := by decide +kernel
theorem dX1_eatSpoon_15 : decode cX1_eatSpoon 15 = .ok (.dup2, 1) := by decide +kernel
theorem dX1_eatSpoon_16 : decode cX1_eatSpoon 16 = .ok (.iaload, 1) := by decide +kernel
theorem dX1_eatSpoon_17 : decode cX1_eatSpoon 17 = .ok (.iconst 1, 1) := by decide +kernel
theorem dX1_eatSpoon_18 : decode cX1_eatSpoon 18 = .ok (.isub, 1) := by decide +kernel
theorem dX1_eatSpoon_19 : decode cX1_eatSpoon 19 = .ok (.iastore, 1) := by decide +kernel
theorem dX1_eatSpoon_20 : decode cX1_eatSpoon 20 = .ok (.aload_n 0, 1) := by decide +kernel
theorem dX1_eatSpoon_21 : decode cX1_eatSpoon 21 = .ok (.getfield 31, 3) := by decide +kernel
theorem dX1_eatSpoon_24 : decode cX1_eatSpoon 24 = .ok (.iload_n 1, 1) := by decide +kernel
theorem dX1_eatSpoon_25 : decode cX1_eatSpoon 25 = .ok (.dup2, 1) := by decide +kernel
theorem dX1_eatSpoon_26 : decode cX1_eatSpoon 26 = .ok (.iaload, 1) := by decide +kernel
theorem dX1_eatSpoon_27 : decode cX1_eatSpoon 27 = .ok (.iconst 1, 1) := by decide +kernel
theorem dX1_eatSpoon_28 : decode cX1_eatSpoon 28 = .ok (.iadd, 1) := by decide +kernel
theorem dX1_eatSpoon_29 : decode cX1_eatSpoon 29 = .ok (.iastore, 1) := by decide +kernel
theorem dX1_eatSpoon_30 : decode cX1_eatSpoon 30 = .ok (.aload_n 0, 1) := by decide +kernel
theorem dX1_eatSpoon_31 : decode cX1_eatSpoon 31 = .ok (.dup, 1) := by decide +kernel
theorem dX1_eatSpoon_32 : decode cX1_eatSpoon 32 = .ok (.getfield 15, 3) := by decide +kernel
theorem dX1_eatSpoon_35 : decode cX1_eatSpoon 35 = .ok (.iconst 1, 1) := by decide +kernel
theorem dX1_eatSpoon_36 : decode cX1_eatSpoon 36 = .ok (.iadd, 1) := by decide +kernel
theorem dX1_eatSpoon_37 : decode cX1_eatSpoon 37 = .ok (.putfield 15, 3) := by decide +kernel
theorem dX1_eatSpoon_40 : decode cX1_eatSpoon 40 = .ok (.aload_n 0, 1) := by decide +kernel
theorem dX1_eatSpoon_41 : decode cX1_eatSpoon 41 = .ok (.dup, 1) := by decide +kernel
theorem dX1_eatSpoon_42 : decode cX1_eatSpoon 42 = .ok (.getfield 21, 3) := by decide +kernel
theorem dX1_eatSpoon_45 : decode cX1_eatSpoon 45 = .ok (.iload_n 2, 1) := by decide +kernel
theorem dX1_eatSpoon_46 : decode cX1_eatSpoon 46 = .ok (.iadd, 1) := by decide +kernel
theorem dX1_eatSpoon_47 : decode cX1_eatSpoon 47 = .ok (.putfield 21, 3) := by decide +kernel
theorem dX1_eatSpoon_50 : decode cX1_eatSpoon 50 = .ok (.iconst 1, 1) := by decide +kernel
theorem dX1_eatSpoon_51 : decode cX1_eatSpoon 51 = .ok (.ireturn, 1) := by decide +kernel
set_option maxRecDepth 20000 in
theorem ggX1_loseSpoon_X1_spoonsOf : GoodIn wsX1_loseSpoon wsX1_spoonsOf := goodIn_r _ [7, 1, 8, 9, 10, 11, 12, 13, 14, 15, 16] (by decide +kernel) (by decide +kernel)
set_option maxRecDepth 20000 in
theorem gX1_loseSpoon_X1_spoonsOf : GoodIn wsX1_loseSpoon (wsV RX1 40 RX1 yX1_spoonsOf wsX1_spoonsOf) := goodIn_app (goodIn_of _ (by decide +kernel)) ggX1_loseSpoon_X1_spoonsOf
theorem dX1_loseSpoon_0 : decode cX1_loseSpoon 0 = .ok (.aload_n 0, 1) := by decide +kernel
theorem dX1_loseSpoon_1 : decode cX1_loseSpoon 1 = .ok (.iload_n 1, 1) := by decide +kernel
theorem dX1_loseSpoon_2 : decode cX1_loseSpoon 2 = .ok (.invokevirtual 40, 3) := by decide +kernel
theorem dX1_loseSpoon_5 : decode cX1_loseSpoon 5 = .ok (.ifCond .gt 5, 3) := by decide +kernel
theorem dX1_loseSpoon_8 : decode cX1_loseSpoon 8 = .ok (.iconst 0, 1) := by decide +kernel
theorem dX1_loseSpoon_9 : decode cX1_loseSpoon 9 = .ok (.ireturn, 1) := by decide +kernel
theorem dX1_loseSpoon_10 : decode cX1_loseSpoon 10 = .ok (.aload_n 0, 1) := by decide +kernel
theorem dX1_loseSpoon_11 : decode cX1_loseSpoon 11 = .ok (.getfield 27, 3) := by decide +kernel
theorem dX1_loseSpoon_14 : decode cX1_loseSpoon 14 = .ok (.iload_n 1, 1) := by decide +kernel
theorem dX1_loseSpoon_15 : decode cX1_loseSpoon 15 = .ok (.dup2, 1) := by decide +kernel
theorem dX1_loseSpoon_16 : decode cX1_loseSpoon 16 = .ok (.iaload, 1) := by decide +kernel
theorem dX1_loseSpoon_17 : decode cX1_loseSpoon 17 = .ok (.iconst 1, 1) := by decide +kernel
theorem dX1_loseSpoon_18 : decode cX1_loseSpoon 18 = .ok (.isub, 1) := by decide +kernel
theorem dX1_loseSpoon_19 : decode cX1_loseSpoon 19 = .ok (.iastore, 1) := by decide +kernel
theorem dX1_loseSpoon_20 : decode cX1_loseSpoon 20 = .ok (.aload_n 0, 1) := by decide +kernel
theorem dX1_loseSpoon_21 : decode cX1_loseSpoon 21 = .ok (.dup, 1) := by decide +kernel
theorem dX1_loseSpoon_22 : decode cX1_loseSpoon 22 = .ok (.getfield 18, 3) := by decide +kernel
theorem dX1_loseSpoon_25 : decode cX1_loseSpoon 25 = .ok (.iconst 1, 1) := by decide +kernel
theorem dX1_loseSpoon_26 : decode cX1_loseSpoon 26 = .ok (.iadd, 1) := by decide +kernel
theorem dX1_loseSpoon_27 : decode cX1_loseSpoon 27 = .ok (.putfield 18, 3) := by decide +kernel
theorem dX1_loseSpoon_30 : decode cX1_loseSpoon 30 = .ok (.iconst 1, 1) := by decide +kernel
theorem dX1_loseSpoon_31 : decode cX1_loseSpoon 31 = .ok (.ireturn, 1) := by decide +kernel
theorem dX1_passYear_0 : decode cX1_passYear 0 = .ok (.aload_n 0, 1) := by decide +kernel
theorem dX1_passYear_1 : decode cX1_passYear 1 = .ok (.dup, 1) := by decide +kernel
theorem dX1_passYear_2 : decode cX1_passYear 2 = .ok (.getfield 9, 3) := by decide +kernel
theorem dX1_passYear_5 : decode cX1_passYear 5 = .ok (.iconst 1, 1) := by decide +kernel
theorem dX1_passYear_6 : decode cX1_passYear 6 = .ok (.iadd, 1) := by decide +kernel
theorem dX1_passYear_7 : decode cX1_passYear 7 = .ok (.putfield 9, 3) := by decide +kernel
theorem dX1_passYear_10 : decode cX1_passYear 10 = .ok (.iconst 0, 1) := by decide +kernel
theorem dX1_passYear_11 : decode cX1_passYear 11 = .ok (.istore_n 1, 1) := by decide +kernel
theorem dX1_passYear_12 : decode cX1_passYear 12 = .ok (.iload_n 1, 1) := by decide +kernel
theorem dX1_passYear_13 : decode cX1_passYear 13 = .ok (.bipush 6, 2) := by decide +kernel
theorem dX1_passYear_15 : decode cX1_passYear 15 = .ok (.if_icmp .ge 16, 3) := by decide +kernel
theorem dX1_passYear_18 : decode cX1_passYear 18 = .ok (.aload_n 0, 1) := by decide +kernel
theorem dX1_passYear_19 : decode cX1_passYear 19 = .ok (.getfield 31, 3) := by decide +kernel
theorem dX1_passYear_22 : decode cX1_passYear 22 = .ok (.iload_n 1, 1) := by decide +kernel
theorem dX1_passYear_23 : decode cX1_passYear 23 = .ok (.iconst 0, 1) := by decide +kernel
theorem dX1_passYear_24 : decode cX1_passYear 24 = .ok (.iastore, 1) := by decide +kernel
theorem dX1_passYear_25 : decode cX1_passYear 25 = .ok (.iinc 1 1, 3) := by decide +kernel
theorem dX1_passYear_28 : decode cX1_passYear 28 = .ok (.goto (-16), 3) := by decide +kernel
theorem dX1_passYear_31 : decode cX1_passYear 31 = .ok (.return_, 1) := by decide +kernel
theorem dX1_addTaste_0 : decode cX1_addTaste 0 = .ok (.aload_n 0, 1) := by decide +kernel
theorem dX1_addTaste_1 : decode cX1_addTaste 1 = .ok (.getfield 24, 3) := by decide +kernel
theorem dX1_addTaste_4 : decode cX1_addTaste 4 = .ok (.ifCond .lt 12, 3) := by decide +kernel
theorem dX1_addTaste_7 : decode cX1_addTaste 7 = .ok (.aload_n 0, 1) := by decide +kernel
theorem dX1_addTaste_8 : decode cX1_addTaste 8 = .ok (.getfield 24, 3) := by decide +kernel
theorem dX1_addTaste_11 : decode cX1_addTaste 11 = .ok (.bipush 6, 2) := by decide +kernel
theorem dX1_addTaste_13 : decode cX1_addTaste 13 = .ok (.if_icmp .lt 5, 3) := by decide +kernel
theorem dX1_addTaste_16 : decode cX1_addTaste 16 = .ok (.iconst 0, 1) := by decide +kernel
theorem dX1_addTaste_17 : decode cX1_addTaste 17 = .ok (.ireturn, 1) := by decide +kernel
theorem dX1_addTaste_18 : decode cX1_addTaste 18 = .ok (.aload_n 0, 1) := by decide +kernel
theorem dX1_addTaste_19 : decode cX1_addTaste 19 = .ok (.getfield 34, 3) := by decide +kernel
theorem dX1_addTaste_22 : decode cX1_addTaste 22 = .ok (.aload_n 0, 1) := by decide +kernel
theorem dX1_addTaste_23 : decode cX1_addTaste 23 = .ok (.getfield 24, 3) := by decide +kernel
theorem dX1_addTaste_26 : decode cX1_addTaste 26 = .ok (.iload_n 1, 1) := by decide +kernel
theorem dX1_addTaste_27 : decode cX1_addTaste 27 = .ok (.iastore, 1) := by decide +kernel
theorem dX1_addTaste_28 : decode cX1_addTaste 28 = .ok (.aload_n 0, 1) := by decide +kernel
theorem dX1_addTaste_29 : decode cX1_addTaste 29 = .ok (.getfield 37, 3) := by decide +kernel
theorem dX1_addTaste_32 : decode cX1_addTaste 32 = .ok (.aload_n 0, 1) := by decide +kernel
theorem dX1_addTaste_33 : decode cX1_addTaste 33 = .ok (.getfield 24, 3) := by decide +kernel
theorem dX1_addTaste_36 : decode cX1_addTaste 36 = .ok (.iload_n 2, 1) := by decide +kernel
theorem dX1_addTaste_37 : decode cX1_addTaste 37 = .ok (.iastore, 1) := by decide +kernel
theorem dX1_addTaste_38 : decode cX1_addTaste 38 = .ok (.aload_n 0, 1) := by decide +kernel
theorem dX1_addTaste_39 : decode cX1_addTaste 39 = .ok (.dup, 1) := by decide +kernel
theorem dX1_addTaste_40 : decode cX1_addTaste 40 = .ok (.getfield 24, 3) := by decide +kernel
theorem dX1_addTaste_43 : decode cX1_addTaste 43 = .ok (.iconst 1, 1) := by decide +kernel
theorem dX1_addTaste_44 : decode cX1_addTaste 44 = .ok (.iadd, 1) := by decide +kernel
theorem dX1_addTaste_45 : decode cX1_addTaste 45 = .ok (.putfield 24, 3) := by decide +kernel
theorem dX1_addTaste_48 : decode cX1_addTaste 48 = .ok (.iconst 1, 1) := by decide +kernel
theorem dX1_addTaste_49 : decode cX1_addTaste 49 = .ok (.ireturn, 1) := by decide +kernel
set_option maxRecDepth 20000 in
theorem ggX2_init_X0_init : GoodIn wsX2_init wsX0_init := goodIn_r _ [4, 5, 6, 7, 8, 9, 10, 11, 12, 13, 14, 15, 16, 17, 18, 19, 20, 21, 22, 23, 24, 25, 26, 27, 28, 29] (by decide +kernel) (by decide +kernel)
set_option maxRecDepth 20000 in
theorem gX2_init_X0_init : GoodIn wsX2_init (wsX0_init) := ggX2_init_X0_init
theorem dX2_init_0 : decode cX2_init 0 = .ok (.aload_n 0, 1) := by decide +kernel
theorem dX2_init_1 : decode cX2_init 1 = .ok (.iload_n 1, 1) := by decide +kernel
theorem dX2_init_2 : decode cX2_init 2 = .ok (.iload_n 2, 1) := by decide +kernel
theorem dX2_init_3 : decode cX2_init 3 = .ok (.invokespecial 3, 3) := by decide +kernel
theorem dX2_init_6 : decode cX2_init 6 = .ok (.return_, 1) := by decide +kernel
theorem dX2_kindNumber_0 : decode cX2_kindNumber 0 = .ok (.iconst 4, 1) := by decide +kernel
theorem dX2_kindNumber_1 : decode cX2_kindNumber 1 = .ok (.ireturn, 1) := by decide +kernel
set_option maxRecDepth 20000 in
theorem ggX2_firstWorthIn_X3_mouldIn : GoodIn wsX2_firstWorthIn wsX3_mouldIn := goodIn_r _ [8, 9, 10, 11, 12, 13, 14, 15, 16, 17, 18, 19, 20, 21, 22, 23, 24] (by decide +kernel) (by decide +kernel)
set_option maxRecDepth 20000 in
theorem gX2_firstWorthIn_X3_mouldIn_u15X2 : GoodIn wsX2_firstWorthIn (va_wsU RX2 15 RX2 "JamDays$Jar" ⟨"JamDays$Gold", "mouldIn", "(I)I"⟩ yX3_mouldIn wsX3_mouldIn) := goodIn_app (goodIn_of _ (by decide +kernel)) ggX2_firstWorthIn_X3_mouldIn
theorem dX2_firstWorthIn_0 : decode cX2_firstWorthIn 0 = .ok (.iconst 2, 1) := by decide +kernel
theorem dX2_firstWorthIn_1 : decode cX2_firstWorthIn 1 = .ok (.aload_n 0, 1) := by decide +kernel
theorem dX2_firstWorthIn_2 : decode cX2_firstWorthIn 2 = .ok (.getfield 9, 3) := by decide +kernel
theorem dX2_firstWorthIn_5 : decode cX2_firstWorthIn 5 = .ok (.aload_n 0, 1) := by decide +kernel
theorem dX2_firstWorthIn_6 : decode cX2_firstWorthIn 6 = .ok (.iload_n 1, 1) := by decide +kernel
theorem dX2_firstWorthIn_7 : decode cX2_firstWorthIn 7 = .ok (.invokevirtual 15, 3) := by decide +kernel
theorem dX2_firstWorthIn_10 : decode cX2_firstWorthIn 10 = .ok (.isub, 1) := by decide +kernel
theorem dX2_firstWorthIn_11 : decode cX2_firstWorthIn 11 = .ok (.imul, 1) := by decide +kernel
theorem dX2_firstWorthIn_12 : decode cX2_firstWorthIn 12 = .ok (.ireturn, 1) := by decide +kernel
set_option maxRecDepth 20000 in
theorem ggX3_init_X3_plainMould : GoodIn wsX3_init wsX3_plainMould := goodIn_r _ [4, 5, 6, 7, 8] (by decide +kernel) (by decide +kernel)
set_option maxRecDepth 20000 in
theorem gX3_init_X3_plainMould : GoodIn wsX3_init (va_wsS RX3 3 yX3_plainMould wsX3_plainMould) := goodIn_app (goodIn_of _ (by decide +kernel)) ggX3_init_X3_plainMould
set_option maxRecDepth 20000 in
theorem ggX3_init_X3_init_ : GoodIn wsX3_init wsX3_init_ := goodIn_r _ [11, 12, 13, 14, 15, 16, 17, 18, 19, 20, 21, 22, 23, 24, 25, 26, 27, 28, 29, 30, 31, 32] (by decide +kernel) (by decide +kernel)
set_option maxRecDepth 20000 in
theorem gX3_init_X3_init_ : GoodIn wsX3_init (wsX3_init_) := ggX3_init_X3_init_
theorem dX3_init_0 : decode cX3_init 0 = .ok (.aload_n 0, 1) := by decide +kernel
theorem dX3_init_1 : decode cX3_init 1 = .ok (.iload_n 1, 1) := by decide +kernel
theorem dX3_init_2 : decode cX3_init 2 = .ok (.iload_n 2, 1) := by decide +kernel
theorem dX3_init_3 : decode cX3_init 3 = .ok (.iload_n 2, 1) := by decide +kernel
theorem dX3_init_4 : decode cX3_init 4 = .ok (.invokestatic 3, 3) := by decide +kernel
theorem dX3_init_7 : decode cX3_init 7 = .ok (.invokespecial 9, 3) := by decide +kernel
theorem dX3_init_10 : decode cX3_init 10 = .ok (.return_, 1) := by decide +kernel
theorem dX3_init__0 : decode cX3_init_ 0 = .ok (.aload_n 0, 1) := by decide +kernel
theorem dX3_init__1 : decode cX3_init_ 1 = .ok (.invokespecial 13, 3) := by decide +kernel
theorem dX3_init__4 : decode cX3_init_ 4 = .ok (.aload_n 0, 1) := by decide +kernel
theorem dX3_init__5 : decode cX3_init_ 5 = .ok (.iload_n 1, 1) := by decide +kernel
theorem dX3_init__6 : decode cX3_init_ 6 = .ok (.putfield 18, 3) := by decide +kernel
theorem dX3_init__9 : decode cX3_init_ 9 = .ok (.aload_n 0, 1) := by decide +kernel
theorem dX3_init__10 : decode cX3_init_ 10 = .ok (.iload_n 2, 1) := by decide +kernel
theorem dX3_init__11 : decode cX3_init_ 11 = .ok (.putfield 22, 3) := by decide +kernel
theorem dX3_init__14 : decode cX3_init_ 14 = .ok (.aload_n 0, 1) := by decide +kernel
theorem dX3_init__15 : decode cX3_init_ 15 = .ok (.iload_n 3, 1) := by decide +kernel
theorem dX3_init__16 : decode cX3_init_ 16 = .ok (.putfield 25, 3) := by decide +kernel
theorem dX3_init__19 : decode cX3_init_ 19 = .ok (.return_, 1) := by decide +kernel
theorem dX3_plainMould_0 : decode cX3_plainMould 0 = .ok (.iconst 0, 1) := by decide +kernel
theorem dX3_plainMould_1 : decode cX3_plainMould 1 = .ok (.iconst 3, 1) := by decide +kernel
theorem dX3_plainMould_2 : decode cX3_plainMould 2 = .ok (.iload_n 0, 1) := by decide +kernel
theorem dX3_plainMould_3 : decode cX3_plainMould 3 = .ok (.iconst 3, 1) := by decide +kernel
theorem dX3_plainMould_4 : decode cX3_plainMould 4 = .ok (.idiv, 1) := by decide +kernel
theorem dX3_plainMould_5 : decode cX3_plainMould 5 = .ok (.isub, 1) := by decide +kernel
theorem dX3_plainMould_6 : decode cX3_plainMould 6 = .ok (.invokestatic 28, 3) := by decide +kernel
theorem dX3_plainMould_9 : decode cX3_plainMould 9 = .ok (.ireturn, 1) := by decide +kernel
theorem dX3_kindNumber_0 : decode cX3_kindNumber 0 = .ok (.iconst 0, 1) := by decide +kernel
theorem dX3_kindNumber_1 : decode cX3_kindNumber 1 = .ok (.ireturn, 1) := by decide +kernel
theorem dX3_mouldIn_0 : decode cX3_mouldIn 0 = .ok (.iload_n 1, 1) := by decide +kernel
theorem dX3_mouldIn_1 : decode cX3_mouldIn 1 = .ok (.aload_n 0, 1) := by decide +kernel
theorem dX3_mouldIn_2 : decode cX3_mouldIn 2 = .ok (.getfield 25, 3) := by decide +kernel
theorem dX3_mouldIn_5 : decode cX3_mouldIn 5 = .ok (.imul, 1) := by decide +kernel
theorem dX3_mouldIn_6 : decode cX3_mouldIn 6 = .ok (.istore_n 2, 1) := by decide +kernel
theorem dX3_mouldIn_7 : decode cX3_mouldIn 7 = .ok (.iload_n 2, 1) := by decide +kernel
theorem dX3_mouldIn_8 : decode cX3_mouldIn 8 = .ok (.bipush 20, 2) := by decide +kernel
theorem dX3_mouldIn_10 : decode cX3_mouldIn 10 = .ok (.if_icmp .ge 7, 3) := by decide +kernel
theorem dX3_mouldIn_13 : decode cX3_mouldIn 13 = .ok (.iload_n 2, 1) := by decide +kernel
theorem dX3_mouldIn_14 : decode cX3_mouldIn 14 = .ok (.goto 5, 3) := by decide +kernel
theorem dX3_mouldIn_17 : decode cX3_mouldIn 17 = .ok (.bipush 20, 2) := by decide +kernel
theorem dX3_mouldIn_19 : decode cX3_mouldIn 19 = .ok (.ireturn, 1) := by decide +kernel
set_option maxRecDepth 20000 in
theorem ggX3_firstWorthIn_X3_mouldIn : GoodIn wsX3_firstWorthIn wsX3_mouldIn := goodIn_r _ [7, 8, 14, 15, 16, 17, 18, 19, 20, 21, 22, 23, 24, 25, 26, 27, 28] (by decide +kernel) (by decide +kernel)
set_option maxRecDepth 20000 in
theorem gX3_firstWorthIn_X3_mouldIn_u34X0 : GoodIn wsX3_firstWorthIn (va_wsU RX3 34 RX0 "JamDays$Jar" ⟨"JamDays$Jar", "mouldIn", "(I)I"⟩ yX3_mouldIn wsX3_mouldIn) := goodIn_app (goodIn_of _ (by decide +kernel)) ggX3_firstWorthIn_X3_mouldIn
set_option maxRecDepth 20000 in
theorem gX3_firstWorthIn_X3_mouldIn_u34X2 : GoodIn wsX3_firstWorthIn (va_wsU RX3 34 RX2 "JamDays$Jar" ⟨"JamDays$Jar", "mouldIn", "(I)I"⟩ yX3_mouldIn wsX3_mouldIn) := goodIn_app (goodIn_of _ (by decide +kernel)) ggX3_firstWorthIn_X3_mouldIn
set_option maxRecDepth 20000 in
theorem gX3_firstWorthIn_X3_mouldIn : GoodIn wsX3_firstWorthIn (wsV RX3 34 RX3 yX3_mouldIn wsX3_mouldIn) := goodIn_app (goodIn_of _ (by decide +kernel)) ggX3_firstWorthIn_X3_mouldIn
set_option maxRecDepth 20000 in
theorem gX3_firstWorthIn_X3_mouldIn_u34X4 : GoodIn wsX3_firstWorthIn (va_wsU RX3 34 RX4 "JamDays$Jar" ⟨"JamDays$Jar", "mouldIn", "(I)I"⟩ yX3_mouldIn wsX3_mouldIn) := goodIn_app (goodIn_of _ (by decide +kernel)) ggX3_firstWorthIn_X3_mouldIn
set_option maxRecDepth 20000 in
theorem gX3_firstWorthIn_X3_mouldIn_u34X5 : GoodIn wsX3_firstWorthIn (va_wsU RX3 34 RX5 "JamDays$Jar" ⟨"JamDays$Jar", "mouldIn", "(I)I"⟩ yX3_mouldIn wsX3_mouldIn) := goodIn_app (goodIn_of _ (by decide +kernel)) ggX3_firstWorthIn_X3_mouldIn
theorem dX3_firstWorthIn_0 : decode cX3_firstWorthIn 0 = .ok (.aload_n 0, 1) := by decide +kernel
theorem dX3_firstWorthIn_1 : decode cX3_firstWorthIn 1 = .ok (.getfield 18, 3) := by decide +kernel
theorem dX3_firstWorthIn_4 : decode cX3_firstWorthIn 4 = .ok (.aload_n 0, 1) := by decide +kernel
theorem dX3_firstWorthIn_5 : decode cX3_firstWorthIn 5 = .ok (.iload_n 1, 1) := by decide +kernel
theorem dX3_firstWorthIn_6 : decode cX3_firstWorthIn 6 = .ok (.invokevirtual 34, 3) := by decide +kernel
theorem dX3_firstWorthIn_9 : decode cX3_firstWorthIn 9 = .ok (.isub, 1) := by decide +kernel
theorem dX3_firstWorthIn_10 : decode cX3_firstWorthIn 10 = .ok (.ireturn, 1) := by decide +kernel
set_option maxRecDepth 20000 in
theorem ggX4_init_X3_init : GoodIn wsX4_init wsX3_init := goodIn_r _ [4, 5, 6, 3, 7, 8, 9, 10, 11, 12, 13, 14, 15, 16, 17, 18, 19, 20, 21, 22, 23, 24, 25, 26, 27, 28, 29, 30, 31, 32, 33, 34, 35] (by decide +kernel) (by decide +kernel)
set_option maxRecDepth 20000 in
theorem gX4_init_X3_init : GoodIn wsX4_init (wsX3_init) := ggX4_init_X3_init
theorem dX4_init_0 : decode cX4_init 0 = .ok (.aload_n 0, 1) := by decide +kernel
theorem dX4_init_1 : decode cX4_init 1 = .ok (.iload_n 1, 1) := by decide +kernel
theorem dX4_init_2 : decode cX4_init 2 = .ok (.iload_n 2, 1) := by decide +kernel
theorem dX4_init_3 : decode cX4_init 3 = .ok (.invokespecial 3, 3) := by decide +kernel
theorem dX4_init_6 : decode cX4_init 6 = .ok (.return_, 1) := by decide +kernel
theorem dX4_kindNumber_0 : decode cX4_kindNumber 0 = .ok (.iconst 3, 1) := by decide +kernel
theorem dX4_kindNumber_1 : decode cX4_kindNumber 1 = .ok (.ireturn, 1) := by decide +kernel
set_option maxRecDepth 20000 in
theorem ggX4_firstWorthIn_X3_mouldIn : GoodIn wsX4_firstWorthIn wsX3_mouldIn := goodIn_r _ [8, 9, 10, 11, 12, 13, 14, 15, 16, 17, 18, 19, 20, 21, 22, 23, 24] (by decide +kernel) (by decide +kernel)
set_option maxRecDepth 20000 in
theorem gX4_firstWorthIn_X3_mouldIn_u15X4 : GoodIn wsX4_firstWorthIn (va_wsU RX4 15 RX4 "JamDays$Jar" ⟨"JamDays$Plum", "mouldIn", "(I)I"⟩ yX3_mouldIn wsX3_mouldIn) := goodIn_app (goodIn_of _ (by decide +kernel)) ggX4_firstWorthIn_X3_mouldIn
theorem dX4_firstWorthIn_0 : decode cX4_firstWorthIn 0 = .ok (.iload_n 1, 1) := by decide +kernel
theorem dX4_firstWorthIn_1 : decode cX4_firstWorthIn 1 = .ok (.iconst 2, 1) := by decide +kernel
theorem dX4_firstWorthIn_2 : decode cX4_firstWorthIn 2 = .ok (.irem, 1) := by decide +kernel
theorem dX4_firstWorthIn_3 : decode cX4_firstWorthIn 3 = .ok (.iconst 1, 1) := by decide +kernel
theorem dX4_firstWorthIn_4 : decode cX4_firstWorthIn 4 = .ok (.if_icmp .ne 7, 3) := by decide +kernel
theorem dX4_firstWorthIn_7 : decode cX4_firstWorthIn 7 = .ok (.iconst 3, 1) := by decide +kernel
theorem dX4_firstWorthIn_8 : decode cX4_firstWorthIn 8 = .ok (.goto 4, 3) := by decide +kernel
theorem dX4_firstWorthIn_11 : decode cX4_firstWorthIn 11 = .ok (.iconst 0, 1) := by decide +kernel
theorem dX4_firstWorthIn_12 : decode cX4_firstWorthIn 12 = .ok (.istore_n 2, 1) := by decide +kernel
theorem dX4_firstWorthIn_13 : decode cX4_firstWorthIn 13 = .ok (.aload_n 0, 1) := by decide +kernel
theorem dX4_firstWorthIn_14 : decode cX4_firstWorthIn 14 = .ok (.getfield 9, 3) := by decide +kernel
theorem dX4_firstWorthIn_17 : decode cX4_firstWorthIn 17 = .ok (.aload_n 0, 1) := by decide +kernel
theorem dX4_firstWorthIn_18 : decode cX4_firstWorthIn 18 = .ok (.iload_n 1, 1) := by decide +kernel
theorem dX4_firstWorthIn_19 : decode cX4_firstWorthIn 19 = .ok (.invokevirtual 15, 3) := by decide +kernel
theorem dX4_firstWorthIn_22 : decode cX4_firstWorthIn 22 = .ok (.isub, 1) := by decide +kernel
theorem dX4_firstWorthIn_23 : decode cX4_firstWorthIn 23 = .ok (.iload_n 2, 1) := by decide +kernel
theorem dX4_firstWorthIn_24 : decode cX4_firstWorthIn 24 = .ok (.iadd, 1) := by decide +kernel
theorem dX4_firstWorthIn_25 : decode cX4_firstWorthIn 25 = .ok (.ireturn, 1) := by decide +kernel
set_option maxRecDepth 20000 in
theorem ggX5_init_X3_init_ : GoodIn wsX5_init wsX3_init_ := goodIn_r _ [4, 5, 6, 7, 8, 9, 10, 11, 12, 13, 14, 15, 16, 17, 18, 19, 20, 21, 22, 23, 24, 25] (by decide +kernel) (by decide +kernel)
set_option maxRecDepth 20000 in
theorem gX5_init_X3_init_ : GoodIn wsX5_init (wsX3_init_) := ggX5_init_X3_init_
theorem dX5_init_0 : decode cX5_init 0 = .ok (.aload_n 0, 1) := by decide +kernel
theorem dX5_init_1 : decode cX5_init 1 = .ok (.iload_n 1, 1) := by decide +kernel
theorem dX5_init_2 : decode cX5_init 2 = .ok (.iload_n 2, 1) := by decide +kernel
theorem dX5_init_3 : decode cX5_init 3 = .ok (.iload_n 2, 1) := by decide +kernel
theorem dX5_init_4 : decode cX5_init 4 = .ok (.invokestatic 3, 3) := by decide +kernel
theorem dX5_init_7 : decode cX5_init 7 = .ok (.iconst 1, 1) := by decide +kernel
theorem dX5_init_8 : decode cX5_init 8 = .ok (.iadd, 1) := by decide +kernel
theorem dX5_init_9 : decode cX5_init 9 = .ok (.invokespecial 9, 3) := by decide +kernel
theorem dX5_init_12 : decode cX5_init 12 = .ok (.return_, 1) := by decide +kernel
theorem dX5_kindNumber_0 : decode cX5_kindNumber 0 = .ok (.iconst 1, 1) := by decide +kernel
theorem dX5_kindNumber_1 : decode cX5_kindNumber 1 = .ok (.ireturn, 1) := by decide +kernel
set_option maxRecDepth 20000 in
theorem ggX6_init_X1_init : GoodIn wsX6_init wsX1_init := goodIn_r _ [22, 23, 2, 3, 24, 25, 26, 27, 28, 4, 29, 30, 31, 32, 45, 46, 47, 48, 49, 50, 51, 52, 53] (by decide +kernel) (by decide +kernel)
set_option maxRecDepth 20000 in
theorem gX6_init_X1_init_n28 : GoodIn wsX6_init (wsX1_init) := ggX6_init_X1_init
theorem dX6_init_0 : decode cX6_init 0 = .ok (.aload_n 0, 1) := by decide +kernel
theorem dX6_init_1 : decode cX6_init 1 = .ok (.invokespecial 3, 3) := by decide +kernel
theorem dX6_init_4 : decode cX6_init 4 = .ok (.aload_n 0, 1) := by decide +kernel
theorem dX6_init_5 : decode cX6_init 5 = .ok (.bipush 25, 2) := by decide +kernel
theorem dX6_init_7 : decode cX6_init 7 = .ok (.newarray .int, 2) := by decide +kernel
theorem dX6_init_9 : decode cX6_init 9 = .ok (.putfield 9, 3) := by decide +kernel
theorem dX6_init_12 : decode cX6_init 12 = .ok (.aload_n 0, 1) := by decide +kernel
theorem dX6_init_13 : decode cX6_init 13 = .ok (.iconst 0, 1) := by decide +kernel
theorem dX6_init_14 : decode cX6_init 14 = .ok (.putfield 13, 3) := by decide +kernel
theorem dX6_init_17 : decode cX6_init 17 = .ok (.aload_n 0, 1) := by decide +kernel
theorem dX6_init_18 : decode cX6_init 18 = .ok (.bipush 6, 2) := by decide +kernel
theorem dX6_init_20 : decode cX6_init 20 = .ok (.anewarray 17, 3) := by decide +kernel
theorem dX6_init_23 : decode cX6_init 23 = .ok (.putfield 19, 3) := by decide +kernel
theorem dX6_init_26 : decode cX6_init 26 = .ok (.aload_n 0, 1) := by decide +kernel
theorem dX6_init_27 : decode cX6_init 27 = .ok (.iconst 0, 1) := by decide +kernel
theorem dX6_init_28 : decode cX6_init 28 = .ok (.putfield 23, 3) := by decide +kernel
theorem dX6_init_31 : decode cX6_init 31 = .ok (.aload_n 0, 1) := by decide +kernel
theorem dX6_init_32 : decode cX6_init 32 = .ok (.new 26, 3) := by decide +kernel
theorem dX6_init_35 : decode cX6_init 35 = .ok (.dup, 1) := by decide +kernel
theorem dX6_init_36 : decode cX6_init 36 = .ok (.invokespecial 28, 3) := by decide +kernel
theorem dX6_init_39 : decode cX6_init 39 = .ok (.putfield 29, 3) := by decide +kernel
theorem dX6_init_42 : decode cX6_init 42 = .ok (.aload_n 0, 1) := by decide +kernel
theorem dX6_init_43 : decode cX6_init 43 = .ok (.new 26, 3) := by decide +kernel
theorem dX6_init_46 : decode cX6_init 46 = .ok (.dup, 1) := by decide +kernel
theorem dX6_init_47 : decode cX6_init 47 = .ok (.invokespecial 28, 3) := by decide +kernel
theorem dX6_init_50 : decode cX6_init 50 = .ok (.putfield 33, 3) := by decide +kernel
theorem dX6_init_53 : decode cX6_init 53 = .ok (.aload_n 0, 1) := by decide +kernel
theorem dX6_init_54 : decode cX6_init 54 = .ok (.new 26, 3) := by decide +kernel
theorem dX6_init_57 : decode cX6_init 57 = .ok (.dup, 1) := by decide +kernel
theorem dX6_init_58 : decode cX6_init 58 = .ok (.invokespecial 28, 3) := by decide +kernel
theorem dX6_init_61 : decode cX6_init 61 = .ok (.putfield 36, 3) := by decide +kernel
theorem dX6_init_64 : decode cX6_init 64 = .ok (.aload_n 0, 1) := by decide +kernel
theorem dX6_init_65 : decode cX6_init 65 = .ok (.iconst 0, 1) := by decide +kernel
theorem dX6_init_66 : decode cX6_init 66 = .ok (.putfield 39, 3) := by decide +kernel
theorem dX6_init_69 : decode cX6_init 69 = .ok (.aload_n 0, 1) := by decide +kernel
theorem dX6_init_70 : decode cX6_init 70 = .ok (.iconst 0, 1) := by decide +kernel
theorem dX6_init_71 : decode cX6_init 71 = .ok (.putfield 43, 3) := by decide +kernel
theorem dX6_init_74 : decode cX6_init 74 = .ok (.aload_n 0, 1) := by decide +kernel
theorem dX6_init_75 : decode cX6_init 75 = .ok (.iconst 0, 1) := by decide +kernel
theorem dX6_init_76 : decode cX6_init 76 = .ok (.putfield 46, 3) := by decide +kernel
theorem dX6_init_79 : decode cX6_init 79 = .ok (.aload_n 0, 1) := by decide +kernel
theorem dX6_init_80 : decode cX6_init 80 = .ok (.bipush 91, 2) := by decide +kernel
theorem dX6_init_82 : decode cX6_init 82 = .ok (.newarray .int, 2) := by decide +kernel
theorem dX6_init_84 : decode cX6_init 84 = .ok (.putfield 49, 3) := by decide +kernel
theorem dX6_init_87 : decode cX6_init 87 = .ok (.aload_n 0, 1) := by decide +kernel
theorem dX6_init_88 : decode cX6_init 88 = .ok (.bipush 6, 2) := by decide +kernel
theorem dX6_init_90 : decode cX6_init 90 = .ok (.newarray .int, 2) := by decide +kernel
theorem dX6_init_92 : decode cX6_init 92 = .ok (.putfield 52, 3) := by decide +kernel
theorem dX6_init_95 : decode cX6_init 95 = .ok (.return_, 1) := by decide +kernel
theorem dX6_letter_0 : decode cX6_letter 0 = .ok (.iload_n 1, 1) := by decide +kernel
theorem dX6_letter_1 : decode cX6_letter 1 = .ok (.iconst 1, 1) := by decide +kernel
theorem dX6_letter_2 : decode cX6_letter 2 = .ok (.if_icmp .lt 9, 3) := by decide +kernel
theorem dX6_letter_5 : decode cX6_letter 5 = .ok (.iload_n 1, 1) := by decide +kernel
theorem dX6_letter_6 : decode cX6_letter 6 = .ok (.bipush 126, 2) := by decide +kernel
theorem dX6_letter_8 : decode cX6_letter 8 = .ok (.if_icmp .le 6, 3) := by decide +kernel
theorem dX6_letter_11 : decode cX6_letter 11 = .ok (.bipush (-102), 2) := by decide +kernel
theorem dX6_letter_13 : decode cX6_letter 13 = .ok (.ireturn, 1) := by decide +kernel
theorem dX6_letter_14 : decode cX6_letter 14 = .ok (.aload_n 0, 1) := by decide +kernel
theorem dX6_letter_15 : decode cX6_letter 15 = .ok (.getfield 13, 3) := by decide +kernel
theorem dX6_letter_18 : decode cX6_letter 18 = .ok (.ifCond .lt 12, 3) := by decide +kernel
theorem dX6_letter_21 : decode cX6_letter 21 = .ok (.aload_n 0, 1) := by decide +kernel
theorem dX6_letter_22 : decode cX6_letter 22 = .ok (.getfield 13, 3) := by decide +kernel
theorem dX6_letter_25 : decode cX6_letter 25 = .ok (.bipush 25, 2) := by decide +kernel
theorem dX6_letter_27 : decode cX6_letter 27 = .ok (.if_icmp .lt 6, 3) := by decide +kernel
theorem dX6_letter_30 : decode cX6_letter 30 = .ok (.bipush (-104), 2) := by decide +kernel
theorem dX6_letter_32 : decode cX6_letter 32 = .ok (.ireturn, 1) := by decide +kernel
theorem dX6_letter_33 : decode cX6_letter 33 = .ok (.aload_n 0, 1) := by decide +kernel
theorem dX6_letter_34 : decode cX6_letter 34 = .ok (.getfield 9, 3) := by decide +kernel
theorem dX6_letter_37 : decode cX6_letter 37 = .ok (.aload_n 0, 1) := by decide +kernel
theorem dX6_letter_38 : decode cX6_letter 38 = .ok (.getfield 13, 3) := by decide +kernel
theorem dX6_letter_41 : decode cX6_letter 41 = .ok (.iload_n 1, 1) := by decide +kernel
theorem dX6_letter_42 : decode cX6_letter 42 = .ok (.iastore, 1) := by decide +kernel
theorem dX6_letter_43 : decode cX6_letter 43 = .ok (.aload_n 0, 1) := by decide +kernel
theorem dX6_letter_44 : decode cX6_letter 44 = .ok (.dup, 1) := by decide +kernel
theorem dX6_letter_45 : decode cX6_letter 45 = .ok (.getfield 13, 3) := by decide +kernel
theorem dX6_letter_48 : decode cX6_letter 48 = .ok (.iconst 1, 1) := by decide +kernel
theorem dX6_letter_49 : decode cX6_letter 49 = .ok (.iadd, 1) := by decide +kernel
theorem dX6_letter_50 : decode cX6_letter 50 = .ok (.putfield 13, 3) := by decide +kernel
theorem dX6_letter_53 : decode cX6_letter 53 = .ok (.aload_n 0, 1) := by decide +kernel
theorem dX6_letter_54 : decode cX6_letter 54 = .ok (.getfield 13, 3) := by decide +kernel
theorem dX6_letter_57 : decode cX6_letter 57 = .ok (.ireturn, 1) := by decide +kernel
theorem dX6_blank_0 : decode cX6_blank 0 = .ok (.aload_n 0, 1) := by decide +kernel
theorem dX6_blank_1 : decode cX6_blank 1 = .ok (.getfield 13, 3) := by decide +kernel
theorem dX6_blank_4 : decode cX6_blank 4 = .ok (.istore_n 1, 1) := by decide +kernel
theorem dX6_blank_5 : decode cX6_blank 5 = .ok (.aload_n 0, 1) := by decide +kernel
theorem dX6_blank_6 : decode cX6_blank 6 = .ok (.iconst 0, 1) := by decide +kernel
theorem dX6_blank_7 : decode cX6_blank 7 = .ok (.putfield 13, 3) := by decide +kernel
theorem dX6_blank_10 : decode cX6_blank 10 = .ok (.iload_n 1, 1) := by decide +kernel
theorem dX6_blank_11 : decode cX6_blank 11 = .ok (.ireturn, 1) := by decide +kernel
set_option maxRecDepth 20000 in
theorem ggX6_fault_X6_codeAt : GoodIn wsX6_fault wsX6_codeAt := goodIn_r _ [6, 7, 14, 15, 16, 17, 18, 19, 20, 21, 22, 23, 24, 25] (by decide +kernel) (by decide +kernel)
set_option maxRecDepth 20000 in
theorem gX6_fault_X6_codeAt : GoodIn wsX6_fault (wsV RX6 55 RX6 yX6_codeAt wsX6_codeAt) := goodIn_app (goodIn_of _ (by decide +kernel)) ggX6_fault_X6_codeAt
set_option maxRecDepth 20000 in
theorem ggX6_fault_X6_fits : GoodIn wsX6_fault wsX6_fits := goodIn_r _ [10, 11, 12, 5, 13] (by decide +kernel) (by decide +kernel)
set_option maxRecDepth 20000 in
theorem gX6_fault_X6_fits : GoodIn wsX6_fault (va_wsS RX6 59 yX6_fits wsX6_fits) := goodIn_app (goodIn_of _ (by decide +kernel)) ggX6_fault_X6_fits
theorem dX6_fault_0 : decode cX6_fault 0 = .ok (.iconst 0, 1) := by decide +kernel
theorem dX6_fault_1 : decode cX6_fault 1 = .ok (.istore_n 1, 1) := by decide +kernel
theorem dX6_fault_2 : decode cX6_fault 2 = .ok (.iload_n 1, 1) := by decide +kernel
theorem dX6_fault_3 : decode cX6_fault 3 = .ok (.aload_n 0, 1) := by decide +kernel
theorem dX6_fault_4 : decode cX6_fault 4 = .ok (.getfield 13, 3) := by decide +kernel
theorem dX6_fault_7 : decode cX6_fault 7 = .ok (.if_icmp .ge 23, 3) := by decide +kernel
theorem dX6_fault_10 : decode cX6_fault 10 = .ok (.iload_n 1, 1) := by decide +kernel
theorem dX6_fault_11 : decode cX6_fault 11 = .ok (.aload_n 0, 1) := by decide +kernel
theorem dX6_fault_12 : decode cX6_fault 12 = .ok (.iload_n 1, 1) := by decide +kernel
theorem dX6_fault_13 : decode cX6_fault 13 = .ok (.invokevirtual 55, 3) := by decide +kernel
theorem dX6_fault_16 : decode cX6_fault 16 = .ok (.invokestatic 59, 3) := by decide +kernel
theorem dX6_fault_19 : decode cX6_fault 19 = .ok (.ifCond .ne 5, 3) := by decide +kernel
theorem dX6_fault_22 : decode cX6_fault 22 = .ok (.iload_n 1, 1) := by decide +kernel
theorem dX6_fault_23 : decode cX6_fault 23 = .ok (.ireturn, 1) := by decide +kernel
theorem dX6_fault_24 : decode cX6_fault 24 = .ok (.iinc 1 1, 3) := by decide +kernel
theorem dX6_fault_27 : decode cX6_fault 27 = .ok (.goto (-25), 3) := by decide +kernel
theorem dX6_fault_30 : decode cX6_fault 30 = .ok (.aload_n 0, 1) := by decide +kernel
theorem dX6_fault_31 : decode cX6_fault 31 = .ok (.getfield 13, 3) := by decide +kernel
theorem dX6_fault_34 : decode cX6_fault 34 = .ok (.ireturn, 1) := by decide +kernel
set_option maxRecDepth 20000 in
theorem ggX6_larder_X6_pageIsLarder : GoodIn wsX6_larder wsX6_pageIsLarder := goodIn_r _ [11, 1, 12, 13, 14, 10, 15, 16, 17, 18, 19, 20, 21, 22, 23, 24, 25, 26, 93, 94, 95, 96, 97, 98, 99, 100, 101, 102, 103, 104] (by decide +kernel) (by decide +kernel)
set_option maxRecDepth 20000 in
theorem gX6_larder_X6_pageIsLarder : GoodIn wsX6_larder (wsV RX6 63 RX6 yX6_pageIsLarder wsX6_pageIsLarder) := goodIn_app (goodIn_of _ (by decide +kernel)) ggX6_larder_X6_pageIsLarder
set_option maxRecDepth 20000 in
theorem ggX6_larder_X6_readJar : GoodIn wsX6_larder wsX6_readJar := goodIn_r _ [30, 31, 32, 33, 34, 35, 36, 37, 38, 39, 40, 41, 42, 43, 44, 45, 16, 17, 18, 10, 19, 20, 46, 47, 48, 49, 50, 51, 52, 53, 54, 55, 56, 57, 58, 59, 60, 61, 62, 63, 64, 65, 66, 67, 68, 69, 70, 71, 72, 73, 74, 75, 76, 77, 78, 79, 80, 105, 106, 107, 108, 109, 110, 111, 112, 113, 114, 115, 116, 117, 118, 119, 93, 94, 95, 96, 97, 98, 99, 100, 101, 102, 103, 104] (by decide +kernel) (by decide +kernel)
set_option maxRecDepth 20000 in
theorem gX6_larder_X6_readJar : GoodIn wsX6_larder (wsV RX6 67 RX6 yX6_readJar wsX6_readJar) := goodIn_app (goodIn_of _ (by decide +kernel)) ggX6_larder_X6_readJar
set_option maxRecDepth 20000 in
theorem ggX6_larder_X1_startAnew : GoodIn wsX6_larder wsX1_startAnew := goodIn_r _ [85, 86, 87, 88, 89, 90, 91, 92, 120, 121, 122, 123, 124, 125, 126, 127, 128] (by decide +kernel) (by decide +kernel)
set_option maxRecDepth 20000 in
theorem gX6_larder_X1_startAnew : GoodIn wsX6_larder (wsV RX6 71 RX1 yX1_startAnew wsX1_startAnew) := goodIn_app (goodIn_of _ (by decide +kernel)) ggX6_larder_X1_startAnew
theorem dX6_larder_0 : decode cX6_larder 0 = .ok (.aload_n 0, 1) := by decide +kernel
theorem dX6_larder_1 : decode cX6_larder 1 = .ok (.invokevirtual 63, 3) := by decide +kernel
theorem dX6_larder_4 : decode cX6_larder 4 = .ok (.ifCond .ne 6, 3) := by decide +kernel
theorem dX6_larder_7 : decode cX6_larder 7 = .ok (.bipush (-103), 2) := by decide +kernel
theorem dX6_larder_9 : decode cX6_larder 9 = .ok (.ireturn, 1) := by decide +kernel
theorem dX6_larder_10 : decode cX6_larder 10 = .ok (.aload_n 0, 1) := by decide +kernel
theorem dX6_larder_11 : decode cX6_larder 11 = .ok (.aload_n 0, 1) := by decide +kernel
theorem dX6_larder_12 : decode cX6_larder 12 = .ok (.getfield 13, 3) := by decide +kernel
theorem dX6_larder_15 : decode cX6_larder 15 = .ok (.iconst 1, 1) := by decide +kernel
theorem dX6_larder_16 : decode cX6_larder 16 = .ok (.iadd, 1) := by decide +kernel
theorem dX6_larder_17 : decode cX6_larder 17 = .ok (.iconst 4, 1) := by decide +kernel
theorem dX6_larder_18 : decode cX6_larder 18 = .ok (.idiv, 1) := by decide +kernel
theorem dX6_larder_19 : decode cX6_larder 19 = .ok (.putfield 23, 3) := by decide +kernel
theorem dX6_larder_22 : decode cX6_larder 22 = .ok (.iconst 0, 1) := by decide +kernel
theorem dX6_larder_23 : decode cX6_larder 23 = .ok (.istore_n 1, 1) := by decide +kernel
theorem dX6_larder_24 : decode cX6_larder 24 = .ok (.iload_n 1, 1) := by decide +kernel
theorem dX6_larder_25 : decode cX6_larder 25 = .ok (.bipush 6, 2) := by decide +kernel
theorem dX6_larder_27 : decode cX6_larder 27 = .ok (.if_icmp .ge 34, 3) := by decide +kernel
theorem dX6_larder_30 : decode cX6_larder 30 = .ok (.aload_n 0, 1) := by decide +kernel
theorem dX6_larder_31 : decode cX6_larder 31 = .ok (.getfield 19, 3) := by decide +kernel
theorem dX6_larder_34 : decode cX6_larder 34 = .ok (.iload_n 1, 1) := by decide +kernel
theorem dX6_larder_35 : decode cX6_larder 35 = .ok (.iload_n 1, 1) := by decide +kernel
theorem dX6_larder_36 : decode cX6_larder 36 = .ok (.aload_n 0, 1) := by decide +kernel
theorem dX6_larder_37 : decode cX6_larder 37 = .ok (.getfield 23, 3) := by decide +kernel
theorem dX6_larder_40 : decode cX6_larder 40 = .ok (.if_icmp .ge 13, 3) := by decide +kernel
theorem dX6_larder_43 : decode cX6_larder 43 = .ok (.aload_n 0, 1) := by decide +kernel
theorem dX6_larder_44 : decode cX6_larder 44 = .ok (.iload_n 1, 1) := by decide +kernel
theorem dX6_larder_45 : decode cX6_larder 45 = .ok (.iconst 4, 1) := by decide +kernel
theorem dX6_larder_46 : decode cX6_larder 46 = .ok (.imul, 1) := by decide +kernel
theorem dX6_larder_47 : decode cX6_larder 47 = .ok (.invokevirtual 67, 3) := by decide +kernel
theorem dX6_larder_50 : decode cX6_larder 50 = .ok (.goto 4, 3) := by decide +kernel
theorem dX6_larder_53 : decode cX6_larder 53 = .ok (.aconst_null, 1) := by decide +kernel
theorem dX6_larder_54 : decode cX6_larder 54 = .ok (.aastore, 1) := by decide +kernel
theorem dX6_larder_55 : decode cX6_larder 55 = .ok (.iinc 1 1, 3) := by decide +kernel
theorem dX6_larder_58 : decode cX6_larder 58 = .ok (.goto (-34), 3) := by decide +kernel
theorem dX6_larder_61 : decode cX6_larder 61 = .ok (.aload_n 0, 1) := by decide +kernel
theorem dX6_larder_62 : decode cX6_larder 62 = .ok (.getfield 29, 3) := by decide +kernel
theorem dX6_larder_65 : decode cX6_larder 65 = .ok (.aload_n 0, 1) := by decide +kernel
theorem dX6_larder_66 : decode cX6_larder 66 = .ok (.getfield 23, 3) := by decide +kernel
theorem dX6_larder_69 : decode cX6_larder 69 = .ok (.invokevirtual 71, 3) := by decide +kernel
theorem dX6_larder_72 : decode cX6_larder 72 = .ok (.aload_n 0, 1) := by decide +kernel
theorem dX6_larder_73 : decode cX6_larder 73 = .ok (.iconst 0, 1) := by decide +kernel
theorem dX6_larder_74 : decode cX6_larder 74 = .ok (.putfield 39, 3) := by decide +kernel
theorem dX6_larder_77 : decode cX6_larder 77 = .ok (.aload_n 0, 1) := by decide +kernel
theorem dX6_larder_78 : decode cX6_larder 78 = .ok (.dup, 1) := by decide +kernel
theorem dX6_larder_79 : decode cX6_larder 79 = .ok (.getfield 43, 3) := by decide +kernel
theorem dX6_larder_82 : decode cX6_larder 82 = .ok (.iconst 1, 1) := by decide +kernel
theorem dX6_larder_83 : decode cX6_larder 83 = .ok (.iadd, 1) := by decide +kernel
theorem dX6_larder_84 : decode cX6_larder 84 = .ok (.putfield 43, 3) := by decide +kernel
theorem dX6_larder_87 : decode cX6_larder 87 = .ok (.aload_n 0, 1) := by decide +kernel
theorem dX6_larder_88 : decode cX6_larder 88 = .ok (.iconst 0, 1) := by decide +kernel
theorem dX6_larder_89 : decode cX6_larder 89 = .ok (.putfield 13, 3) := by decide +kernel
theorem dX6_larder_92 : decode cX6_larder 92 = .ok (.aload_n 0, 1) := by decide +kernel
theorem dX6_larder_93 : decode cX6_larder 93 = .ok (.getfield 23, 3) := by decide +kernel
theorem dX6_larder_96 : decode cX6_larder 96 = .ok (.ireturn, 1) := by decide +kernel
set_option maxRecDepth 20000 in
theorem ggX6_jar_X6_find : GoodIn wsX6_jar wsX6_find := goodIn_r _ [9, 10, 11, 113, 114, 115, 116, 117, 118, 119, 120, 121, 122, 123, 124] (by decide +kernel) (by decide +kernel)
set_option maxRecDepth 20000 in
theorem gX6_jar_X6_find : GoodIn wsX6_jar (wsV RX6 75 RX6 yX6_find wsX6_find) := goodIn_app (goodIn_of _ (by decide +kernel)) ggX6_jar_X6_find
set_option maxRecDepth 20000 in
theorem ggX6_jar_X0_kindNumber : GoodIn wsX6_jar wsX0_kindNumber := goodIn_r _ [18] (by decide +kernel) (by decide +kernel)
set_option maxRecDepth 20000 in
theorem gX6_jar_X0_kindNumber_u78X0 : GoodIn wsX6_jar (va_wsO RX6 78 RX0 "JamDays$Jar" ⟨"JamDays$Jar", "kindNumber", "()I"⟩ yX0_kindNumber wsX0_kindNumber) := goodIn_app (goodIn_of _ (by decide +kernel)) ggX6_jar_X0_kindNumber
set_option maxRecDepth 20000 in
theorem ggX6_jar_X2_kindNumber : GoodIn wsX6_jar wsX2_kindNumber := goodIn_r _ [23] (by decide +kernel) (by decide +kernel)
set_option maxRecDepth 20000 in
theorem gX6_jar_X2_kindNumber_u78X2 : GoodIn wsX6_jar (va_wsO RX6 78 RX2 "JamDays$Jar" ⟨"JamDays$Jar", "kindNumber", "()I"⟩ yX2_kindNumber wsX2_kindNumber) := goodIn_app (goodIn_of _ (by decide +kernel)) ggX6_jar_X2_kindNumber
set_option maxRecDepth 20000 in
theorem ggX6_jar_X3_kindNumber : GoodIn wsX6_jar wsX3_kindNumber := goodIn_r _ [19] (by decide +kernel) (by decide +kernel)
set_option maxRecDepth 20000 in
theorem gX6_jar_X3_kindNumber : GoodIn wsX6_jar (wsV RX6 78 RX3 yX3_kindNumber wsX3_kindNumber) := goodIn_app (goodIn_of _ (by decide +kernel)) ggX6_jar_X3_kindNumber
set_option maxRecDepth 20000 in
theorem ggX6_jar_X4_kindNumber : GoodIn wsX6_jar wsX4_kindNumber := goodIn_r _ [31] (by decide +kernel) (by decide +kernel)
set_option maxRecDepth 20000 in
theorem gX6_jar_X4_kindNumber_u78X4 : GoodIn wsX6_jar (va_wsO RX6 78 RX4 "JamDays$Jar" ⟨"JamDays$Jar", "kindNumber", "()I"⟩ yX4_kindNumber wsX4_kindNumber) := goodIn_app (goodIn_of _ (by decide +kernel)) ggX6_jar_X4_kindNumber
set_option maxRecDepth 20000 in
theorem ggX6_jar_X5_kindNumber : GoodIn wsX6_jar wsX5_kindNumber := goodIn_r _ [35] (by decide +kernel) (by decide +kernel)
set_option maxRecDepth 20000 in
theorem gX6_jar_X5_kindNumber_u78X5 : GoodIn wsX6_jar (va_wsO RX6 78 RX5 "JamDays$Jar" ⟨"JamDays$Jar", "kindNumber", "()I"⟩ yX5_kindNumber wsX5_kindNumber) := goodIn_app (goodIn_of _ (by decide +kernel)) ggX6_jar_X5_kindNumber
set_option maxRecDepth 20000 in
theorem ggX6_jar_X1_spoonsOf : GoodIn wsX6_jar wsX1_spoonsOf := goodIn_r _ [40, 41, 125, 126, 127, 128, 129, 130, 131, 132, 133] (by decide +kernel) (by decide +kernel)
set_option maxRecDepth 20000 in
theorem gX6_jar_X1_spoonsOf : GoodIn wsX6_jar (wsV RX6 88 RX1 yX1_spoonsOf wsX1_spoonsOf) := goodIn_app (goodIn_of _ (by decide +kernel)) ggX6_jar_X1_spoonsOf
set_option maxRecDepth 20000 in
theorem ggX6_jar_X3_mouldIn : GoodIn wsX6_jar wsX3_mouldIn := goodIn_r _ [46, 47, 98, 99, 100, 101, 102, 103, 104, 105, 106, 107, 108, 109, 110, 111, 112] (by decide +kernel) (by decide +kernel)
set_option maxRecDepth 20000 in
theorem gX6_jar_X3_mouldIn_u94X0 : GoodIn wsX6_jar (va_wsU RX6 94 RX0 "JamDays$Jar" ⟨"JamDays$Jar", "mouldIn", "(I)I"⟩ yX3_mouldIn wsX3_mouldIn) := goodIn_app (goodIn_of _ (by decide +kernel)) ggX6_jar_X3_mouldIn
set_option maxRecDepth 20000 in
theorem gX6_jar_X3_mouldIn_u94X2 : GoodIn wsX6_jar (va_wsU RX6 94 RX2 "JamDays$Jar" ⟨"JamDays$Jar", "mouldIn", "(I)I"⟩ yX3_mouldIn wsX3_mouldIn) := goodIn_app (goodIn_of _ (by decide +kernel)) ggX6_jar_X3_mouldIn
set_option maxRecDepth 20000 in
theorem gX6_jar_X3_mouldIn : GoodIn wsX6_jar (wsV RX6 94 RX3 yX3_mouldIn wsX3_mouldIn) := goodIn_app (goodIn_of _ (by decide +kernel)) ggX6_jar_X3_mouldIn
set_option maxRecDepth 20000 in
theorem gX6_jar_X3_mouldIn_u94X4 : GoodIn wsX6_jar (va_wsU RX6 94 RX4 "JamDays$Jar" ⟨"JamDays$Jar", "mouldIn", "(I)I"⟩ yX3_mouldIn wsX3_mouldIn) := goodIn_app (goodIn_of _ (by decide +kernel)) ggX6_jar_X3_mouldIn
set_option maxRecDepth 20000 in
theorem gX6_jar_X3_mouldIn_u94X5 : GoodIn wsX6_jar (va_wsU RX6 94 RX5 "JamDays$Jar" ⟨"JamDays$Jar", "mouldIn", "(I)I"⟩ yX3_mouldIn wsX3_mouldIn) := goodIn_app (goodIn_of _ (by decide +kernel)) ggX6_jar_X3_mouldIn
set_option maxRecDepth 20000 in
theorem ggX6_jar_X6_nextWorth : GoodIn wsX6_jar wsX6_nextWorth := goodIn_r _ [56, 3, 4, 57, 58, 59, 8, 60, 5, 6, 7, 9, 10, 11, 61, 62, 63, 64, 27, 65, 66, 67, 43, 44, 45, 46, 47, 48, 68, 50, 51, 52, 69, 70, 71, 22, 72, 73, 74, 75, 76, 77, 78, 79, 80, 81, 30, 82, 83, 84, 85, 86, 87, 88, 89, 90, 91, 39, 92, 93, 113, 114, 115, 116, 117, 118, 119, 120, 121, 122, 123, 124, 125, 126, 127, 128, 129, 130, 131, 132, 133, 98, 99, 100, 101, 102, 103, 104, 105, 106, 107, 108, 109, 110, 111, 112] (by decide +kernel) (by decide +kernel)
set_option maxRecDepth 20000 in
theorem gX6_jar_X6_nextWorth : GoodIn wsX6_jar (wsV RX6 97 RX6 yX6_nextWorth wsX6_nextWorth) := goodIn_app (goodIn_of _ (by decide +kernel)) ggX6_jar_X6_nextWorth
set_option maxRecDepth 20000 in
theorem ggX6_jar_X1_eatenNowOf : GoodIn wsX6_jar wsX1_eatenNowOf := goodIn_r _ [92, 93, 125, 126, 127, 128, 129, 130, 131, 132, 133] (by decide +kernel) (by decide +kernel)
set_option maxRecDepth 20000 in
theorem gX6_jar_X1_eatenNowOf : GoodIn wsX6_jar (wsV RX6 100 RX1 yX1_eatenNowOf wsX1_eatenNowOf) := goodIn_app (goodIn_of _ (by decide +kernel)) ggX6_jar_X1_eatenNowOf
set_option maxRecDepth 20000 in
theorem ggX6_jar_X6_yearsToBest : GoodIn wsX6_jar wsX6_yearsToBest := goodIn_r _ [97, 3, 4, 57, 58, 59, 8, 60, 5, 6, 7, 9, 10, 11, 61, 62, 63, 64, 27, 65, 66, 67, 43, 44, 45, 46, 47, 48, 68, 50, 51, 52, 69, 70, 71, 22, 72, 73, 74, 75, 76, 77, 78, 79, 80, 81, 30, 82, 83, 84, 85, 86, 87, 88, 113, 114, 115, 116, 117, 118, 119, 120, 121, 122, 123, 124, 125, 126, 127, 128, 129, 130, 131, 132, 133, 98, 99, 100, 101, 102, 103, 104, 105, 106, 107, 108, 109, 110, 111, 112] (by decide +kernel) (by decide +kernel)
set_option maxRecDepth 20000 in
theorem gX6_jar_X6_yearsToBest : GoodIn wsX6_jar (wsV RX6 103 RX6 yX6_yearsToBest wsX6_yearsToBest) := goodIn_app (goodIn_of _ (by decide +kernel)) ggX6_jar_X6_yearsToBest
theorem dX6_jar_0 : decode cX6_jar 0 = .ok (.aload_n 0, 1) := by decide +kernel
theorem dX6_jar_1 : decode cX6_jar 1 = .ok (.iload_n 1, 1) := by decide +kernel
theorem dX6_jar_2 : decode cX6_jar 2 = .ok (.invokevirtual 75, 3) := by decide +kernel
theorem dX6_jar_5 : decode cX6_jar 5 = .ok (.astore_n 3, 1) := by decide +kernel
theorem dX6_jar_6 : decode cX6_jar 6 = .ok (.aload_n 3, 1) := by decide +kernel
theorem dX6_jar_7 : decode cX6_jar 7 = .ok (.ifnonnull 6, 3) := by decide +kernel
theorem dX6_jar_10 : decode cX6_jar 10 = .ok (.bipush (-101), 2) := by decide +kernel
theorem dX6_jar_12 : decode cX6_jar 12 = .ok (.ireturn, 1) := by decide +kernel
theorem dX6_jar_13 : decode cX6_jar 13 = .ok (.iload_n 2, 1) := by decide +kernel
theorem dX6_jar_14 : decode cX6_jar 14 = .ok (.tableswitch 106 0 7 #[46, 51, 56, 61, 70, 82, 91, 100], 46) := by decide +kernel
theorem dX6_jar_60 : decode cX6_jar 60 = .ok (.aload_n 3, 1) := by decide +kernel
theorem dX6_jar_61 : decode cX6_jar 61 = .ok (.invokevirtual 78, 3) := by decide +kernel
theorem dX6_jar_64 : decode cX6_jar 64 = .ok (.ireturn, 1) := by decide +kernel
theorem dX6_jar_65 : decode cX6_jar 65 = .ok (.aload_n 3, 1) := by decide +kernel
theorem dX6_jar_66 : decode cX6_jar 66 = .ok (.getfield 82, 3) := by decide +kernel
theorem dX6_jar_69 : decode cX6_jar 69 = .ok (.ireturn, 1) := by decide +kernel
theorem dX6_jar_70 : decode cX6_jar 70 = .ok (.aload_n 3, 1) := by decide +kernel
theorem dX6_jar_71 : decode cX6_jar 71 = .ok (.getfield 85, 3) := by decide +kernel
theorem dX6_jar_74 : decode cX6_jar 74 = .ok (.ireturn, 1) := by decide +kernel
theorem dX6_jar_75 : decode cX6_jar 75 = .ok (.aload_n 0, 1) := by decide +kernel
theorem dX6_jar_76 : decode cX6_jar 76 = .ok (.getfield 29, 3) := by decide +kernel
theorem dX6_jar_79 : decode cX6_jar 79 = .ok (.iload_n 1, 1) := by decide +kernel
theorem dX6_jar_80 : decode cX6_jar 80 = .ok (.invokevirtual 88, 3) := by decide +kernel
theorem dX6_jar_83 : decode cX6_jar 83 = .ok (.ireturn, 1) := by decide +kernel
theorem dX6_jar_84 : decode cX6_jar 84 = .ok (.aload_n 3, 1) := by decide +kernel
theorem dX6_jar_85 : decode cX6_jar 85 = .ok (.aload_n 0, 1) := by decide +kernel
theorem dX6_jar_86 : decode cX6_jar 86 = .ok (.getfield 29, 3) := by decide +kernel
theorem dX6_jar_89 : decode cX6_jar 89 = .ok (.getfield 91, 3) := by decide +kernel
theorem dX6_jar_92 : decode cX6_jar 92 = .ok (.invokevirtual 94, 3) := by decide +kernel
theorem dX6_jar_95 : decode cX6_jar 95 = .ok (.ireturn, 1) := by decide +kernel
theorem dX6_jar_96 : decode cX6_jar 96 = .ok (.aload_n 0, 1) := by decide +kernel
theorem dX6_jar_97 : decode cX6_jar 97 = .ok (.iload_n 1, 1) := by decide +kernel
theorem dX6_jar_98 : decode cX6_jar 98 = .ok (.invokevirtual 97, 3) := by decide +kernel
theorem dX6_jar_101 : decode cX6_jar 101 = .ok (.bipush 100, 2) := by decide +kernel
theorem dX6_jar_103 : decode cX6_jar 103 = .ok (.iadd, 1) := by decide +kernel
theorem dX6_jar_104 : decode cX6_jar 104 = .ok (.ireturn, 1) := by decide +kernel
theorem dX6_jar_105 : decode cX6_jar 105 = .ok (.aload_n 0, 1) := by decide +kernel
theorem dX6_jar_106 : decode cX6_jar 106 = .ok (.getfield 29, 3) := by decide +kernel
theorem dX6_jar_109 : decode cX6_jar 109 = .ok (.iload_n 1, 1) := by decide +kernel
theorem dX6_jar_110 : decode cX6_jar 110 = .ok (.invokevirtual 100, 3) := by decide +kernel
theorem dX6_jar_113 : decode cX6_jar 113 = .ok (.ireturn, 1) := by decide +kernel
theorem dX6_jar_114 : decode cX6_jar 114 = .ok (.aload_n 0, 1) := by decide +kernel
theorem dX6_jar_115 : decode cX6_jar 115 = .ok (.iload_n 1, 1) := by decide +kernel
theorem dX6_jar_116 : decode cX6_jar 116 = .ok (.invokevirtual 103, 3) := by decide +kernel
theorem dX6_jar_119 : decode cX6_jar 119 = .ok (.ireturn, 1) := by decide +kernel
theorem dX6_jar_120 : decode cX6_jar 120 = .ok (.bipush (-102), 2) := by decide +kernel
theorem dX6_jar_122 : decode cX6_jar 122 = .ok (.ireturn, 1) := by decide +kernel
set_option maxRecDepth 20000 in
theorem ggX6_as_X6_find : GoodIn wsX6_as wsX6_find := goodIn_r _ [5, 6, 7, 15, 16, 17, 18, 19, 20, 21, 22, 23, 24, 25, 26] (by decide +kernel) (by decide +kernel)
set_option maxRecDepth 20000 in
theorem gX6_as_X6_find : GoodIn wsX6_as (wsV RX6 75 RX6 yX6_find wsX6_find) := goodIn_app (goodIn_of _ (by decide +kernel)) ggX6_as_X6_find
set_option maxRecDepth 20000 in
theorem ggX6_as_X6_isOfKind : GoodIn wsX6_as wsX6_isOfKind := goodIn_r _ [10, 11, 12, 13, 14] (by decide +kernel) (by decide +kernel)
set_option maxRecDepth 20000 in
theorem gX6_as_X6_isOfKind : GoodIn wsX6_as (va_wsS RX6 106 yX6_isOfKind wsX6_isOfKind) := goodIn_app (goodIn_of _ (by decide +kernel)) ggX6_as_X6_isOfKind
theorem dX6_as_0 : decode cX6_as 0 = .ok (.aload_n 0, 1) := by decide +kernel
theorem dX6_as_1 : decode cX6_as 1 = .ok (.iload_n 1, 1) := by decide +kernel
theorem dX6_as_2 : decode cX6_as 2 = .ok (.invokevirtual 75, 3) := by decide +kernel
theorem dX6_as_5 : decode cX6_as 5 = .ok (.astore_n 3, 1) := by decide +kernel
theorem dX6_as_6 : decode cX6_as 6 = .ok (.aload_n 3, 1) := by decide +kernel
theorem dX6_as_7 : decode cX6_as 7 = .ok (.ifnonnull 6, 3) := by decide +kernel
theorem dX6_as_10 : decode cX6_as 10 = .ok (.bipush (-101), 2) := by decide +kernel
theorem dX6_as_12 : decode cX6_as 12 = .ok (.ireturn, 1) := by decide +kernel
theorem dX6_as_13 : decode cX6_as 13 = .ok (.iload_n 2, 1) := by decide +kernel
theorem dX6_as_14 : decode cX6_as 14 = .ok (.ifCond .lt 8, 3) := by decide +kernel
theorem dX6_as_17 : decode cX6_as 17 = .ok (.iload_n 2, 1) := by decide +kernel
theorem dX6_as_18 : decode cX6_as 18 = .ok (.iconst 4, 1) := by decide +kernel
theorem dX6_as_19 : decode cX6_as 19 = .ok (.if_icmp .le 6, 3) := by decide +kernel
theorem dX6_as_22 : decode cX6_as 22 = .ok (.bipush (-102), 2) := by decide +kernel
theorem dX6_as_24 : decode cX6_as 24 = .ok (.ireturn, 1) := by decide +kernel
theorem dX6_as_25 : decode cX6_as 25 = .ok (.aload_n 3, 1) := by decide +kernel
theorem dX6_as_26 : decode cX6_as 26 = .ok (.iload_n 2, 1) := by decide +kernel
theorem dX6_as_27 : decode cX6_as 27 = .ok (.invokestatic 106, 3) := by decide +kernel
theorem dX6_as_30 : decode cX6_as 30 = .ok (.ifCond .eq 7, 3) := by decide +kernel
theorem dX6_as_33 : decode cX6_as 33 = .ok (.iload_n 1, 1) := by decide +kernel
theorem dX6_as_34 : decode cX6_as 34 = .ok (.goto 4, 3) := by decide +kernel
theorem dX6_as_37 : decode cX6_as 37 = .ok (.iconst (-1), 1) := by decide +kernel
theorem dX6_as_38 : decode cX6_as 38 = .ok (.ireturn, 1) := by decide +kernel
set_option maxRecDepth 20000 in
theorem ggX6_worth_X6_find : GoodIn wsX6_worth wsX6_find := goodIn_r _ [5, 6, 7, 55, 56, 57, 58, 59, 60, 61, 62, 63, 64, 65, 66] (by decide +kernel) (by decide +kernel)
set_option maxRecDepth 20000 in
theorem gX6_worth_X6_find : GoodIn wsX6_worth (wsV RX6 75 RX6 yX6_find wsX6_find) := goodIn_app (goodIn_of _ (by decide +kernel)) ggX6_worth_X6_find
set_option maxRecDepth 20000 in
theorem ggX6_worth_X6_isNoYear : GoodIn wsX6_worth wsX6_isNoYear := goodIn_r _ [10] (by decide +kernel) (by decide +kernel)
set_option maxRecDepth 20000 in
theorem gX6_worth_X6_isNoYear : GoodIn wsX6_worth (va_wsS RX6 110 yX6_isNoYear wsX6_isNoYear) := goodIn_app (goodIn_of _ (by decide +kernel)) ggX6_worth_X6_isNoYear
set_option maxRecDepth 20000 in
theorem ggX6_worth_X6_firstWorth : GoodIn wsX6_worth wsX6_firstWorth := goodIn_r _ [14, 1, 2, 3, 4, 5, 6, 7, 15, 16, 17, 18, 19, 20, 21, 22, 23, 24, 25, 26, 27, 28, 29, 30, 31, 32, 33, 34, 35, 36, 37, 38, 39, 40, 41, 42, 43, 44, 45, 46, 47, 48, 49, 50, 51, 52, 53, 54, 55, 56, 57, 58, 59, 60, 61, 62, 63, 64, 65, 66, 67, 68, 69, 70, 71, 72, 73, 74, 75, 76, 77, 78, 79, 80, 81] (by decide +kernel) (by decide +kernel)
set_option maxRecDepth 20000 in
theorem gX6_worth_X6_firstWorth : GoodIn wsX6_worth (wsV RX6 114 RX6 yX6_firstWorth wsX6_firstWorth) := goodIn_app (goodIn_of _ (by decide +kernel)) ggX6_worth_X6_firstWorth
theorem dX6_worth_0 : decode cX6_worth 0 = .ok (.aload_n 0, 1) := by decide +kernel
theorem dX6_worth_1 : decode cX6_worth 1 = .ok (.iload_n 1, 1) := by decide +kernel
theorem dX6_worth_2 : decode cX6_worth 2 = .ok (.invokevirtual 75, 3) := by decide +kernel
theorem dX6_worth_5 : decode cX6_worth 5 = .ok (.ifnonnull 6, 3) := by decide +kernel
theorem dX6_worth_8 : decode cX6_worth 8 = .ok (.bipush (-101), 2) := by decide +kernel
theorem dX6_worth_10 : decode cX6_worth 10 = .ok (.ireturn, 1) := by decide +kernel
theorem dX6_worth_11 : decode cX6_worth 11 = .ok (.iload_n 2, 1) := by decide +kernel
theorem dX6_worth_12 : decode cX6_worth 12 = .ok (.invokestatic 110, 3) := by decide +kernel
theorem dX6_worth_15 : decode cX6_worth 15 = .ok (.ifCond .eq 6, 3) := by decide +kernel
theorem dX6_worth_18 : decode cX6_worth 18 = .ok (.bipush (-102), 2) := by decide +kernel
theorem dX6_worth_20 : decode cX6_worth 20 = .ok (.ireturn, 1) := by decide +kernel
theorem dX6_worth_21 : decode cX6_worth 21 = .ok (.aload_n 0, 1) := by decide +kernel
theorem dX6_worth_22 : decode cX6_worth 22 = .ok (.iload_n 1, 1) := by decide +kernel
theorem dX6_worth_23 : decode cX6_worth 23 = .ok (.iload_n 2, 1) := by decide +kernel
theorem dX6_worth_24 : decode cX6_worth 24 = .ok (.invokevirtual 114, 3) := by decide +kernel
theorem dX6_worth_27 : decode cX6_worth 27 = .ok (.bipush 100, 2) := by decide +kernel
theorem dX6_worth_29 : decode cX6_worth 29 = .ok (.iadd, 1) := by decide +kernel
theorem dX6_worth_30 : decode cX6_worth 30 = .ok (.ireturn, 1) := by decide +kernel
set_option maxRecDepth 20000 in
theorem ggX6_eat_X6_find : GoodIn wsX6_eat wsX6_find := goodIn_r _ [6, 7, 8, 75, 76, 77, 78, 79, 80, 81, 82, 83, 84, 85, 86] (by decide +kernel) (by decide +kernel)
set_option maxRecDepth 20000 in
theorem gX6_eat_X6_find : GoodIn wsX6_eat (wsV RX6 75 RX6 yX6_find wsX6_find) := goodIn_app (goodIn_of _ (by decide +kernel)) ggX6_eat_X6_find
set_option maxRecDepth 20000 in
theorem ggX6_eat_X6_nextWorth : GoodIn wsX6_eat wsX6_nextWorth := goodIn_r _ [12, 1, 13, 14, 15, 16, 5, 17, 2, 3, 4, 6, 7, 8, 18, 19, 20, 21, 22, 23, 24, 25, 26, 27, 28, 29, 30, 31, 32, 33, 34, 35, 36, 37, 38, 39, 40, 41, 42, 43, 44, 45, 46, 47, 48, 49, 50, 51, 52, 53, 54, 55, 56, 57, 58, 59, 60, 61, 62, 63, 75, 76, 77, 78, 79, 80, 81, 82, 83, 84, 85, 86, 87, 88, 89, 90, 91, 92, 93, 94, 95, 96, 97, 98, 99, 100, 101, 102, 103, 104, 105, 106, 107, 108, 109, 110] (by decide +kernel) (by decide +kernel)
set_option maxRecDepth 20000 in
theorem gX6_eat_X6_nextWorth : GoodIn wsX6_eat (wsV RX6 97 RX6 yX6_nextWorth wsX6_nextWorth) := goodIn_app (goodIn_of _ (by decide +kernel)) ggX6_eat_X6_nextWorth
set_option maxRecDepth 20000 in
theorem ggX6_eat_X1_eatSpoon : GoodIn wsX6_eat wsX1_eatSpoon := goodIn_r _ [67, 68, 63, 69, 70, 71, 72, 73, 61, 74, 87, 88, 89, 90, 91, 92, 93, 94, 95] (by decide +kernel) (by decide +kernel)
set_option maxRecDepth 20000 in
theorem gX6_eat_X1_eatSpoon : GoodIn wsX6_eat (wsV RX6 118 RX1 yX1_eatSpoon wsX1_eatSpoon) := goodIn_app (goodIn_of _ (by decide +kernel)) ggX6_eat_X1_eatSpoon
theorem dX6_eat_0 : decode cX6_eat 0 = .ok (.aload_n 0, 1) := by decide +kernel
theorem dX6_eat_1 : decode cX6_eat 1 = .ok (.iload_n 1, 1) := by decide +kernel
theorem dX6_eat_2 : decode cX6_eat 2 = .ok (.invokevirtual 75, 3) := by decide +kernel
theorem dX6_eat_5 : decode cX6_eat 5 = .ok (.ifnonnull 6, 3) := by decide +kernel
theorem dX6_eat_8 : decode cX6_eat 8 = .ok (.bipush (-101), 2) := by decide +kernel
theorem dX6_eat_10 : decode cX6_eat 10 = .ok (.ireturn, 1) := by decide +kernel
theorem dX6_eat_11 : decode cX6_eat 11 = .ok (.aload_n 0, 1) := by decide +kernel
theorem dX6_eat_12 : decode cX6_eat 12 = .ok (.iload_n 1, 1) := by decide +kernel
theorem dX6_eat_13 : decode cX6_eat 13 = .ok (.invokevirtual 97, 3) := by decide +kernel
theorem dX6_eat_16 : decode cX6_eat 16 = .ok (.istore_n 2, 1) := by decide +kernel
theorem dX6_eat_17 : decode cX6_eat 17 = .ok (.aload_n 0, 1) := by decide +kernel
theorem dX6_eat_18 : decode cX6_eat 18 = .ok (.getfield 29, 3) := by decide +kernel
theorem dX6_eat_21 : decode cX6_eat 21 = .ok (.iload_n 1, 1) := by decide +kernel
theorem dX6_eat_22 : decode cX6_eat 22 = .ok (.iload_n 2, 1) := by decide +kernel
theorem dX6_eat_23 : decode cX6_eat 23 = .ok (.invokevirtual 118, 3) := by decide +kernel
theorem dX6_eat_26 : decode cX6_eat 26 = .ok (.ifCond .eq 10, 3) := by decide +kernel
theorem dX6_eat_29 : decode cX6_eat 29 = .ok (.iload_n 2, 1) := by decide +kernel
theorem dX6_eat_30 : decode cX6_eat 30 = .ok (.bipush 100, 2) := by decide +kernel
theorem dX6_eat_32 : decode cX6_eat 32 = .ok (.iadd, 1) := by decide +kernel
theorem dX6_eat_33 : decode cX6_eat 33 = .ok (.goto 5, 3) := by decide +kernel
theorem dX6_eat_36 : decode cX6_eat 36 = .ok (.bipush (-103), 2) := by decide +kernel
theorem dX6_eat_38 : decode cX6_eat 38 = .ok (.ireturn, 1) := by decide +kernel
set_option maxRecDepth 20000 in
theorem ggX6_wasps_X6_find : GoodIn wsX6_wasps wsX6_find := goodIn_r _ [6, 7, 8, 21, 22, 23, 24, 25, 26, 27, 28, 29, 30, 31, 32] (by decide +kernel) (by decide +kernel)
set_option maxRecDepth 20000 in
theorem gX6_wasps_X6_find : GoodIn wsX6_wasps (wsV RX6 75 RX6 yX6_find wsX6_find) := goodIn_app (goodIn_of _ (by decide +kernel)) ggX6_wasps_X6_find
set_option maxRecDepth 20000 in
theorem ggX6_wasps_X1_loseSpoon : GoodIn wsX6_wasps wsX1_loseSpoon := goodIn_r _ [13, 14, 15, 16, 17, 18, 12, 19, 33, 34, 35, 36, 37, 38, 39, 40, 41] (by decide +kernel) (by decide +kernel)
set_option maxRecDepth 20000 in
theorem gX6_wasps_X1_loseSpoon : GoodIn wsX6_wasps (wsV RX6 121 RX1 yX1_loseSpoon wsX1_loseSpoon) := goodIn_app (goodIn_of _ (by decide +kernel)) ggX6_wasps_X1_loseSpoon
set_option maxRecDepth 20000 in
theorem ggX6_wasps_X1_spoonsOf : GoodIn wsX6_wasps wsX1_spoonsOf := goodIn_r _ [19, 14, 33, 34, 35, 36, 37, 38, 39, 40, 41] (by decide +kernel) (by decide +kernel)
set_option maxRecDepth 20000 in
theorem gX6_wasps_X1_spoonsOf : GoodIn wsX6_wasps (wsV RX6 88 RX1 yX1_spoonsOf wsX1_spoonsOf) := goodIn_app (goodIn_of _ (by decide +kernel)) ggX6_wasps_X1_spoonsOf
theorem dX6_wasps_0 : decode cX6_wasps 0 = .ok (.aload_n 0, 1) := by decide +kernel
theorem dX6_wasps_1 : decode cX6_wasps 1 = .ok (.iload_n 1, 1) := by decide +kernel
theorem dX6_wasps_2 : decode cX6_wasps 2 = .ok (.invokevirtual 75, 3) := by decide +kernel
theorem dX6_wasps_5 : decode cX6_wasps 5 = .ok (.ifnonnull 6, 3) := by decide +kernel
theorem dX6_wasps_8 : decode cX6_wasps 8 = .ok (.bipush (-101), 2) := by decide +kernel
theorem dX6_wasps_10 : decode cX6_wasps 10 = .ok (.ireturn, 1) := by decide +kernel
theorem dX6_wasps_11 : decode cX6_wasps 11 = .ok (.aload_n 0, 1) := by decide +kernel
theorem dX6_wasps_12 : decode cX6_wasps 12 = .ok (.getfield 29, 3) := by decide +kernel
theorem dX6_wasps_15 : decode cX6_wasps 15 = .ok (.iload_n 1, 1) := by decide +kernel
theorem dX6_wasps_16 : decode cX6_wasps 16 = .ok (.invokevirtual 121, 3) := by decide +kernel
theorem dX6_wasps_19 : decode cX6_wasps 19 = .ok (.ifCond .eq 14, 3) := by decide +kernel
theorem dX6_wasps_22 : decode cX6_wasps 22 = .ok (.aload_n 0, 1) := by decide +kernel
theorem dX6_wasps_23 : decode cX6_wasps 23 = .ok (.getfield 29, 3) := by decide +kernel
theorem dX6_wasps_26 : decode cX6_wasps 26 = .ok (.iload_n 1, 1) := by decide +kernel
theorem dX6_wasps_27 : decode cX6_wasps 27 = .ok (.invokevirtual 88, 3) := by decide +kernel
theorem dX6_wasps_30 : decode cX6_wasps 30 = .ok (.goto 5, 3) := by decide +kernel
theorem dX6_wasps_33 : decode cX6_wasps 33 = .ok (.bipush (-103), 2) := by decide +kernel
theorem dX6_wasps_35 : decode cX6_wasps 35 = .ok (.ireturn, 1) := by decide +kernel
set_option maxRecDepth 20000 in
theorem ggX6_year_X6_hasNoLarder : GoodIn wsX6_year wsX6_hasNoLarder := goodIn_r _ [7, 8, 16, 17, 18, 19, 20, 21, 22, 23, 24, 25, 26, 27] (by decide +kernel) (by decide +kernel)
set_option maxRecDepth 20000 in
theorem gX6_year_X6_hasNoLarder : GoodIn wsX6_year (wsV RX6 124 RX6 yX6_hasNoLarder wsX6_hasNoLarder) := goodIn_app (goodIn_of _ (by decide +kernel)) ggX6_year_X6_hasNoLarder
set_option maxRecDepth 20000 in
theorem ggX6_year_X1_passYear : GoodIn wsX6_year wsX1_passYear := goodIn_r _ [13, 14, 15, 28, 29, 30, 31, 32, 33, 34, 35, 36] (by decide +kernel) (by decide +kernel)
set_option maxRecDepth 20000 in
theorem gX6_year_X1_passYear : GoodIn wsX6_year (wsV RX6 127 RX1 yX1_passYear wsX1_passYear) := goodIn_app (goodIn_of _ (by decide +kernel)) ggX6_year_X1_passYear
theorem dX6_year_0 : decode cX6_year 0 = .ok (.aload_n 0, 1) := by decide +kernel
theorem dX6_year_1 : decode cX6_year 1 = .ok (.invokevirtual 124, 3) := by decide +kernel
theorem dX6_year_4 : decode cX6_year 4 = .ok (.ifCond .eq 6, 3) := by decide +kernel
theorem dX6_year_7 : decode cX6_year 7 = .ok (.bipush (-103), 2) := by decide +kernel
theorem dX6_year_9 : decode cX6_year 9 = .ok (.ireturn, 1) := by decide +kernel
theorem dX6_year_10 : decode cX6_year 10 = .ok (.aload_n 0, 1) := by decide +kernel
theorem dX6_year_11 : decode cX6_year 11 = .ok (.getfield 29, 3) := by decide +kernel
theorem dX6_year_14 : decode cX6_year 14 = .ok (.getfield 91, 3) := by decide +kernel
theorem dX6_year_17 : decode cX6_year 17 = .ok (.bipush 99, 2) := by decide +kernel
theorem dX6_year_19 : decode cX6_year 19 = .ok (.if_icmp .lt 6, 3) := by decide +kernel
theorem dX6_year_22 : decode cX6_year 22 = .ok (.bipush (-104), 2) := by decide +kernel
theorem dX6_year_24 : decode cX6_year 24 = .ok (.ireturn, 1) := by decide +kernel
theorem dX6_year_25 : decode cX6_year 25 = .ok (.aload_n 0, 1) := by decide +kernel
theorem dX6_year_26 : decode cX6_year 26 = .ok (.getfield 29, 3) := by decide +kernel
theorem dX6_year_29 : decode cX6_year 29 = .ok (.invokevirtual 127, 3) := by decide +kernel
theorem dX6_year_32 : decode cX6_year 32 = .ok (.aload_n 0, 1) := by decide +kernel
theorem dX6_year_33 : decode cX6_year 33 = .ok (.getfield 29, 3) := by decide +kernel
theorem dX6_year_36 : decode cX6_year 36 = .ok (.getfield 91, 3) := by decide +kernel
theorem dX6_year_39 : decode cX6_year 39 = .ok (.ireturn, 1) := by decide +kernel
set_option maxRecDepth 20000 in
theorem ggX6_best_X6_hasNoLarder : GoodIn wsX6_best wsX6_hasNoLarder := goodIn_r _ [7, 8, 115, 116, 117, 118, 119, 120, 121, 122, 123, 124, 125, 126] (by decide +kernel) (by decide +kernel)
set_option maxRecDepth 20000 in
theorem gX6_best_X6_hasNoLarder : GoodIn wsX6_best (wsV RX6 124 RX6 yX6_hasNoLarder wsX6_hasNoLarder) := goodIn_app (goodIn_of _ (by decide +kernel)) ggX6_best_X6_hasNoLarder
set_option maxRecDepth 20000 in
theorem ggX6_best_X6_fillMost : GoodIn wsX6_best wsX6_fillMost := goodIn_r _ [12, 8, 2, 13, 14, 15, 16, 17, 18, 19, 20, 6, 21, 22, 23, 24, 25, 26, 27, 28, 29, 30, 31, 32, 33, 34, 35, 36, 37, 38, 39, 40, 41, 42, 43, 44, 45, 46, 47, 48, 49, 50, 51, 52, 53, 54, 55, 56, 57, 58, 59, 60, 61, 62, 63, 64, 65, 66, 67, 68, 69, 70, 71, 72, 73, 74, 75, 76, 77, 78, 79, 80, 81, 82, 83, 84, 85, 86, 87, 88, 89, 90, 91, 92, 93, 94, 95, 96, 97, 98, 99, 100, 101, 102, 103, 104, 105, 106, 115, 116, 117, 118, 119, 120, 121, 122, 123, 124, 125, 126, 127, 128, 129, 130, 131, 132, 133, 134, 135, 136, 137, 138, 139, 140, 141, 142, 143, 144, 145, 146, 147, 148, 149, 150] (by decide +kernel) (by decide +kernel)
set_option maxRecDepth 20000 in
theorem gX6_best_X6_fillMost : GoodIn wsX6_best (wsV RX6 130 RX6 yX6_fillMost wsX6_fillMost) := goodIn_app (goodIn_of _ (by decide +kernel)) ggX6_best_X6_fillMost
set_option maxRecDepth 20000 in
theorem ggX6_best_X6_mostWorth : GoodIn wsX6_best wsX6_mostWorth := goodIn_r _ [101, 22, 2, 23, 24, 6, 25, 115, 116, 117, 118, 119, 120, 121, 122, 123, 124, 125, 126] (by decide +kernel) (by decide +kernel)
set_option maxRecDepth 20000 in
theorem gX6_best_X6_mostWorth : GoodIn wsX6_best (wsV RX6 133 RX6 yX6_mostWorth wsX6_mostWorth) := goodIn_app (goodIn_of _ (by decide +kernel)) ggX6_best_X6_mostWorth
set_option maxRecDepth 20000 in
theorem ggX6_best_X6_pickOf : GoodIn wsX6_best wsX6_pickOf := goodIn_r _ [110, 36, 37, 38, 6, 39, 8, 40, 111, 112, 113, 114, 94, 95, 96, 97, 30, 2, 17, 98, 99, 100, 101, 22, 23, 24, 25, 102, 103, 104, 84, 105, 106, 115, 116, 117, 118, 119, 120, 121, 122, 123, 124, 125, 126, 127, 128, 129, 130, 131, 132, 133, 134, 135] (by decide +kernel) (by decide +kernel)
set_option maxRecDepth 20000 in
theorem gX6_best_X6_pickOf : GoodIn wsX6_best (wsV RX6 137 RX6 yX6_pickOf wsX6_pickOf) := goodIn_app (goodIn_of _ (by decide +kernel)) ggX6_best_X6_pickOf
theorem dX6_best_0 : decode cX6_best 0 = .ok (.iload_n 2, 1) := by decide +kernel
theorem dX6_best_1 : decode cX6_best 1 = .ok (.bipush 10, 2) := by decide +kernel
theorem dX6_best_3 : decode cX6_best 3 = .ok (.if_icmp .lt 13, 3) := by decide +kernel
theorem dX6_best_6 : decode cX6_best 6 = .ok (.iload_n 2, 1) := by decide +kernel
theorem dX6_best_7 : decode cX6_best 7 = .ok (.bipush 16, 2) := by decide +kernel
theorem dX6_best_9 : decode cX6_best 9 = .ok (.if_icmp .ge 7, 3) := by decide +kernel
theorem dX6_best_12 : decode cX6_best 12 = .ok (.iconst 1, 1) := by decide +kernel
theorem dX6_best_13 : decode cX6_best 13 = .ok (.goto 4, 3) := by decide +kernel
theorem dX6_best_16 : decode cX6_best 16 = .ok (.iconst 0, 1) := by decide +kernel
theorem dX6_best_17 : decode cX6_best 17 = .ok (.istore_n 3, 1) := by decide +kernel
theorem dX6_best_18 : decode cX6_best 18 = .ok (.iload_n 1, 1) := by decide +kernel
theorem dX6_best_19 : decode cX6_best 19 = .ok (.ifCond .lt 17, 3) := by decide +kernel
theorem dX6_best_22 : decode cX6_best 22 = .ok (.iload_n 1, 1) := by decide +kernel
theorem dX6_best_23 : decode cX6_best 23 = .ok (.bipush 12, 2) := by decide +kernel
theorem dX6_best_25 : decode cX6_best 25 = .ok (.if_icmp .gt 11, 3) := by decide +kernel
theorem dX6_best_28 : decode cX6_best 28 = .ok (.iload_n 2, 1) := by decide +kernel
theorem dX6_best_29 : decode cX6_best 29 = .ok (.ifCond .eq 10, 3) := by decide +kernel
theorem dX6_best_32 : decode cX6_best 32 = .ok (.iload_n 3, 1) := by decide +kernel
theorem dX6_best_33 : decode cX6_best 33 = .ok (.ifCond .ne 6, 3) := by decide +kernel
theorem dX6_best_36 : decode cX6_best 36 = .ok (.bipush (-102), 2) := by decide +kernel
theorem dX6_best_38 : decode cX6_best 38 = .ok (.ireturn, 1) := by decide +kernel
theorem dX6_best_39 : decode cX6_best 39 = .ok (.aload_n 0, 1) := by decide +kernel
theorem dX6_best_40 : decode cX6_best 40 = .ok (.invokevirtual 124, 3) := by decide +kernel
theorem dX6_best_43 : decode cX6_best 43 = .ok (.ifCond .ne 12, 3) := by decide +kernel
theorem dX6_best_46 : decode cX6_best 46 = .ok (.aload_n 0, 1) := by decide +kernel
theorem dX6_best_47 : decode cX6_best 47 = .ok (.getfield 46, 3) := by decide +kernel
theorem dX6_best_50 : decode cX6_best 50 = .ok (.bipush 40, 2) := by decide +kernel
theorem dX6_best_52 : decode cX6_best 52 = .ok (.if_icmp .lt 6, 3) := by decide +kernel
theorem dX6_best_55 : decode cX6_best 55 = .ok (.bipush (-103), 2) := by decide +kernel
theorem dX6_best_57 : decode cX6_best 57 = .ok (.ireturn, 1) := by decide +kernel
theorem dX6_best_58 : decode cX6_best 58 = .ok (.aload_n 0, 1) := by decide +kernel
theorem dX6_best_59 : decode cX6_best 59 = .ok (.dup, 1) := by decide +kernel
theorem dX6_best_60 : decode cX6_best 60 = .ok (.getfield 46, 3) := by decide +kernel
theorem dX6_best_63 : decode cX6_best 63 = .ok (.iconst 1, 1) := by decide +kernel
theorem dX6_best_64 : decode cX6_best 64 = .ok (.iadd, 1) := by decide +kernel
theorem dX6_best_65 : decode cX6_best 65 = .ok (.putfield 46, 3) := by decide +kernel
theorem dX6_best_68 : decode cX6_best 68 = .ok (.aload_n 0, 1) := by decide +kernel
theorem dX6_best_69 : decode cX6_best 69 = .ok (.invokevirtual 130, 3) := by decide +kernel
theorem dX6_best_72 : decode cX6_best 72 = .ok (.aload_n 0, 1) := by decide +kernel
theorem dX6_best_73 : decode cX6_best 73 = .ok (.iconst 0, 1) := by decide +kernel
theorem dX6_best_74 : decode cX6_best 74 = .ok (.iload_n 1, 1) := by decide +kernel
theorem dX6_best_75 : decode cX6_best 75 = .ok (.invokevirtual 133, 3) := by decide +kernel
theorem dX6_best_78 : decode cX6_best 78 = .ok (.istore 4, 2) := by decide +kernel
theorem dX6_best_80 : decode cX6_best 80 = .ok (.iload 4, 2) := by decide +kernel
theorem dX6_best_82 : decode cX6_best 82 = .ok (.ldc 136, 2) := by decide +kernel
theorem dX6_best_84 : decode cX6_best 84 = .ok (.if_icmp .ne 5, 3) := by decide +kernel
theorem dX6_best_87 : decode cX6_best 87 = .ok (.iconst (-1), 1) := by decide +kernel
theorem dX6_best_88 : decode cX6_best 88 = .ok (.ireturn, 1) := by decide +kernel
theorem dX6_best_89 : decode cX6_best 89 = .ok (.iload_n 2, 1) := by decide +kernel
theorem dX6_best_90 : decode cX6_best 90 = .ok (.ifCond .ne 12, 3) := by decide +kernel
theorem dX6_best_93 : decode cX6_best 93 = .ok (.iload 4, 2) := by decide +kernel
theorem dX6_best_95 : decode cX6_best 95 = .ok (.sipush 1000, 3) := by decide +kernel
theorem dX6_best_98 : decode cX6_best 98 = .ok (.iadd, 1) := by decide +kernel
theorem dX6_best_99 : decode cX6_best 99 = .ok (.goto 12, 3) := by decide +kernel
theorem dX6_best_102 : decode cX6_best 102 = .ok (.aload_n 0, 1) := by decide +kernel
theorem dX6_best_103 : decode cX6_best 103 = .ok (.iload_n 2, 1) := by decide +kernel
theorem dX6_best_104 : decode cX6_best 104 = .ok (.bipush 10, 2) := by decide +kernel
theorem dX6_best_106 : decode cX6_best 106 = .ok (.isub, 1) := by decide +kernel
theorem dX6_best_107 : decode cX6_best 107 = .ok (.iload_n 1, 1) := by decide +kernel
theorem dX6_best_108 : decode cX6_best 108 = .ok (.invokevirtual 137, 3) := by decide +kernel
theorem dX6_best_111 : decode cX6_best 111 = .ok (.ireturn, 1) := by decide +kernel
set_option maxRecDepth 20000 in
theorem ggX6_taste_X6_isNoYear : GoodIn wsX6_taste wsX6_isNoYear := goodIn_r _ [6] (by decide +kernel) (by decide +kernel)
set_option maxRecDepth 20000 in
theorem gX6_taste_X6_isNoYear : GoodIn wsX6_taste (va_wsS RX6 110 yX6_isNoYear wsX6_isNoYear) := goodIn_app (goodIn_of _ (by decide +kernel)) ggX6_taste_X6_isNoYear
set_option maxRecDepth 20000 in
theorem ggX6_taste_X1_addTaste : GoodIn wsX6_taste wsX1_addTaste := goodIn_r _ [11, 12, 13, 14, 27, 28, 29, 30, 31, 32, 33, 34, 35] (by decide +kernel) (by decide +kernel)
set_option maxRecDepth 20000 in
theorem gX6_taste_X1_addTaste : GoodIn wsX6_taste (wsV RX6 140 RX1 yX1_addTaste wsX1_addTaste) := goodIn_app (goodIn_of _ (by decide +kernel)) ggX6_taste_X1_addTaste
theorem dX6_taste_0 : decode cX6_taste 0 = .ok (.iload_n 1, 1) := by decide +kernel
theorem dX6_taste_1 : decode cX6_taste 1 = .ok (.invokestatic 110, 3) := by decide +kernel
theorem dX6_taste_4 : decode cX6_taste 4 = .ok (.ifCond .ne 15, 3) := by decide +kernel
theorem dX6_taste_7 : decode cX6_taste 7 = .ok (.iload_n 2, 1) := by decide +kernel
theorem dX6_taste_8 : decode cX6_taste 8 = .ok (.bipush (-20), 2) := by decide +kernel
theorem dX6_taste_10 : decode cX6_taste 10 = .ok (.if_icmp .lt 9, 3) := by decide +kernel
theorem dX6_taste_13 : decode cX6_taste 13 = .ok (.iload_n 2, 1) := by decide +kernel
theorem dX6_taste_14 : decode cX6_taste 14 = .ok (.bipush 30, 2) := by decide +kernel
theorem dX6_taste_16 : decode cX6_taste 16 = .ok (.if_icmp .le 6, 3) := by decide +kernel
theorem dX6_taste_19 : decode cX6_taste 19 = .ok (.bipush (-102), 2) := by decide +kernel
theorem dX6_taste_21 : decode cX6_taste 21 = .ok (.ireturn, 1) := by decide +kernel
theorem dX6_taste_22 : decode cX6_taste 22 = .ok (.aload_n 0, 1) := by decide +kernel
theorem dX6_taste_23 : decode cX6_taste 23 = .ok (.getfield 29, 3) := by decide +kernel
theorem dX6_taste_26 : decode cX6_taste 26 = .ok (.iload_n 1, 1) := by decide +kernel
theorem dX6_taste_27 : decode cX6_taste 27 = .ok (.iload_n 2, 1) := by decide +kernel
theorem dX6_taste_28 : decode cX6_taste 28 = .ok (.invokevirtual 140, 3) := by decide +kernel
theorem dX6_taste_31 : decode cX6_taste 31 = .ok (.ifCond .eq 13, 3) := by decide +kernel
theorem dX6_taste_34 : decode cX6_taste 34 = .ok (.aload_n 0, 1) := by decide +kernel
theorem dX6_taste_35 : decode cX6_taste 35 = .ok (.getfield 29, 3) := by decide +kernel
theorem dX6_taste_38 : decode cX6_taste 38 = .ok (.getfield 143, 3) := by decide +kernel
theorem dX6_taste_41 : decode cX6_taste 41 = .ok (.goto 5, 3) := by decide +kernel
theorem dX6_taste_44 : decode cX6_taste 44 = .ok (.bipush (-104), 2) := by decide +kernel
theorem dX6_taste_46 : decode cX6_taste 46 = .ok (.ireturn, 1) := by decide +kernel
theorem dX6_forget_0 : decode cX6_forget 0 = .ok (.aload_n 0, 1) := by decide +kernel
theorem dX6_forget_1 : decode cX6_forget 1 = .ok (.getfield 29, 3) := by decide +kernel
theorem dX6_forget_4 : decode cX6_forget 4 = .ok (.getfield 143, 3) := by decide +kernel
theorem dX6_forget_7 : decode cX6_forget 7 = .ok (.istore_n 1, 1) := by decide +kernel
theorem dX6_forget_8 : decode cX6_forget 8 = .ok (.aload_n 0, 1) := by decide +kernel
theorem dX6_forget_9 : decode cX6_forget 9 = .ok (.getfield 29, 3) := by decide +kernel
theorem dX6_forget_12 : decode cX6_forget 12 = .ok (.iconst 0, 1) := by decide +kernel
theorem dX6_forget_13 : decode cX6_forget 13 = .ok (.putfield 143, 3) := by decide +kernel
theorem dX6_forget_16 : decode cX6_forget 16 = .ok (.iload_n 1, 1) := by decide +kernel
theorem dX6_forget_17 : decode cX6_forget 17 = .ok (.ireturn, 1) := by decide +kernel
set_option maxRecDepth 20000 in
theorem ggX6_which_X6_hasNoLarder : GoodIn wsX6_which wsX6_hasNoLarder := goodIn_r _ [5, 6, 68, 69, 70, 71, 72, 73, 74, 75, 76, 77, 78, 79] (by decide +kernel) (by decide +kernel)
set_option maxRecDepth 20000 in
theorem gX6_which_X6_hasNoLarder : GoodIn wsX6_which (wsV RX6 124 RX6 yX6_hasNoLarder wsX6_hasNoLarder) := goodIn_app (goodIn_of _ (by decide +kernel)) ggX6_which_X6_hasNoLarder
set_option maxRecDepth 20000 in
theorem ggX6_which_X6_candidates : GoodIn wsX6_which wsX6_candidates := goodIn_r _ [10, 6, 11, 12, 13, 4, 14, 15, 16, 17, 18, 19, 20, 21, 22, 23, 24, 25, 26, 27, 28, 29, 30, 31, 32, 33, 34, 35, 36, 37, 38, 39, 40, 41, 42, 43, 44, 45, 46, 47, 48, 49, 50, 51, 52, 53, 54, 55, 56, 57, 58, 59, 60, 61, 62, 63, 64, 65, 66, 67, 68, 69, 70, 71, 72, 73, 74, 75, 76, 77, 78, 79, 80, 81, 82, 83, 84, 85, 86, 87, 88, 89, 90, 91, 92, 93, 94, 95, 96, 97, 98, 99, 100, 101, 102, 103] (by decide +kernel) (by decide +kernel)
set_option maxRecDepth 20000 in
theorem gX6_which_X6_candidates : GoodIn wsX6_which (wsV RX6 146 RX6 yX6_candidates wsX6_candidates) := goodIn_app (goodIn_of _ (by decide +kernel)) ggX6_which_X6_candidates
theorem dX6_which_0 : decode cX6_which 0 = .ok (.aload_n 0, 1) := by decide +kernel
theorem dX6_which_1 : decode cX6_which 1 = .ok (.invokevirtual 124, 3) := by decide +kernel
theorem dX6_which_4 : decode cX6_which 4 = .ok (.ifCond .eq 8, 3) := by decide +kernel
theorem dX6_which_7 : decode cX6_which 7 = .ok (.bipush (-103), 2) := by decide +kernel
theorem dX6_which_9 : decode cX6_which 9 = .ok (.goto 7, 3) := by decide +kernel
theorem dX6_which_12 : decode cX6_which 12 = .ok (.aload_n 0, 1) := by decide +kernel
theorem dX6_which_13 : decode cX6_which 13 = .ok (.invokevirtual 146, 3) := by decide +kernel
theorem dX6_which_16 : decode cX6_which 16 = .ok (.ireturn, 1) := by decide +kernel
set_option maxRecDepth 20000 in
theorem ggX6_tasteNext_X6_hasNoLarder : GoodIn wsX6_tasteNext wsX6_hasNoLarder := goodIn_r _ [7, 8, 84, 85, 86, 87, 88, 89, 90, 91, 92, 93, 94, 95] (by decide +kernel) (by decide +kernel)
set_option maxRecDepth 20000 in
theorem gX6_tasteNext_X6_hasNoLarder : GoodIn wsX6_tasteNext (wsV RX6 124 RX6 yX6_hasNoLarder wsX6_hasNoLarder) := goodIn_app (goodIn_of _ (by decide +kernel)) ggX6_tasteNext_X6_hasNoLarder
set_option maxRecDepth 20000 in
theorem ggX6_tasteNext_X6_candidates : GoodIn wsX6_tasteNext wsX6_candidates := goodIn_r _ [12, 8, 13, 14, 15, 6, 16, 1, 17, 18, 19, 20, 21, 22, 23, 24, 25, 26, 27, 28, 29, 30, 31, 32, 33, 34, 35, 36, 37, 38, 39, 40, 41, 42, 43, 44, 45, 46, 47, 48, 49, 50, 51, 52, 53, 54, 55, 56, 57, 58, 59, 60, 61, 62, 63, 64, 65, 66, 67, 68, 84, 85, 86, 87, 88, 89, 90, 91, 92, 93, 94, 95, 96, 97, 98, 99, 100, 101, 102, 103, 104, 105, 106, 107, 108, 109, 110, 111, 112, 113, 114, 115, 116, 117, 118, 119] (by decide +kernel) (by decide +kernel)
set_option maxRecDepth 20000 in
theorem gX6_tasteNext_X6_candidates : GoodIn wsX6_tasteNext (wsV RX6 146 RX6 yX6_candidates wsX6_candidates) := goodIn_app (goodIn_of _ (by decide +kernel)) ggX6_tasteNext_X6_candidates
set_option maxRecDepth 20000 in
theorem ggX6_tasteNext_X6_leftAtWorst : GoodIn wsX6_tasteNext wsX6_leftAtWorst := goodIn_r _ [72, 8, 73, 74, 75, 76, 77, 78, 6, 79, 80, 81, 82, 83, 20, 21, 22, 23, 24, 25, 26, 27, 28, 29, 30, 31, 32, 33, 34, 35, 36, 37, 38, 39, 40, 41, 42, 43, 44, 45, 46, 47, 48, 49, 50, 51, 52, 53, 54, 55, 56, 57, 58, 59, 60, 61, 62, 63, 64, 65, 66, 67, 68, 84, 85, 86, 87, 88, 89, 90, 91, 92, 93, 94, 95, 105, 106, 107, 108, 109, 110, 111, 112, 113, 114, 115, 116, 117, 118, 119] (by decide +kernel) (by decide +kernel)
set_option maxRecDepth 20000 in
theorem gX6_tasteNext_X6_leftAtWorst : GoodIn wsX6_tasteNext (wsV RX6 149 RX6 yX6_leftAtWorst wsX6_leftAtWorst) := goodIn_app (goodIn_of _ (by decide +kernel)) ggX6_tasteNext_X6_leftAtWorst
theorem dX6_tasteNext_0 : decode cX6_tasteNext 0 = .ok (.aload_n 0, 1) := by decide +kernel
theorem dX6_tasteNext_1 : decode cX6_tasteNext 1 = .ok (.invokevirtual 124, 3) := by decide +kernel
theorem dX6_tasteNext_4 : decode cX6_tasteNext 4 = .ok (.ifCond .eq 6, 3) := by decide +kernel
theorem dX6_tasteNext_7 : decode cX6_tasteNext 7 = .ok (.bipush (-103), 2) := by decide +kernel
theorem dX6_tasteNext_9 : decode cX6_tasteNext 9 = .ok (.ireturn, 1) := by decide +kernel
theorem dX6_tasteNext_10 : decode cX6_tasteNext 10 = .ok (.aload_n 0, 1) := by decide +kernel
theorem dX6_tasteNext_11 : decode cX6_tasteNext 11 = .ok (.invokevirtual 146, 3) := by decide +kernel
theorem dX6_tasteNext_14 : decode cX6_tasteNext 14 = .ok (.istore_n 1, 1) := by decide +kernel
theorem dX6_tasteNext_15 : decode cX6_tasteNext 15 = .ok (.iconst (-1), 1) := by decide +kernel
theorem dX6_tasteNext_16 : decode cX6_tasteNext 16 = .ok (.istore_n 2, 1) := by decide +kernel
theorem dX6_tasteNext_17 : decode cX6_tasteNext 17 = .ok (.bipush 7, 2) := by decide +kernel
theorem dX6_tasteNext_19 : decode cX6_tasteNext 19 = .ok (.istore_n 3, 1) := by decide +kernel
theorem dX6_tasteNext_20 : decode cX6_tasteNext 20 = .ok (.iconst 0, 1) := by decide +kernel
theorem dX6_tasteNext_21 : decode cX6_tasteNext 21 = .ok (.istore 4, 2) := by decide +kernel
theorem dX6_tasteNext_23 : decode cX6_tasteNext 23 = .ok (.iload 4, 2) := by decide +kernel
theorem dX6_tasteNext_25 : decode cX6_tasteNext 25 = .ok (.bipush 10, 2) := by decide +kernel
theorem dX6_tasteNext_27 : decode cX6_tasteNext 27 = .ok (.if_icmp .ge 42, 3) := by decide +kernel
theorem dX6_tasteNext_30 : decode cX6_tasteNext 30 = .ok (.iload_n 1, 1) := by decide +kernel
theorem dX6_tasteNext_31 : decode cX6_tasteNext 31 = .ok (.ifCond .eq 38, 3) := by decide +kernel
theorem dX6_tasteNext_34 : decode cX6_tasteNext 34 = .ok (.aload_n 0, 1) := by decide +kernel
theorem dX6_tasteNext_35 : decode cX6_tasteNext 35 = .ok (.iload_n 1, 1) := by decide +kernel
theorem dX6_tasteNext_36 : decode cX6_tasteNext 36 = .ok (.aload_n 0, 1) := by decide +kernel
theorem dX6_tasteNext_37 : decode cX6_tasteNext 37 = .ok (.getfield 29, 3) := by decide +kernel
theorem dX6_tasteNext_40 : decode cX6_tasteNext 40 = .ok (.getfield 91, 3) := by decide +kernel
theorem dX6_tasteNext_43 : decode cX6_tasteNext 43 = .ok (.iload 4, 2) := by decide +kernel
theorem dX6_tasteNext_45 : decode cX6_tasteNext 45 = .ok (.iadd, 1) := by decide +kernel
theorem dX6_tasteNext_46 : decode cX6_tasteNext 46 = .ok (.invokevirtual 149, 3) := by decide +kernel
theorem dX6_tasteNext_49 : decode cX6_tasteNext 49 = .ok (.istore 5, 2) := by decide +kernel
theorem dX6_tasteNext_51 : decode cX6_tasteNext 51 = .ok (.iload 5, 2) := by decide +kernel
theorem dX6_tasteNext_53 : decode cX6_tasteNext 53 = .ok (.iload_n 3, 1) := by decide +kernel
theorem dX6_tasteNext_54 : decode cX6_tasteNext 54 = .ok (.if_icmp .ge 9, 3) := by decide +kernel
theorem dX6_tasteNext_57 : decode cX6_tasteNext 57 = .ok (.iload 5, 2) := by decide +kernel
theorem dX6_tasteNext_59 : decode cX6_tasteNext 59 = .ok (.istore_n 3, 1) := by decide +kernel
theorem dX6_tasteNext_60 : decode cX6_tasteNext 60 = .ok (.iload 4, 2) := by decide +kernel
theorem dX6_tasteNext_62 : decode cX6_tasteNext 62 = .ok (.istore_n 2, 1) := by decide +kernel
theorem dX6_tasteNext_63 : decode cX6_tasteNext 63 = .ok (.iinc 4 1, 3) := by decide +kernel
theorem dX6_tasteNext_66 : decode cX6_tasteNext 66 = .ok (.goto (-43), 3) := by decide +kernel
theorem dX6_tasteNext_69 : decode cX6_tasteNext 69 = .ok (.iload_n 2, 1) := by decide +kernel
theorem dX6_tasteNext_70 : decode cX6_tasteNext 70 = .ok (.ireturn, 1) := by decide +kernel
set_option maxRecDepth 20000 in
theorem ggX6_times_X6_hasNoLarder : GoodIn wsX6_times wsX6_hasNoLarder := goodIn_r _ [7, 8, 113, 114, 115, 116, 117, 118, 119, 120, 121, 122, 123, 124] (by decide +kernel) (by decide +kernel)
set_option maxRecDepth 20000 in
theorem gX6_times_X6_hasNoLarder : GoodIn wsX6_times (wsV RX6 124 RX6 yX6_hasNoLarder wsX6_hasNoLarder) := goodIn_app (goodIn_of _ (by decide +kernel)) ggX6_times_X6_hasNoLarder
set_option maxRecDepth 20000 in
theorem ggX6_times_X6_liveOn : GoodIn wsX6_times wsX6_liveOn := goodIn_r _ [12, 1, 13, 14, 15, 16, 17, 18, 19, 20, 21, 22, 23, 24, 25, 26, 27, 28, 29, 30, 6, 31, 32, 33, 34, 35, 36, 37, 38, 8, 39, 40, 41, 42, 43, 44, 45, 46, 47, 48, 49, 50, 51, 52, 53, 54, 55, 56, 57, 58, 59, 60, 61, 62, 63, 64, 65, 66, 67, 68, 69, 70, 71, 72, 73, 74, 75, 76, 77, 78, 79, 80, 81, 82, 83, 84, 85, 86, 87, 88, 89, 90, 91, 92, 93, 94, 95, 96, 97, 98, 99, 100, 101, 102, 103, 104, 105, 106, 107, 108, 113, 114, 115, 116, 117, 118, 119, 120, 121, 122, 123, 124, 125, 126, 127, 128, 129, 130, 131, 132, 133, 134, 135, 136, 137, 138, 139, 140, 141, 142, 143, 144, 145, 146, 147, 148] (by decide +kernel) (by decide +kernel)
set_option maxRecDepth 20000 in
theorem gX6_times_X6_liveOn : GoodIn wsX6_times (wsV RX6 152 RX6 yX6_liveOn wsX6_liveOn) := goodIn_app (goodIn_of _ (by decide +kernel)) ggX6_times_X6_liveOn
set_option maxRecDepth 20000 in
theorem ggX6_times_X1_spoonsOfAll : GoodIn wsX6_times wsX1_spoonsOfAll := goodIn_r _ [112, 25, 125, 126, 127, 128, 129, 130, 131, 132, 133] (by decide +kernel) (by decide +kernel)
set_option maxRecDepth 20000 in
theorem gX6_times_X1_spoonsOfAll : GoodIn wsX6_times (wsV RX6 155 RX1 yX1_spoonsOfAll wsX1_spoonsOfAll) := goodIn_app (goodIn_of _ (by decide +kernel)) ggX6_times_X1_spoonsOfAll
theorem dX6_times_0 : decode cX6_times 0 = .ok (.iload_n 1, 1) := by decide +kernel
theorem dX6_times_1 : decode cX6_times 1 = .ok (.iconst 1, 1) := by decide +kernel
theorem dX6_times_2 : decode cX6_times 2 = .ok (.if_icmp .lt 22, 3) := by decide +kernel
theorem dX6_times_5 : decode cX6_times 5 = .ok (.iload_n 1, 1) := by decide +kernel
theorem dX6_times_6 : decode cX6_times 6 = .ok (.bipush 60, 2) := by decide +kernel
theorem dX6_times_8 : decode cX6_times 8 = .ok (.if_icmp .gt 16, 3) := by decide +kernel
theorem dX6_times_11 : decode cX6_times 11 = .ok (.iload_n 2, 1) := by decide +kernel
theorem dX6_times_12 : decode cX6_times 12 = .ok (.ifCond .lt 12, 3) := by decide +kernel
theorem dX6_times_15 : decode cX6_times 15 = .ok (.iload_n 3, 1) := by decide +kernel
theorem dX6_times_16 : decode cX6_times 16 = .ok (.ifCond .lt 8, 3) := by decide +kernel
theorem dX6_times_19 : decode cX6_times 19 = .ok (.iload_n 3, 1) := by decide +kernel
theorem dX6_times_20 : decode cX6_times 20 = .ok (.iconst 2, 1) := by decide +kernel
theorem dX6_times_21 : decode cX6_times 21 = .ok (.if_icmp .le 6, 3) := by decide +kernel
theorem dX6_times_24 : decode cX6_times 24 = .ok (.bipush (-102), 2) := by decide +kernel
theorem dX6_times_26 : decode cX6_times 26 = .ok (.ireturn, 1) := by decide +kernel
theorem dX6_times_27 : decode cX6_times 27 = .ok (.aload_n 0, 1) := by decide +kernel
theorem dX6_times_28 : decode cX6_times 28 = .ok (.invokevirtual 124, 3) := by decide +kernel
theorem dX6_times_31 : decode cX6_times 31 = .ok (.ifCond .eq 6, 3) := by decide +kernel
theorem dX6_times_34 : decode cX6_times 34 = .ok (.bipush (-103), 2) := by decide +kernel
theorem dX6_times_36 : decode cX6_times 36 = .ok (.ireturn, 1) := by decide +kernel
theorem dX6_times_37 : decode cX6_times 37 = .ok (.aload_n 0, 1) := by decide +kernel
theorem dX6_times_38 : decode cX6_times 38 = .ok (.iload_n 1, 1) := by decide +kernel
theorem dX6_times_39 : decode cX6_times 39 = .ok (.iload_n 2, 1) := by decide +kernel
theorem dX6_times_40 : decode cX6_times 40 = .ok (.invokevirtual 152, 3) := by decide +kernel
theorem dX6_times_43 : decode cX6_times 43 = .ok (.istore 4, 2) := by decide +kernel
theorem dX6_times_45 : decode cX6_times 45 = .ok (.iload_n 3, 1) := by decide +kernel
theorem dX6_times_46 : decode cX6_times 46 = .ok (.lookupswitch 46 #[(0, 26), (1, 34)], 26) := by decide +kernel
theorem dX6_times_72 : decode cX6_times 72 = .ok (.aload_n 0, 1) := by decide +kernel
theorem dX6_times_73 : decode cX6_times 73 = .ok (.getfield 36, 3) := by decide +kernel
theorem dX6_times_76 : decode cX6_times 76 = .ok (.invokevirtual 155, 3) := by decide +kernel
theorem dX6_times_79 : decode cX6_times 79 = .ok (.ireturn, 1) := by decide +kernel
theorem dX6_times_80 : decode cX6_times 80 = .ok (.aload_n 0, 1) := by decide +kernel
theorem dX6_times_81 : decode cX6_times 81 = .ok (.getfield 36, 3) := by decide +kernel
theorem dX6_times_84 : decode cX6_times 84 = .ok (.getfield 158, 3) := by decide +kernel
theorem dX6_times_87 : decode cX6_times 87 = .ok (.sipush 2000, 3) := by decide +kernel
theorem dX6_times_90 : decode cX6_times 90 = .ok (.iadd, 1) := by decide +kernel
theorem dX6_times_91 : decode cX6_times 91 = .ok (.ireturn, 1) := by decide +kernel
theorem dX6_times_92 : decode cX6_times 92 = .ok (.iload 4, 2) := by decide +kernel
theorem dX6_times_94 : decode cX6_times 94 = .ok (.ireturn, 1) := by decide +kernel
set_option maxRecDepth 20000 in
theorem ggX6_image_X6_hasNoLarder : GoodIn wsX6_image wsX6_hasNoLarder := goodIn_r _ [9, 10, 25, 26, 27, 28, 29, 30, 31, 32, 33, 34, 35, 36] (by decide +kernel) (by decide +kernel)
set_option maxRecDepth 20000 in
theorem gX6_image_X6_hasNoLarder : GoodIn wsX6_image (wsV RX6 124 RX6 yX6_hasNoLarder wsX6_hasNoLarder) := goodIn_app (goodIn_of _ (by decide +kernel)) ggX6_image_X6_hasNoLarder
set_option maxRecDepth 20000 in
theorem ggX6_image_X1_copyFrom : GoodIn wsX6_image wsX1_copyFrom := goodIn_r _ [15, 16, 17, 18, 19, 20, 21, 22, 23, 24, 37, 38, 39, 40, 41, 42, 43, 44, 45] (by decide +kernel) (by decide +kernel)
set_option maxRecDepth 20000 in
theorem gX6_image_X1_copyFrom : GoodIn wsX6_image (wsV RX6 161 RX1 yX1_copyFrom wsX1_copyFrom) := goodIn_app (goodIn_of _ (by decide +kernel)) ggX6_image_X1_copyFrom
theorem dX6_image_0 : decode cX6_image 0 = .ok (.aload_n 0, 1) := by decide +kernel
theorem dX6_image_1 : decode cX6_image 1 = .ok (.invokevirtual 124, 3) := by decide +kernel
theorem dX6_image_4 : decode cX6_image 4 = .ok (.ifCond .eq 6, 3) := by decide +kernel
theorem dX6_image_7 : decode cX6_image 7 = .ok (.bipush (-103), 2) := by decide +kernel
theorem dX6_image_9 : decode cX6_image 9 = .ok (.ireturn, 1) := by decide +kernel
theorem dX6_image_10 : decode cX6_image 10 = .ok (.aload_n 0, 1) := by decide +kernel
theorem dX6_image_11 : decode cX6_image 11 = .ok (.getfield 33, 3) := by decide +kernel
theorem dX6_image_14 : decode cX6_image 14 = .ok (.aload_n 0, 1) := by decide +kernel
theorem dX6_image_15 : decode cX6_image 15 = .ok (.getfield 29, 3) := by decide +kernel
theorem dX6_image_18 : decode cX6_image 18 = .ok (.invokevirtual 161, 3) := by decide +kernel
theorem dX6_image_21 : decode cX6_image 21 = .ok (.aload_n 0, 1) := by decide +kernel
theorem dX6_image_22 : decode cX6_image 22 = .ok (.iconst 1, 1) := by decide +kernel
theorem dX6_image_23 : decode cX6_image 23 = .ok (.putfield 39, 3) := by decide +kernel
theorem dX6_image_26 : decode cX6_image 26 = .ok (.aload_n 0, 1) := by decide +kernel
theorem dX6_image_27 : decode cX6_image 27 = .ok (.getfield 29, 3) := by decide +kernel
theorem dX6_image_30 : decode cX6_image 30 = .ok (.getfield 91, 3) := by decide +kernel
theorem dX6_image_33 : decode cX6_image 33 = .ok (.ireturn, 1) := by decide +kernel
set_option maxRecDepth 20000 in
theorem ggX6_restore_X1_copyFrom : GoodIn wsX6_restore wsX1_copyFrom := goodIn_r _ [9, 10, 11, 12, 13, 14, 15, 16, 17, 18, 31, 32, 33, 34, 35, 36, 37, 38, 39] (by decide +kernel) (by decide +kernel)
set_option maxRecDepth 20000 in
theorem gX6_restore_X1_copyFrom : GoodIn wsX6_restore (wsV RX6 161 RX1 yX1_copyFrom wsX1_copyFrom) := goodIn_app (goodIn_of _ (by decide +kernel)) ggX6_restore_X1_copyFrom
theorem dX6_restore_0 : decode cX6_restore 0 = .ok (.aload_n 0, 1) := by decide +kernel
theorem dX6_restore_1 : decode cX6_restore 1 = .ok (.getfield 39, 3) := by decide +kernel
theorem dX6_restore_4 : decode cX6_restore 4 = .ok (.ifCond .ne 6, 3) := by decide +kernel
theorem dX6_restore_7 : decode cX6_restore 7 = .ok (.bipush (-103), 2) := by decide +kernel
theorem dX6_restore_9 : decode cX6_restore 9 = .ok (.ireturn, 1) := by decide +kernel
theorem dX6_restore_10 : decode cX6_restore 10 = .ok (.aload_n 0, 1) := by decide +kernel
theorem dX6_restore_11 : decode cX6_restore 11 = .ok (.getfield 29, 3) := by decide +kernel
theorem dX6_restore_14 : decode cX6_restore 14 = .ok (.aload_n 0, 1) := by decide +kernel
theorem dX6_restore_15 : decode cX6_restore 15 = .ok (.getfield 33, 3) := by decide +kernel
theorem dX6_restore_18 : decode cX6_restore 18 = .ok (.invokevirtual 161, 3) := by decide +kernel
theorem dX6_restore_21 : decode cX6_restore 21 = .ok (.aload_n 0, 1) := by decide +kernel
theorem dX6_restore_22 : decode cX6_restore 22 = .ok (.getfield 29, 3) := by decide +kernel
theorem dX6_restore_25 : decode cX6_restore 25 = .ok (.getfield 91, 3) := by decide +kernel
theorem dX6_restore_28 : decode cX6_restore 28 = .ok (.ireturn, 1) := by decide +kernel
set_option maxRecDepth 20000 in
theorem ggX6_count_X1_spoonsOfAll : GoodIn wsX6_count wsX1_spoonsOfAll := goodIn_r _ [15, 16, 38, 39, 40, 41, 42, 43, 44, 45, 46] (by decide +kernel) (by decide +kernel)
set_option maxRecDepth 20000 in
theorem gX6_count_X1_spoonsOfAll : GoodIn wsX6_count (wsV RX6 155 RX1 yX1_spoonsOfAll wsX1_spoonsOfAll) := goodIn_app (goodIn_of _ (by decide +kernel)) ggX6_count_X1_spoonsOfAll
set_option maxRecDepth 20000 in
theorem ggX6_count_X6_emptyJars : GoodIn wsX6_count wsX6_emptyJars := goodIn_r _ [21, 1, 2, 22, 23, 24, 14, 25, 16, 26, 27, 28, 29, 30, 31, 32, 33, 34, 35, 36, 37, 38, 39, 40, 41, 42, 43, 44, 45, 46] (by decide +kernel) (by decide +kernel)
set_option maxRecDepth 20000 in
theorem gX6_count_X6_emptyJars : GoodIn wsX6_count (wsV RX6 165 RX6 yX6_emptyJars wsX6_emptyJars) := goodIn_app (goodIn_of _ (by decide +kernel)) ggX6_count_X6_emptyJars
theorem dX6_count_0 : decode cX6_count 0 = .ok (.iload_n 1, 1) := by decide +kernel
theorem dX6_count_1 : decode cX6_count 1 = .ok (.tableswitch 136 0 10 #[59, 64, 72, 80, 92, 97, 105, 113, 121, 126, 131], 59) := by decide +kernel
theorem dX6_count_60 : decode cX6_count 60 = .ok (.aload_n 0, 1) := by decide +kernel
theorem dX6_count_61 : decode cX6_count 61 = .ok (.getfield 23, 3) := by decide +kernel
theorem dX6_count_64 : decode cX6_count 64 = .ok (.ireturn, 1) := by decide +kernel
theorem dX6_count_65 : decode cX6_count 65 = .ok (.aload_n 0, 1) := by decide +kernel
theorem dX6_count_66 : decode cX6_count 66 = .ok (.getfield 29, 3) := by decide +kernel
theorem dX6_count_69 : decode cX6_count 69 = .ok (.getfield 91, 3) := by decide +kernel
theorem dX6_count_72 : decode cX6_count 72 = .ok (.ireturn, 1) := by decide +kernel
theorem dX6_count_73 : decode cX6_count 73 = .ok (.aload_n 0, 1) := by decide +kernel
theorem dX6_count_74 : decode cX6_count 74 = .ok (.getfield 29, 3) := by decide +kernel
theorem dX6_count_77 : decode cX6_count 77 = .ok (.invokevirtual 155, 3) := by decide +kernel
theorem dX6_count_80 : decode cX6_count 80 = .ok (.ireturn, 1) := by decide +kernel
theorem dX6_count_81 : decode cX6_count 81 = .ok (.aload_n 0, 1) := by decide +kernel
theorem dX6_count_82 : decode cX6_count 82 = .ok (.getfield 29, 3) := by decide +kernel
theorem dX6_count_85 : decode cX6_count 85 = .ok (.getfield 158, 3) := by decide +kernel
theorem dX6_count_88 : decode cX6_count 88 = .ok (.sipush 2000, 3) := by decide +kernel
theorem dX6_count_91 : decode cX6_count 91 = .ok (.iadd, 1) := by decide +kernel
theorem dX6_count_92 : decode cX6_count 92 = .ok (.ireturn, 1) := by decide +kernel
theorem dX6_count_93 : decode cX6_count 93 = .ok (.aload_n 0, 1) := by decide +kernel
theorem dX6_count_94 : decode cX6_count 94 = .ok (.invokevirtual 165, 3) := by decide +kernel
theorem dX6_count_97 : decode cX6_count 97 = .ok (.ireturn, 1) := by decide +kernel
theorem dX6_count_98 : decode cX6_count 98 = .ok (.aload_n 0, 1) := by decide +kernel
theorem dX6_count_99 : decode cX6_count 99 = .ok (.getfield 29, 3) := by decide +kernel
theorem dX6_count_102 : decode cX6_count 102 = .ok (.getfield 168, 3) := by decide +kernel
theorem dX6_count_105 : decode cX6_count 105 = .ok (.ireturn, 1) := by decide +kernel
theorem dX6_count_106 : decode cX6_count 106 = .ok (.aload_n 0, 1) := by decide +kernel
theorem dX6_count_107 : decode cX6_count 107 = .ok (.getfield 29, 3) := by decide +kernel
theorem dX6_count_110 : decode cX6_count 110 = .ok (.getfield 171, 3) := by decide +kernel
theorem dX6_count_113 : decode cX6_count 113 = .ok (.ireturn, 1) := by decide +kernel
theorem dX6_count_114 : decode cX6_count 114 = .ok (.aload_n 0, 1) := by decide +kernel
theorem dX6_count_115 : decode cX6_count 115 = .ok (.getfield 29, 3) := by decide +kernel
theorem dX6_count_118 : decode cX6_count 118 = .ok (.getfield 143, 3) := by decide +kernel
theorem dX6_count_121 : decode cX6_count 121 = .ok (.ireturn, 1) := by decide +kernel
theorem dX6_count_122 : decode cX6_count 122 = .ok (.aload_n 0, 1) := by decide +kernel
theorem dX6_count_123 : decode cX6_count 123 = .ok (.getfield 13, 3) := by decide +kernel
theorem dX6_count_126 : decode cX6_count 126 = .ok (.ireturn, 1) := by decide +kernel
theorem dX6_count_127 : decode cX6_count 127 = .ok (.aload_n 0, 1) := by decide +kernel
theorem dX6_count_128 : decode cX6_count 128 = .ok (.getfield 43, 3) := by decide +kernel
theorem dX6_count_131 : decode cX6_count 131 = .ok (.ireturn, 1) := by decide +kernel
theorem dX6_count_132 : decode cX6_count 132 = .ok (.aload_n 0, 1) := by decide +kernel
theorem dX6_count_133 : decode cX6_count 133 = .ok (.getfield 46, 3) := by decide +kernel
theorem dX6_count_136 : decode cX6_count 136 = .ok (.ireturn, 1) := by decide +kernel
theorem dX6_count_137 : decode cX6_count 137 = .ok (.bipush (-102), 2) := by decide +kernel
theorem dX6_count_139 : decode cX6_count 139 = .ok (.ireturn, 1) := by decide +kernel
set_option maxRecDepth 20000 in
theorem ggX6_digest_X6_jar : GoodIn wsX6_digest wsX6_jar := goodIn_r _ [8, 9, 10, 11, 12, 13, 14, 15, 7, 16, 2, 17, 18, 19, 20, 21, 22, 23, 24, 25, 26, 27, 28, 29, 30, 31, 32, 33, 34, 35, 36, 37, 38, 39, 40, 41, 42, 43, 44, 45, 46, 47, 48, 49, 50, 51, 52, 53, 54, 55, 56, 57, 58, 59, 60, 61, 62, 63, 64, 65, 66, 67, 68, 69, 70, 71, 72, 73, 74, 75, 76, 77, 78, 79, 80, 81, 82, 83, 84, 85, 86, 87, 88, 89, 90, 91, 92, 93, 94, 95, 96, 97, 98, 99, 100, 101, 102, 103, 187, 188, 189, 190, 191, 192, 193, 194, 195, 196, 197, 198, 199, 200, 201, 175, 176, 177, 178, 179, 180, 181, 182, 183, 184, 185, 186, 202, 203, 204, 205, 206, 207, 208, 209, 210] (by decide +kernel) (by decide +kernel)
set_option maxRecDepth 20000 in
theorem gX6_digest_X6_jar : GoodIn wsX6_digest (wsV RX6 176 RX6 yX6_jar wsX6_jar) := goodIn_app (goodIn_of _ (by decide +kernel)) ggX6_digest_X6_jar
set_option maxRecDepth 20000 in
theorem ggX6_digest_X6_mix : GoodIn wsX6_digest wsX6_mix := goodIn_r _ [106, 107] (by decide +kernel) (by decide +kernel)
set_option maxRecDepth 20000 in
theorem gX6_digest_X6_mix : GoodIn wsX6_digest (va_wsS RX6 179 yX6_mix wsX6_mix) := goodIn_app (goodIn_of _ (by decide +kernel)) ggX6_digest_X6_mix
set_option maxRecDepth 20000 in
theorem ggX6_digest_X6_worth : GoodIn wsX6_digest wsX6_worth := goodIn_r _ [111, 13, 14, 15, 7, 16, 2, 17, 112, 113, 114, 63, 64, 65, 66, 67, 68, 69, 70, 33, 71, 72, 73, 49, 50, 51, 52, 53, 54, 74, 56, 57, 58, 75, 76, 77, 28, 78, 79, 80, 81, 82, 83, 84, 85, 86, 87, 36, 88, 89, 90, 91, 92, 93, 94, 175, 176, 177, 178, 179, 180, 181, 182, 183, 184, 185, 186, 187, 188, 189, 190, 191, 192, 193, 194, 195, 196, 197, 198, 199, 200, 201] (by decide +kernel) (by decide +kernel)
set_option maxRecDepth 20000 in
theorem gX6_digest_X6_worth : GoodIn wsX6_digest (wsV RX6 183 RX6 yX6_worth wsX6_worth) := goodIn_app (goodIn_of _ (by decide +kernel)) ggX6_digest_X6_worth
set_option maxRecDepth 20000 in
theorem ggX6_digest_X6_hasNoLarder : GoodIn wsX6_digest wsX6_hasNoLarder := goodIn_r _ [118, 2, 175, 176, 177, 178, 179, 180, 181, 182, 183, 184, 185, 186] (by decide +kernel) (by decide +kernel)
set_option maxRecDepth 20000 in
theorem gX6_digest_X6_hasNoLarder : GoodIn wsX6_digest (wsV RX6 124 RX6 yX6_hasNoLarder wsX6_hasNoLarder) := goodIn_app (goodIn_of _ (by decide +kernel)) ggX6_digest_X6_hasNoLarder
set_option maxRecDepth 20000 in
theorem ggX6_digest_X6_which : GoodIn wsX6_digest wsX6_which := goodIn_r _ [122, 115, 116, 117, 7, 118, 2, 123, 124, 125, 126, 127, 128, 129, 130, 11, 131, 132, 133, 63, 64, 65, 66, 13, 14, 15, 16, 17, 67, 68, 69, 70, 33, 71, 72, 73, 49, 50, 51, 52, 53, 54, 74, 56, 57, 58, 75, 76, 77, 28, 78, 79, 80, 81, 82, 83, 84, 85, 86, 87, 36, 88, 89, 90, 91, 92, 93, 94, 175, 176, 177, 178, 179, 180, 181, 182, 183, 184, 185, 186, 202, 203, 204, 205, 206, 207, 208, 209, 210, 187, 188, 189, 190, 191, 192, 193, 194, 195, 196, 197, 198, 199, 200, 201] (by decide +kernel) (by decide +kernel)
set_option maxRecDepth 20000 in
theorem gX6_digest_X6_which : GoodIn wsX6_digest (wsV RX6 186 RX6 yX6_which wsX6_which) := goodIn_app (goodIn_of _ (by decide +kernel)) ggX6_digest_X6_which
set_option maxRecDepth 20000 in
theorem ggX6_digest_X6_tasteNext : GoodIn wsX6_digest wsX6_tasteNext := goodIn_r _ [137, 11, 12, 115, 116, 117, 7, 118, 2, 123, 124, 125, 126, 127, 128, 129, 130, 131, 132, 133, 63, 64, 65, 66, 13, 14, 15, 16, 17, 67, 68, 69, 70, 33, 71, 72, 73, 49, 50, 51, 52, 53, 54, 74, 56, 57, 58, 75, 76, 77, 28, 78, 79, 80, 81, 82, 83, 84, 85, 86, 87, 36, 88, 89, 90, 91, 92, 93, 94, 138, 139, 140, 141, 142, 143, 144, 145, 146, 147, 148, 149, 150, 151, 152, 175, 176, 177, 178, 179, 180, 181, 182, 183, 184, 185, 186, 202, 203, 204, 205, 206, 207, 208, 209, 210, 187, 188, 189, 190, 191, 192, 193, 194, 195, 196, 197, 198, 199, 200, 201] (by decide +kernel) (by decide +kernel)
set_option maxRecDepth 20000 in
theorem gX6_digest_X6_tasteNext : GoodIn wsX6_digest (wsV RX6 189 RX6 yX6_tasteNext wsX6_tasteNext) := goodIn_app (goodIn_of _ (by decide +kernel)) ggX6_digest_X6_tasteNext
set_option maxRecDepth 20000 in
theorem ggX6_digest_X6_codeAt : GoodIn wsX6_digest wsX6_codeAt := goodIn_r _ [156, 157, 175, 176, 177, 178, 179, 180, 181, 182, 183, 184, 185, 186] (by decide +kernel) (by decide +kernel)
set_option maxRecDepth 20000 in
theorem gX6_digest_X6_codeAt : GoodIn wsX6_digest (wsV RX6 55 RX6 yX6_codeAt wsX6_codeAt) := goodIn_app (goodIn_of _ (by decide +kernel)) ggX6_digest_X6_codeAt
set_option maxRecDepth 20000 in
theorem ggX6_digest_X6_count : GoodIn wsX6_digest wsX6_count := goodIn_r _ [161, 2, 11, 12, 162, 163, 164, 131, 3, 165, 166, 167, 168, 169, 45, 170, 47, 171, 172, 173, 7, 174, 42, 43, 44, 46, 175, 176, 177, 178, 179, 180, 181, 182, 183, 184, 185, 186, 202, 203, 204, 205, 206, 207, 208, 209, 210] (by decide +kernel) (by decide +kernel)
set_option maxRecDepth 20000 in
theorem gX6_digest_X6_count : GoodIn wsX6_digest (wsV RX6 192 RX6 yX6_count wsX6_count) := goodIn_app (goodIn_of _ (by decide +kernel)) ggX6_digest_X6_count
theorem dX6_digest_0 : decode cX6_digest 0 = .ok (.ldc2_w 174, 3) := by decide +kernel
theorem dX6_digest_3 : decode cX6_digest 3 = .ok (.lstore_n 1, 1) := by decide +kernel
theorem dX6_digest_4 : decode cX6_digest 4 = .ok (.iconst 0, 1) := by decide +kernel
theorem dX6_digest_5 : decode cX6_digest 5 = .ok (.istore_n 3, 1) := by decide +kernel
theorem dX6_digest_6 : decode cX6_digest 6 = .ok (.iload_n 3, 1) := by decide +kernel
theorem dX6_digest_7 : decode cX6_digest 7 = .ok (.aload_n 0, 1) := by decide +kernel
theorem dX6_digest_8 : decode cX6_digest 8 = .ok (.getfield 23, 3) := by decide +kernel
theorem dX6_digest_11 : decode cX6_digest 11 = .ok (.if_icmp .ge 59, 3) := by decide +kernel
theorem dX6_digest_14 : decode cX6_digest 14 = .ok (.iconst 0, 1) := by decide +kernel
theorem dX6_digest_15 : decode cX6_digest 15 = .ok (.istore 4, 2) := by decide +kernel
theorem dX6_digest_17 : decode cX6_digest 17 = .ok (.iload 4, 2) := by decide +kernel
theorem dX6_digest_19 : decode cX6_digest 19 = .ok (.bipush 7, 2) := by decide +kernel
theorem dX6_digest_21 : decode cX6_digest 21 = .ok (.if_icmp .gt 21, 3) := by decide +kernel
theorem dX6_digest_24 : decode cX6_digest 24 = .ok (.lload_n 1, 1) := by decide +kernel
theorem dX6_digest_25 : decode cX6_digest 25 = .ok (.aload_n 0, 1) := by decide +kernel
theorem dX6_digest_26 : decode cX6_digest 26 = .ok (.iload_n 3, 1) := by decide +kernel
theorem dX6_digest_27 : decode cX6_digest 27 = .ok (.iload 4, 2) := by decide +kernel
theorem dX6_digest_29 : decode cX6_digest 29 = .ok (.invokevirtual 176, 3) := by decide +kernel
theorem dX6_digest_32 : decode cX6_digest 32 = .ok (.invokestatic 179, 3) := by decide +kernel
theorem dX6_digest_35 : decode cX6_digest 35 = .ok (.lstore_n 1, 1) := by decide +kernel
theorem dX6_digest_36 : decode cX6_digest 36 = .ok (.iinc 4 1, 3) := by decide +kernel
theorem dX6_digest_39 : decode cX6_digest 39 = .ok (.goto (-22), 3) := by decide +kernel
theorem dX6_digest_42 : decode cX6_digest 42 = .ok (.lload_n 1, 1) := by decide +kernel
theorem dX6_digest_43 : decode cX6_digest 43 = .ok (.aload_n 0, 1) := by decide +kernel
theorem dX6_digest_44 : decode cX6_digest 44 = .ok (.iload_n 3, 1) := by decide +kernel
theorem dX6_digest_45 : decode cX6_digest 45 = .ok (.iconst 1, 1) := by decide +kernel
theorem dX6_digest_46 : decode cX6_digest 46 = .ok (.invokevirtual 183, 3) := by decide +kernel
theorem dX6_digest_49 : decode cX6_digest 49 = .ok (.invokestatic 179, 3) := by decide +kernel
theorem dX6_digest_52 : decode cX6_digest 52 = .ok (.lstore_n 1, 1) := by decide +kernel
theorem dX6_digest_53 : decode cX6_digest 53 = .ok (.lload_n 1, 1) := by decide +kernel
theorem dX6_digest_54 : decode cX6_digest 54 = .ok (.aload_n 0, 1) := by decide +kernel
theorem dX6_digest_55 : decode cX6_digest 55 = .ok (.iload_n 3, 1) := by decide +kernel
theorem dX6_digest_56 : decode cX6_digest 56 = .ok (.iconst 2, 1) := by decide +kernel
theorem dX6_digest_57 : decode cX6_digest 57 = .ok (.invokevirtual 183, 3) := by decide +kernel
theorem dX6_digest_60 : decode cX6_digest 60 = .ok (.invokestatic 179, 3) := by decide +kernel
theorem dX6_digest_63 : decode cX6_digest 63 = .ok (.lstore_n 1, 1) := by decide +kernel
theorem dX6_digest_64 : decode cX6_digest 64 = .ok (.iinc 3 1, 3) := by decide +kernel
theorem dX6_digest_67 : decode cX6_digest 67 = .ok (.goto (-61), 3) := by decide +kernel
theorem dX6_digest_70 : decode cX6_digest 70 = .ok (.aload_n 0, 1) := by decide +kernel
theorem dX6_digest_71 : decode cX6_digest 71 = .ok (.invokevirtual 124, 3) := by decide +kernel
theorem dX6_digest_74 : decode cX6_digest 74 = .ok (.ifCond .ne 21, 3) := by decide +kernel
theorem dX6_digest_77 : decode cX6_digest 77 = .ok (.lload_n 1, 1) := by decide +kernel
theorem dX6_digest_78 : decode cX6_digest 78 = .ok (.aload_n 0, 1) := by decide +kernel
theorem dX6_digest_79 : decode cX6_digest 79 = .ok (.invokevirtual 186, 3) := by decide +kernel
theorem dX6_digest_82 : decode cX6_digest 82 = .ok (.invokestatic 179, 3) := by decide +kernel
theorem dX6_digest_85 : decode cX6_digest 85 = .ok (.lstore_n 1, 1) := by decide +kernel
theorem dX6_digest_86 : decode cX6_digest 86 = .ok (.lload_n 1, 1) := by decide +kernel
theorem dX6_digest_87 : decode cX6_digest 87 = .ok (.aload_n 0, 1) := by decide +kernel
theorem dX6_digest_88 : decode cX6_digest 88 = .ok (.invokevirtual 189, 3) := by decide +kernel
theorem dX6_digest_91 : decode cX6_digest 91 = .ok (.invokestatic 179, 3) := by decide +kernel
theorem dX6_digest_94 : decode cX6_digest 94 = .ok (.lstore_n 1, 1) := by decide +kernel
theorem dX6_digest_95 : decode cX6_digest 95 = .ok (.iconst 0, 1) := by decide +kernel
theorem dX6_digest_96 : decode cX6_digest 96 = .ok (.istore_n 3, 1) := by decide +kernel
theorem dX6_digest_97 : decode cX6_digest 97 = .ok (.iload_n 3, 1) := by decide +kernel
theorem dX6_digest_98 : decode cX6_digest 98 = .ok (.aload_n 0, 1) := by decide +kernel
theorem dX6_digest_99 : decode cX6_digest 99 = .ok (.getfield 13, 3) := by decide +kernel
theorem dX6_digest_102 : decode cX6_digest 102 = .ok (.if_icmp .ge 19, 3) := by decide +kernel
theorem dX6_digest_105 : decode cX6_digest 105 = .ok (.lload_n 1, 1) := by decide +kernel
theorem dX6_digest_106 : decode cX6_digest 106 = .ok (.aload_n 0, 1) := by decide +kernel
theorem dX6_digest_107 : decode cX6_digest 107 = .ok (.iload_n 3, 1) := by decide +kernel
theorem dX6_digest_108 : decode cX6_digest 108 = .ok (.invokevirtual 55, 3) := by decide +kernel
theorem dX6_digest_111 : decode cX6_digest 111 = .ok (.invokestatic 179, 3) := by decide +kernel
theorem dX6_digest_114 : decode cX6_digest 114 = .ok (.lstore_n 1, 1) := by decide +kernel
theorem dX6_digest_115 : decode cX6_digest 115 = .ok (.iinc 3 1, 3) := by decide +kernel
theorem dX6_digest_118 : decode cX6_digest 118 = .ok (.goto (-21), 3) := by decide +kernel
theorem dX6_digest_121 : decode cX6_digest 121 = .ok (.iconst 0, 1) := by decide +kernel
theorem dX6_digest_122 : decode cX6_digest 122 = .ok (.istore_n 3, 1) := by decide +kernel
theorem dX6_digest_123 : decode cX6_digest 123 = .ok (.iload_n 3, 1) := by decide +kernel
theorem dX6_digest_124 : decode cX6_digest 124 = .ok (.bipush 10, 2) := by decide +kernel
theorem dX6_digest_126 : decode cX6_digest 126 = .ok (.if_icmp .gt 19, 3) := by decide +kernel
theorem dX6_digest_129 : decode cX6_digest 129 = .ok (.lload_n 1, 1) := by decide +kernel
theorem dX6_digest_130 : decode cX6_digest 130 = .ok (.aload_n 0, 1) := by decide +kernel
theorem dX6_digest_131 : decode cX6_digest 131 = .ok (.iload_n 3, 1) := by decide +kernel
theorem dX6_digest_132 : decode cX6_digest 132 = .ok (.invokevirtual 192, 3) := by decide +kernel
theorem dX6_digest_135 : decode cX6_digest 135 = .ok (.invokestatic 179, 3) := by decide +kernel
theorem dX6_digest_138 : decode cX6_digest 138 = .ok (.lstore_n 1, 1) := by decide +kernel
theorem dX6_digest_139 : decode cX6_digest 139 = .ok (.iinc 3 1, 3) := by decide +kernel
theorem dX6_digest_142 : decode cX6_digest 142 = .ok (.goto (-19), 3) := by decide +kernel
theorem dX6_digest_145 : decode cX6_digest 145 = .ok (.lload_n 1, 1) := by decide +kernel
theorem dX6_digest_146 : decode cX6_digest 146 = .ok (.lreturn, 1) := by decide +kernel
theorem dX6_mix_0 : decode cX6_mix 0 = .ok (.ldc2_w 195, 3) := by decide +kernel
theorem dX6_mix_3 : decode cX6_mix 3 = .ok (.lload_n 0, 1) := by decide +kernel
theorem dX6_mix_4 : decode cX6_mix 4 = .ok (.lmul, 1) := by decide +kernel
theorem dX6_mix_5 : decode cX6_mix 5 = .ok (.iload_n 2, 1) := by decide +kernel
theorem dX6_mix_6 : decode cX6_mix 6 = .ok (.i2l, 1) := by decide +kernel
theorem dX6_mix_7 : decode cX6_mix 7 = .ok (.ladd, 1) := by decide +kernel
theorem dX6_mix_8 : decode cX6_mix 8 = .ok (.lreturn, 1) := by decide +kernel
theorem dX6_codeAt_0 : decode cX6_codeAt 0 = .ok (.iload_n 1, 1) := by decide +kernel
theorem dX6_codeAt_1 : decode cX6_codeAt 1 = .ok (.ifCond .lt 18, 3) := by decide +kernel
theorem dX6_codeAt_4 : decode cX6_codeAt 4 = .ok (.iload_n 1, 1) := by decide +kernel
theorem dX6_codeAt_5 : decode cX6_codeAt 5 = .ok (.bipush 25, 2) := by decide +kernel
theorem dX6_codeAt_7 : decode cX6_codeAt 7 = .ok (.if_icmp .ge 12, 3) := by decide +kernel
theorem dX6_codeAt_10 : decode cX6_codeAt 10 = .ok (.aload_n 0, 1) := by decide +kernel
theorem dX6_codeAt_11 : decode cX6_codeAt 11 = .ok (.getfield 9, 3) := by decide +kernel
theorem dX6_codeAt_14 : decode cX6_codeAt 14 = .ok (.iload_n 1, 1) := by decide +kernel
theorem dX6_codeAt_15 : decode cX6_codeAt 15 = .ok (.iaload, 1) := by decide +kernel
theorem dX6_codeAt_16 : decode cX6_codeAt 16 = .ok (.goto 4, 3) := by decide +kernel
theorem dX6_codeAt_19 : decode cX6_codeAt 19 = .ok (.iconst 0, 1) := by decide +kernel
theorem dX6_codeAt_20 : decode cX6_codeAt 20 = .ok (.ireturn, 1) := by decide +kernel
set_option maxRecDepth 20000 in
theorem ggX6_fits_X6_isKindLetter : GoodIn wsX6_fits wsX6_isKindLetter := goodIn_r _ [4] (by decide +kernel) (by decide +kernel)
set_option maxRecDepth 20000 in
theorem gX6_fits_X6_isKindLetter : GoodIn wsX6_fits (va_wsS RX6 197 yX6_isKindLetter wsX6_isKindLetter) := goodIn_app (goodIn_of _ (by decide +kernel)) ggX6_fits_X6_isKindLetter
theorem dX6_fits_0 : decode cX6_fits 0 = .ok (.iload_n 0, 1) := by decide +kernel
theorem dX6_fits_1 : decode cX6_fits 1 = .ok (.ifCond .lt 9, 3) := by decide +kernel
theorem dX6_fits_4 : decode cX6_fits 4 = .ok (.iload_n 0, 1) := by decide +kernel
theorem dX6_fits_5 : decode cX6_fits 5 = .ok (.bipush 23, 2) := by decide +kernel
theorem dX6_fits_7 : decode cX6_fits 7 = .ok (.if_icmp .lt 5, 3) := by decide +kernel
theorem dX6_fits_10 : decode cX6_fits 10 = .ok (.iconst 0, 1) := by decide +kernel
theorem dX6_fits_11 : decode cX6_fits 11 = .ok (.ireturn, 1) := by decide +kernel
theorem dX6_fits_12 : decode cX6_fits 12 = .ok (.iload_n 0, 1) := by decide +kernel
theorem dX6_fits_13 : decode cX6_fits 13 = .ok (.iconst 4, 1) := by decide +kernel
theorem dX6_fits_14 : decode cX6_fits 14 = .ok (.irem, 1) := by decide +kernel
theorem dX6_fits_15 : decode cX6_fits 15 = .ok (.lookupswitch 42 #[(0, 25), (3, 30)], 25) := by decide +kernel
theorem dX6_fits_40 : decode cX6_fits 40 = .ok (.iload_n 1, 1) := by decide +kernel
theorem dX6_fits_41 : decode cX6_fits 41 = .ok (.invokestatic 197, 3) := by decide +kernel
theorem dX6_fits_44 : decode cX6_fits 44 = .ok (.ireturn, 1) := by decide +kernel
theorem dX6_fits_45 : decode cX6_fits 45 = .ok (.iload_n 1, 1) := by decide +kernel
theorem dX6_fits_46 : decode cX6_fits 46 = .ok (.bipush 44, 2) := by decide +kernel
theorem dX6_fits_48 : decode cX6_fits 48 = .ok (.if_icmp .ne 7, 3) := by decide +kernel
theorem dX6_fits_51 : decode cX6_fits 51 = .ok (.iconst 1, 1) := by decide +kernel
theorem dX6_fits_52 : decode cX6_fits 52 = .ok (.goto 4, 3) := by decide +kernel
theorem dX6_fits_55 : decode cX6_fits 55 = .ok (.iconst 0, 1) := by decide +kernel
theorem dX6_fits_56 : decode cX6_fits 56 = .ok (.ireturn, 1) := by decide +kernel
theorem dX6_fits_57 : decode cX6_fits 57 = .ok (.iload_n 1, 1) := by decide +kernel
theorem dX6_fits_58 : decode cX6_fits 58 = .ok (.bipush 48, 2) := by decide +kernel
theorem dX6_fits_60 : decode cX6_fits 60 = .ok (.if_icmp .lt 13, 3) := by decide +kernel
theorem dX6_fits_63 : decode cX6_fits 63 = .ok (.iload_n 1, 1) := by decide +kernel
theorem dX6_fits_64 : decode cX6_fits 64 = .ok (.bipush 57, 2) := by decide +kernel
theorem dX6_fits_66 : decode cX6_fits 66 = .ok (.if_icmp .gt 7, 3) := by decide +kernel
theorem dX6_fits_69 : decode cX6_fits 69 = .ok (.iconst 1, 1) := by decide +kernel
theorem dX6_fits_70 : decode cX6_fits 70 = .ok (.goto 4, 3) := by decide +kernel
theorem dX6_fits_73 : decode cX6_fits 73 = .ok (.iconst 0, 1) := by decide +kernel
theorem dX6_fits_74 : decode cX6_fits 74 = .ok (.ireturn, 1) := by decide +kernel
theorem dX6_isKindLetter_0 : decode cX6_isKindLetter 0 = .ok (.iload_n 0, 1) := by decide +kernel
theorem dX6_isKindLetter_1 : decode cX6_isKindLetter 1 = .ok (.bipush 106, 2) := by decide +kernel
theorem dX6_isKindLetter_3 : decode cX6_isKindLetter 3 = .ok (.if_icmp .eq 27, 3) := by decide +kernel
theorem dX6_isKindLetter_6 : decode cX6_isKindLetter 6 = .ok (.iload_n 0, 1) := by decide +kernel
theorem dX6_isKindLetter_7 : decode cX6_isKindLetter 7 = .ok (.bipush 119, 2) := by decide +kernel
theorem dX6_isKindLetter_9 : decode cX6_isKindLetter 9 = .ok (.if_icmp .eq 21, 3) := by decide +kernel
theorem dX6_isKindLetter_12 : decode cX6_isKindLetter 12 = .ok (.iload_n 0, 1) := by decide +kernel
theorem dX6_isKindLetter_13 : decode cX6_isKindLetter 13 = .ok (.bipush 99, 2) := by decide +kernel
theorem dX6_isKindLetter_15 : decode cX6_isKindLetter 15 = .ok (.if_icmp .eq 15, 3) := by decide +kernel
theorem dX6_isKindLetter_18 : decode cX6_isKindLetter 18 = .ok (.iload_n 0, 1) := by decide +kernel
theorem dX6_isKindLetter_19 : decode cX6_isKindLetter 19 = .ok (.bipush 112, 2) := by decide +kernel
theorem dX6_isKindLetter_21 : decode cX6_isKindLetter 21 = .ok (.if_icmp .eq 9, 3) := by decide +kernel
theorem dX6_isKindLetter_24 : decode cX6_isKindLetter 24 = .ok (.iload_n 0, 1) := by decide +kernel
theorem dX6_isKindLetter_25 : decode cX6_isKindLetter 25 = .ok (.bipush 103, 2) := by decide +kernel
theorem dX6_isKindLetter_27 : decode cX6_isKindLetter 27 = .ok (.if_icmp .ne 7, 3) := by decide +kernel
theorem dX6_isKindLetter_30 : decode cX6_isKindLetter 30 = .ok (.iconst 1, 1) := by decide +kernel
theorem dX6_isKindLetter_31 : decode cX6_isKindLetter 31 = .ok (.goto 4, 3) := by decide +kernel
theorem dX6_isKindLetter_34 : decode cX6_isKindLetter 34 = .ok (.iconst 0, 1) := by decide +kernel
theorem dX6_isKindLetter_35 : decode cX6_isKindLetter 35 = .ok (.ireturn, 1) := by decide +kernel
set_option maxRecDepth 20000 in
theorem ggX6_pageIsLarder_X6_fault : GoodIn wsX6_pageIsLarder wsX6_fault := goodIn_r _ [6, 1, 7, 8, 9, 5, 10, 11, 12, 13, 14, 15, 16, 17, 18, 19, 20, 21, 22, 23, 24, 25, 26, 27, 28, 29] (by decide +kernel) (by decide +kernel)
set_option maxRecDepth 20000 in
theorem gX6_pageIsLarder_X6_fault : GoodIn wsX6_pageIsLarder (wsV RX6 200 RX6 yX6_fault wsX6_fault) := goodIn_app (goodIn_of _ (by decide +kernel)) ggX6_pageIsLarder_X6_fault
theorem dX6_pageIsLarder_0 : decode cX6_pageIsLarder 0 = .ok (.aload_n 0, 1) := by decide +kernel
theorem dX6_pageIsLarder_1 : decode cX6_pageIsLarder 1 = .ok (.getfield 13, 3) := by decide +kernel
theorem dX6_pageIsLarder_4 : decode cX6_pageIsLarder 4 = .ok (.iconst 4, 1) := by decide +kernel
theorem dX6_pageIsLarder_5 : decode cX6_pageIsLarder 5 = .ok (.irem, 1) := by decide +kernel
theorem dX6_pageIsLarder_6 : decode cX6_pageIsLarder 6 = .ok (.iconst 3, 1) := by decide +kernel
theorem dX6_pageIsLarder_7 : decode cX6_pageIsLarder 7 = .ok (.if_icmp .ne 7, 3) := by decide +kernel
theorem dX6_pageIsLarder_10 : decode cX6_pageIsLarder 10 = .ok (.iconst 1, 1) := by decide +kernel
theorem dX6_pageIsLarder_11 : decode cX6_pageIsLarder 11 = .ok (.goto 4, 3) := by decide +kernel
theorem dX6_pageIsLarder_14 : decode cX6_pageIsLarder 14 = .ok (.iconst 0, 1) := by decide +kernel
theorem dX6_pageIsLarder_15 : decode cX6_pageIsLarder 15 = .ok (.istore_n 1, 1) := by decide +kernel
theorem dX6_pageIsLarder_16 : decode cX6_pageIsLarder 16 = .ok (.iload_n 1, 1) := by decide +kernel
theorem dX6_pageIsLarder_17 : decode cX6_pageIsLarder 17 = .ok (.ifCond .eq 27, 3) := by decide +kernel
theorem dX6_pageIsLarder_20 : decode cX6_pageIsLarder 20 = .ok (.aload_n 0, 1) := by decide +kernel
theorem dX6_pageIsLarder_21 : decode cX6_pageIsLarder 21 = .ok (.getfield 13, 3) := by decide +kernel
theorem dX6_pageIsLarder_24 : decode cX6_pageIsLarder 24 = .ok (.bipush 7, 2) := by decide +kernel
theorem dX6_pageIsLarder_26 : decode cX6_pageIsLarder 26 = .ok (.if_icmp .lt 18, 3) := by decide +kernel
theorem dX6_pageIsLarder_29 : decode cX6_pageIsLarder 29 = .ok (.aload_n 0, 1) := by decide +kernel
theorem dX6_pageIsLarder_30 : decode cX6_pageIsLarder 30 = .ok (.invokevirtual 200, 3) := by decide +kernel
theorem dX6_pageIsLarder_33 : decode cX6_pageIsLarder 33 = .ok (.aload_n 0, 1) := by decide +kernel
theorem dX6_pageIsLarder_34 : decode cX6_pageIsLarder 34 = .ok (.getfield 13, 3) := by decide +kernel
theorem dX6_pageIsLarder_37 : decode cX6_pageIsLarder 37 = .ok (.if_icmp .ne 7, 3) := by decide +kernel
theorem dX6_pageIsLarder_40 : decode cX6_pageIsLarder 40 = .ok (.iconst 1, 1) := by decide +kernel
theorem dX6_pageIsLarder_41 : decode cX6_pageIsLarder 41 = .ok (.goto 4, 3) := by decide +kernel
theorem dX6_pageIsLarder_44 : decode cX6_pageIsLarder 44 = .ok (.iconst 0, 1) := by decide +kernel
theorem dX6_pageIsLarder_45 : decode cX6_pageIsLarder 45 = .ok (.ireturn, 1) := by decide +kernel
set_option maxRecDepth 20000 in
theorem ggX6_readJar_X6_codeAt : GoodIn wsX6_readJar wsX6_codeAt := goodIn_r _ [20, 21, 72, 73, 74, 75, 76, 77, 78, 79, 80, 81, 82, 83] (by decide +kernel) (by decide +kernel)
set_option maxRecDepth 20000 in
theorem gX6_readJar_X6_codeAt : GoodIn wsX6_readJar (wsV RX6 55 RX6 yX6_codeAt wsX6_codeAt) := goodIn_app (goodIn_of _ (by decide +kernel)) ggX6_readJar_X6_codeAt
set_option maxRecDepth 20000 in
theorem ggX6_readJar_X5_init : GoodIn wsX6_readJar wsX5_init := goodIn_r _ [24, 25, 26, 15, 27, 28, 29, 30, 31, 32, 33, 60, 61, 62, 66, 67, 68, 69, 70, 71, 63, 64, 65, 57, 58, 59] (by decide +kernel) (by decide +kernel)
set_option maxRecDepth 20000 in
theorem gX6_readJar_X5_init : GoodIn wsX6_readJar (wsX5_init) := ggX6_readJar_X5_init
set_option maxRecDepth 20000 in
theorem ggX6_readJar_X0_init : GoodIn wsX6_readJar wsX0_init := goodIn_r _ [36, 37, 26, 15, 27, 28, 29, 30, 31, 32, 33, 60, 61, 62, 66, 67, 68, 69, 70, 71, 63, 64, 65, 57, 58, 59] (by decide +kernel) (by decide +kernel)
set_option maxRecDepth 20000 in
theorem gX6_readJar_X0_init : GoodIn wsX6_readJar (wsX0_init) := ggX6_readJar_X0_init
set_option maxRecDepth 20000 in
theorem ggX6_readJar_X4_init : GoodIn wsX6_readJar wsX4_init := goodIn_r _ [40, 41, 42, 15, 43, 44, 45, 46, 47, 48, 49, 50, 51, 26, 27, 28, 29, 30, 31, 32, 33, 60, 61, 62, 66, 67, 68, 69, 70, 71, 63, 64, 65, 57, 58, 59] (by decide +kernel) (by decide +kernel)
set_option maxRecDepth 20000 in
theorem gX6_readJar_X4_init : GoodIn wsX6_readJar (wsX4_init) := ggX6_readJar_X4_init
set_option maxRecDepth 20000 in
theorem ggX6_readJar_X2_init : GoodIn wsX6_readJar wsX2_init := goodIn_r _ [54, 55, 35, 6, 36, 37, 26, 15, 27, 28, 29, 30, 31, 32, 33, 60, 61, 62, 66, 67, 68, 69, 70, 71, 63, 64, 65, 57, 58, 59] (by decide +kernel) (by decide +kernel)
set_option maxRecDepth 20000 in
theorem gX6_readJar_X2_init : GoodIn wsX6_readJar (wsX2_init) := ggX6_readJar_X2_init
set_option maxRecDepth 20000 in
theorem ggX6_readJar_X3_init : GoodIn wsX6_readJar wsX3_init := goodIn_r _ [43, 44, 45, 15, 46, 47, 48, 49, 50, 51, 26, 27, 28, 29, 30, 31, 32, 33, 60, 61, 62, 66, 67, 68, 69, 70, 71, 63, 64, 65, 57, 58, 59] (by decide +kernel) (by decide +kernel)
set_option maxRecDepth 20000 in
theorem gX6_readJar_X3_init : GoodIn wsX6_readJar (wsX3_init) := ggX6_readJar_X3_init
theorem dX6_readJar_0 : decode cX6_readJar 0 = .ok (.aload_n 0, 1) := by decide +kernel
theorem dX6_readJar_1 : decode cX6_readJar 1 = .ok (.iload_n 1, 1) := by decide +kernel
theorem dX6_readJar_2 : decode cX6_readJar 2 = .ok (.iconst 1, 1) := by decide +kernel
theorem dX6_readJar_3 : decode cX6_readJar 3 = .ok (.iadd, 1) := by decide +kernel
theorem dX6_readJar_4 : decode cX6_readJar 4 = .ok (.invokevirtual 55, 3) := by decide +kernel
theorem dX6_readJar_7 : decode cX6_readJar 7 = .ok (.bipush 48, 2) := by decide +kernel
theorem dX6_readJar_9 : decode cX6_readJar 9 = .ok (.isub, 1) := by decide +kernel
theorem dX6_readJar_10 : decode cX6_readJar 10 = .ok (.istore_n 2, 1) := by decide +kernel
theorem dX6_readJar_11 : decode cX6_readJar 11 = .ok (.aload_n 0, 1) := by decide +kernel
theorem dX6_readJar_12 : decode cX6_readJar 12 = .ok (.iload_n 1, 1) := by decide +kernel
theorem dX6_readJar_13 : decode cX6_readJar 13 = .ok (.iconst 2, 1) := by decide +kernel
theorem dX6_readJar_14 : decode cX6_readJar 14 = .ok (.iadd, 1) := by decide +kernel
theorem dX6_readJar_15 : decode cX6_readJar 15 = .ok (.invokevirtual 55, 3) := by decide +kernel
theorem dX6_readJar_18 : decode cX6_readJar 18 = .ok (.bipush 48, 2) := by decide +kernel
theorem dX6_readJar_20 : decode cX6_readJar 20 = .ok (.isub, 1) := by decide +kernel
theorem dX6_readJar_21 : decode cX6_readJar 21 = .ok (.istore_n 3, 1) := by decide +kernel
theorem dX6_readJar_22 : decode cX6_readJar 22 = .ok (.aload_n 0, 1) := by decide +kernel
theorem dX6_readJar_23 : decode cX6_readJar 23 = .ok (.iload_n 1, 1) := by decide +kernel
theorem dX6_readJar_24 : decode cX6_readJar 24 = .ok (.invokevirtual 55, 3) := by decide +kernel
theorem dX6_readJar_27 : decode cX6_readJar 27 = .ok (.lookupswitch 81 #[(99, 51), (103, 71), (112, 61), (119, 41)], 41) := by decide +kernel
theorem dX6_readJar_68 : decode cX6_readJar 68 = .ok (.new 203, 3) := by decide +kernel
theorem dX6_readJar_71 : decode cX6_readJar 71 = .ok (.dup, 1) := by decide +kernel
theorem dX6_readJar_72 : decode cX6_readJar 72 = .ok (.iload_n 2, 1) := by decide +kernel
theorem dX6_readJar_73 : decode cX6_readJar 73 = .ok (.iload_n 3, 1) := by decide +kernel
theorem dX6_readJar_74 : decode cX6_readJar 74 = .ok (.invokespecial 205, 3) := by decide +kernel
theorem dX6_readJar_77 : decode cX6_readJar 77 = .ok (.areturn, 1) := by decide +kernel
theorem dX6_readJar_78 : decode cX6_readJar 78 = .ok (.new 208, 3) := by decide +kernel
theorem dX6_readJar_81 : decode cX6_readJar 81 = .ok (.dup, 1) := by decide +kernel
theorem dX6_readJar_82 : decode cX6_readJar 82 = .ok (.iload_n 2, 1) := by decide +kernel
theorem dX6_readJar_83 : decode cX6_readJar 83 = .ok (.iload_n 3, 1) := by decide +kernel
theorem dX6_readJar_84 : decode cX6_readJar 84 = .ok (.invokespecial 210, 3) := by decide +kernel
theorem dX6_readJar_87 : decode cX6_readJar 87 = .ok (.areturn, 1) := by decide +kernel
theorem dX6_readJar_88 : decode cX6_readJar 88 = .ok (.new 211, 3) := by decide +kernel
theorem dX6_readJar_91 : decode cX6_readJar 91 = .ok (.dup, 1) := by decide +kernel
theorem dX6_readJar_92 : decode cX6_readJar 92 = .ok (.iload_n 2, 1) := by decide +kernel
theorem dX6_readJar_93 : decode cX6_readJar 93 = .ok (.iload_n 3, 1) := by decide +kernel
theorem dX6_readJar_94 : decode cX6_readJar 94 = .ok (.invokespecial 213, 3) := by decide +kernel
theorem dX6_readJar_97 : decode cX6_readJar 97 = .ok (.areturn, 1) := by decide +kernel
theorem dX6_readJar_98 : decode cX6_readJar 98 = .ok (.new 214, 3) := by decide +kernel
theorem dX6_readJar_101 : decode cX6_readJar 101 = .ok (.dup, 1) := by decide +kernel
theorem dX6_readJar_102 : decode cX6_readJar 102 = .ok (.iload_n 2, 1) := by decide +kernel
theorem dX6_readJar_103 : decode cX6_readJar 103 = .ok (.iload_n 3, 1) := by decide +kernel
theorem dX6_readJar_104 : decode cX6_readJar 104 = .ok (.invokespecial 216, 3) := by decide +kernel
theorem dX6_readJar_107 : decode cX6_readJar 107 = .ok (.areturn, 1) := by decide +kernel
theorem dX6_readJar_108 : decode cX6_readJar 108 = .ok (.new 17, 3) := by decide +kernel
theorem dX6_readJar_111 : decode cX6_readJar 111 = .ok (.dup, 1) := by decide +kernel
theorem dX6_readJar_112 : decode cX6_readJar 112 = .ok (.iload_n 2, 1) := by decide +kernel
theorem dX6_readJar_113 : decode cX6_readJar 113 = .ok (.iload_n 3, 1) := by decide +kernel
theorem dX6_readJar_114 : decode cX6_readJar 114 = .ok (.invokespecial 217, 3) := by decide +kernel
theorem dX6_readJar_117 : decode cX6_readJar 117 = .ok (.areturn, 1) := by decide +kernel
theorem dX6_hasNoLarder_0 : decode cX6_hasNoLarder 0 = .ok (.aload_n 0, 1) := by decide +kernel
theorem dX6_hasNoLarder_1 : decode cX6_hasNoLarder 1 = .ok (.getfield 23, 3) := by decide +kernel
theorem dX6_hasNoLarder_4 : decode cX6_hasNoLarder 4 = .ok (.ifCond .ne 7, 3) := by decide +kernel
theorem dX6_hasNoLarder_7 : decode cX6_hasNoLarder 7 = .ok (.iconst 1, 1) := by decide +kernel
theorem dX6_hasNoLarder_8 : decode cX6_hasNoLarder 8 = .ok (.goto 4, 3) := by decide +kernel
theorem dX6_hasNoLarder_11 : decode cX6_hasNoLarder 11 = .ok (.iconst 0, 1) := by decide +kernel
theorem dX6_hasNoLarder_12 : decode cX6_hasNoLarder 12 = .ok (.ireturn, 1) := by decide +kernel
theorem dX6_isNoYear_0 : decode cX6_isNoYear 0 = .ok (.iload_n 0, 1) := by decide +kernel
theorem dX6_isNoYear_1 : decode cX6_isNoYear 1 = .ok (.ifCond .lt 9, 3) := by decide +kernel
theorem dX6_isNoYear_4 : decode cX6_isNoYear 4 = .ok (.iload_n 0, 1) := by decide +kernel
theorem dX6_isNoYear_5 : decode cX6_isNoYear 5 = .ok (.bipush 99, 2) := by decide +kernel
theorem dX6_isNoYear_7 : decode cX6_isNoYear 7 = .ok (.if_icmp .le 7, 3) := by decide +kernel
theorem dX6_isNoYear_10 : decode cX6_isNoYear 10 = .ok (.iconst 1, 1) := by decide +kernel
theorem dX6_isNoYear_11 : decode cX6_isNoYear 11 = .ok (.goto 4, 3) := by decide +kernel
theorem dX6_isNoYear_14 : decode cX6_isNoYear 14 = .ok (.iconst 0, 1) := by decide +kernel
theorem dX6_isNoYear_15 : decode cX6_isNoYear 15 = .ok (.ireturn, 1) := by decide +kernel
theorem dX6_find_0 : decode cX6_find 0 = .ok (.iload_n 1, 1) := by decide +kernel
theorem dX6_find_1 : decode cX6_find 1 = .ok (.ifCond .lt 26, 3) := by decide +kernel
theorem dX6_find_4 : decode cX6_find 4 = .ok (.iload_n 1, 1) := by decide +kernel
theorem dX6_find_5 : decode cX6_find 5 = .ok (.aload_n 0, 1) := by decide +kernel
theorem dX6_find_6 : decode cX6_find 6 = .ok (.getfield 23, 3) := by decide +kernel
theorem dX6_find_9 : decode cX6_find 9 = .ok (.if_icmp .ge 18, 3) := by decide +kernel
theorem dX6_find_12 : decode cX6_find 12 = .ok (.iload_n 1, 1) := by decide +kernel
theorem dX6_find_13 : decode cX6_find 13 = .ok (.bipush 6, 2) := by decide +kernel
theorem dX6_find_15 : decode cX6_find 15 = .ok (.if_icmp .ge 12, 3) := by decide +kernel
theorem dX6_find_18 : decode cX6_find 18 = .ok (.aload_n 0, 1) := by decide +kernel
theorem dX6_find_19 : decode cX6_find 19 = .ok (.getfield 19, 3) := by decide +kernel
theorem dX6_find_22 : decode cX6_find 22 = .ok (.iload_n 1, 1) := by decide +kernel
theorem dX6_find_23 : decode cX6_find 23 = .ok (.aaload, 1) := by decide +kernel
theorem dX6_find_24 : decode cX6_find 24 = .ok (.goto 4, 3) := by decide +kernel
theorem dX6_find_27 : decode cX6_find 27 = .ok (.aconst_null, 1) := by decide +kernel
theorem dX6_find_28 : decode cX6_find 28 = .ok (.areturn, 1) := by decide +kernel
theorem dX6_isOfKind_0 : decode cX6_isOfKind 0 = .ok (.iload_n 1, 1) := by decide +kernel
theorem dX6_isOfKind_1 : decode cX6_isOfKind 1 = .ok (.tableswitch 65 0 4 #[35, 45, 50, 55, 60], 35) := by decide +kernel
theorem dX6_isOfKind_36 : decode cX6_isOfKind 36 = .ok (.aload_n 0, 1) := by decide +kernel
theorem dX6_isOfKind_37 : decode cX6_isOfKind 37 = .ok (.ifnull 7, 3) := by decide +kernel
theorem dX6_isOfKind_40 : decode cX6_isOfKind 40 = .ok (.iconst 1, 1) := by decide +kernel
theorem dX6_isOfKind_41 : decode cX6_isOfKind 41 = .ok (.goto 4, 3) := by decide +kernel
theorem dX6_isOfKind_44 : decode cX6_isOfKind 44 = .ok (.iconst 0, 1) := by decide +kernel
theorem dX6_isOfKind_45 : decode cX6_isOfKind 45 = .ok (.ireturn, 1) := by decide +kernel
theorem dX6_isOfKind_46 : decode cX6_isOfKind 46 = .ok (.aload_n 0, 1) := by decide +kernel
theorem dX6_isOfKind_47 : decode cX6_isOfKind 47 = .ok (.instanceof 203, 3) := by decide +kernel
theorem dX6_isOfKind_50 : decode cX6_isOfKind 50 = .ok (.ireturn, 1) := by decide +kernel
theorem dX6_isOfKind_51 : decode cX6_isOfKind 51 = .ok (.aload_n 0, 1) := by decide +kernel
theorem dX6_isOfKind_52 : decode cX6_isOfKind 52 = .ok (.instanceof 208, 3) := by decide +kernel
theorem dX6_isOfKind_55 : decode cX6_isOfKind 55 = .ok (.ireturn, 1) := by decide +kernel
theorem dX6_isOfKind_56 : decode cX6_isOfKind 56 = .ok (.aload_n 0, 1) := by decide +kernel
theorem dX6_isOfKind_57 : decode cX6_isOfKind 57 = .ok (.instanceof 211, 3) := by decide +kernel
theorem dX6_isOfKind_60 : decode cX6_isOfKind 60 = .ok (.ireturn, 1) := by decide +kernel
theorem dX6_isOfKind_61 : decode cX6_isOfKind 61 = .ok (.aload_n 0, 1) := by decide +kernel
theorem dX6_isOfKind_62 : decode cX6_isOfKind 62 = .ok (.instanceof 214, 3) := by decide +kernel
theorem dX6_isOfKind_65 : decode cX6_isOfKind 65 = .ok (.ireturn, 1) := by decide +kernel
theorem dX6_isOfKind_66 : decode cX6_isOfKind 66 = .ok (.iconst 0, 1) := by decide +kernel
theorem dX6_isOfKind_67 : decode cX6_isOfKind 67 = .ok (.ireturn, 1) := by decide +kernel
set_option maxRecDepth 20000 in
theorem ggX6_firstWorth_X6_find : GoodIn wsX6_firstWorth wsX6_find := goodIn_r _ [5, 6, 7, 48, 49, 50, 51, 52, 53, 54, 55, 56, 57, 58, 59] (by decide +kernel) (by decide +kernel)
set_option maxRecDepth 20000 in
theorem gX6_firstWorth_X6_find : GoodIn wsX6_firstWorth (wsV RX6 75 RX6 yX6_find wsX6_find) := goodIn_app (goodIn_of _ (by decide +kernel)) ggX6_firstWorth_X6_find
set_option maxRecDepth 20000 in
theorem ggX6_firstWorth_X3_firstWorthIn : GoodIn wsX6_firstWorth wsX3_firstWorthIn := goodIn_r _ [13, 14, 15, 16, 17, 18, 12, 19, 20, 21, 22, 23, 24, 25, 60, 61, 62, 63, 64, 65, 66, 67, 68, 69, 70, 71, 72, 73, 74] (by decide +kernel) (by decide +kernel)
set_option maxRecDepth 20000 in
theorem gX6_firstWorth_X3_firstWorthIn_u218X0 : GoodIn wsX6_firstWorth (va_wsU RX6 218 RX0 "JamDays$Jar" ⟨"JamDays$Jar", "firstWorthIn", "(I)I"⟩ yX3_firstWorthIn wsX3_firstWorthIn) := goodIn_app (goodIn_of _ (by decide +kernel)) ggX6_firstWorth_X3_firstWorthIn
set_option maxRecDepth 20000 in
theorem ggX6_firstWorth_X2_firstWorthIn : GoodIn wsX6_firstWorth wsX2_firstWorthIn := goodIn_r _ [30, 31, 32, 33, 34, 35, 18, 12, 19, 20, 60, 61, 62, 63, 64, 65, 66, 67, 68, 69, 70, 71, 72, 73, 74] (by decide +kernel) (by decide +kernel)
set_option maxRecDepth 20000 in
theorem gX6_firstWorth_X2_firstWorthIn_u218X2 : GoodIn wsX6_firstWorth (va_wsO RX6 218 RX2 "JamDays$Jar" ⟨"JamDays$Jar", "firstWorthIn", "(I)I"⟩ yX2_firstWorthIn wsX2_firstWorthIn) := goodIn_app (goodIn_of _ (by decide +kernel)) ggX6_firstWorth_X2_firstWorthIn
set_option maxRecDepth 20000 in
theorem gX6_firstWorth_X3_firstWorthIn : GoodIn wsX6_firstWorth (wsV RX6 218 RX3 yX3_firstWorthIn wsX3_firstWorthIn) := goodIn_app (goodIn_of _ (by decide +kernel)) ggX6_firstWorth_X3_firstWorthIn
set_option maxRecDepth 20000 in
theorem ggX6_firstWorth_X4_firstWorthIn : GoodIn wsX6_firstWorth wsX4_firstWorthIn := goodIn_r _ [41, 42, 43, 44, 45, 46, 18, 12, 19, 20, 60, 61, 62, 63, 64, 65, 66, 67, 68, 69, 70, 71, 72, 73, 74] (by decide +kernel) (by decide +kernel)
set_option maxRecDepth 20000 in
theorem gX6_firstWorth_X4_firstWorthIn_u218X4 : GoodIn wsX6_firstWorth (va_wsO RX6 218 RX4 "JamDays$Jar" ⟨"JamDays$Jar", "firstWorthIn", "(I)I"⟩ yX4_firstWorthIn wsX4_firstWorthIn) := goodIn_app (goodIn_of _ (by decide +kernel)) ggX6_firstWorth_X4_firstWorthIn
set_option maxRecDepth 20000 in
theorem gX6_firstWorth_X3_firstWorthIn_u218X5 : GoodIn wsX6_firstWorth (va_wsU RX6 218 RX5 "JamDays$Jar" ⟨"JamDays$Jar", "firstWorthIn", "(I)I"⟩ yX3_firstWorthIn wsX3_firstWorthIn) := goodIn_app (goodIn_of _ (by decide +kernel)) ggX6_firstWorth_X3_firstWorthIn
theorem dX6_firstWorth_0 : decode cX6_firstWorth 0 = .ok (.aload_n 0, 1) := by decide +kernel
theorem dX6_firstWorth_1 : decode cX6_firstWorth 1 = .ok (.iload_n 1, 1) := by decide +kernel
theorem dX6_firstWorth_2 : decode cX6_firstWorth 2 = .ok (.invokevirtual 75, 3) := by decide +kernel
theorem dX6_firstWorth_5 : decode cX6_firstWorth 5 = .ok (.astore_n 3, 1) := by decide +kernel
theorem dX6_firstWorth_6 : decode cX6_firstWorth 6 = .ok (.aload_n 3, 1) := by decide +kernel
theorem dX6_firstWorth_7 : decode cX6_firstWorth 7 = .ok (.ifnonnull 7, 3) := by decide +kernel
theorem dX6_firstWorth_10 : decode cX6_firstWorth 10 = .ok (.iconst 0, 1) := by decide +kernel
theorem dX6_firstWorth_11 : decode cX6_firstWorth 11 = .ok (.goto 8, 3) := by decide +kernel
theorem dX6_firstWorth_14 : decode cX6_firstWorth 14 = .ok (.aload_n 3, 1) := by decide +kernel
theorem dX6_firstWorth_15 : decode cX6_firstWorth 15 = .ok (.iload_n 2, 1) := by decide +kernel
theorem dX6_firstWorth_16 : decode cX6_firstWorth 16 = .ok (.invokevirtual 218, 3) := by decide +kernel
theorem dX6_firstWorth_19 : decode cX6_firstWorth 19 = .ok (.ireturn, 1) := by decide +kernel
set_option maxRecDepth 20000 in
theorem ggX6_nextWorth_X6_firstWorth : GoodIn wsX6_nextWorth wsX6_firstWorth := goodIn_r _ [7, 8, 9, 10, 6, 11, 12, 13, 14, 15, 16, 17, 18, 19, 20, 21, 22, 23, 24, 25, 26, 27, 28, 29, 30, 31, 32, 33, 34, 35, 36, 37, 38, 39, 40, 41, 42, 43, 44, 45, 46, 47, 48, 49, 50, 51, 52, 53, 60, 61, 62, 63, 64, 65, 66, 67, 68, 69, 70, 71, 81, 82, 83, 84, 85, 86, 87, 88, 89, 90, 91, 92, 93, 94, 95] (by decide +kernel) (by decide +kernel)
set_option maxRecDepth 20000 in
theorem gX6_nextWorth_X6_firstWorth : GoodIn wsX6_nextWorth (wsV RX6 114 RX6 yX6_firstWorth wsX6_firstWorth) := goodIn_app (goodIn_of _ (by decide +kernel)) ggX6_nextWorth_X6_firstWorth
set_option maxRecDepth 20000 in
theorem ggX6_nextWorth_X1_eatenNowOf : GoodIn wsX6_nextWorth wsX1_eatenNowOf := goodIn_r _ [58, 59, 72, 73, 74, 75, 76, 77, 78, 79, 80] (by decide +kernel) (by decide +kernel)
set_option maxRecDepth 20000 in
theorem gX6_nextWorth_X1_eatenNowOf : GoodIn wsX6_nextWorth (wsV RX6 100 RX1 yX1_eatenNowOf wsX1_eatenNowOf) := goodIn_app (goodIn_of _ (by decide +kernel)) ggX6_nextWorth_X1_eatenNowOf
theorem dX6_nextWorth_0 : decode cX6_nextWorth 0 = .ok (.aload_n 0, 1) := by decide +kernel
theorem dX6_nextWorth_1 : decode cX6_nextWorth 1 = .ok (.iload_n 1, 1) := by decide +kernel
theorem dX6_nextWorth_2 : decode cX6_nextWorth 2 = .ok (.aload_n 0, 1) := by decide +kernel
theorem dX6_nextWorth_3 : decode cX6_nextWorth 3 = .ok (.getfield 29, 3) := by decide +kernel
theorem dX6_nextWorth_6 : decode cX6_nextWorth 6 = .ok (.getfield 91, 3) := by decide +kernel
theorem dX6_nextWorth_9 : decode cX6_nextWorth 9 = .ok (.invokevirtual 114, 3) := by decide +kernel
theorem dX6_nextWorth_12 : decode cX6_nextWorth 12 = .ok (.aload_n 0, 1) := by decide +kernel
theorem dX6_nextWorth_13 : decode cX6_nextWorth 13 = .ok (.getfield 29, 3) := by decide +kernel
theorem dX6_nextWorth_16 : decode cX6_nextWorth 16 = .ok (.iload_n 1, 1) := by decide +kernel
theorem dX6_nextWorth_17 : decode cX6_nextWorth 17 = .ok (.invokevirtual 100, 3) := by decide +kernel
theorem dX6_nextWorth_20 : decode cX6_nextWorth 20 = .ok (.isub, 1) := by decide +kernel
theorem dX6_nextWorth_21 : decode cX6_nextWorth 21 = .ok (.ireturn, 1) := by decide +kernel
set_option maxRecDepth 20000 in
theorem ggX6_yearsToBest_X6_firstWorth : GoodIn wsX6_yearsToBest wsX6_firstWorth := goodIn_r _ [7, 8, 9, 10, 6, 11, 12, 13, 14, 15, 16, 17, 18, 19, 20, 21, 22, 23, 24, 25, 26, 27, 28, 29, 30, 31, 32, 33, 34, 35, 36, 37, 38, 39, 40, 41, 42, 43, 44, 45, 46, 47, 48, 49, 50, 51, 52, 53, 54, 55, 56, 57, 58, 59, 60, 61, 62, 63, 64, 65, 75, 76, 77, 78, 79, 80, 81, 82, 83, 84, 85, 86, 87, 88, 89] (by decide +kernel) (by decide +kernel)
set_option maxRecDepth 20000 in
theorem gX6_yearsToBest_X6_firstWorth : GoodIn wsX6_yearsToBest (wsV RX6 114 RX6 yX6_firstWorth wsX6_firstWorth) := goodIn_app (goodIn_of _ (by decide +kernel)) ggX6_yearsToBest_X6_firstWorth
theorem dX6_yearsToBest_0 : decode cX6_yearsToBest 0 = .ok (.iconst 0, 1) := by decide +kernel
theorem dX6_yearsToBest_1 : decode cX6_yearsToBest 1 = .ok (.istore_n 2, 1) := by decide +kernel
theorem dX6_yearsToBest_2 : decode cX6_yearsToBest 2 = .ok (.iconst 1, 1) := by decide +kernel
theorem dX6_yearsToBest_3 : decode cX6_yearsToBest 3 = .ok (.istore_n 3, 1) := by decide +kernel
theorem dX6_yearsToBest_4 : decode cX6_yearsToBest 4 = .ok (.iload_n 3, 1) := by decide +kernel
theorem dX6_yearsToBest_5 : decode cX6_yearsToBest 5 = .ok (.bipush 10, 2) := by decide +kernel
theorem dX6_yearsToBest_7 : decode cX6_yearsToBest 7 = .ok (.if_icmp .ge 42, 3) := by decide +kernel
theorem dX6_yearsToBest_10 : decode cX6_yearsToBest 10 = .ok (.aload_n 0, 1) := by decide +kernel
theorem dX6_yearsToBest_11 : decode cX6_yearsToBest 11 = .ok (.iload_n 1, 1) := by decide +kernel
theorem dX6_yearsToBest_12 : decode cX6_yearsToBest 12 = .ok (.aload_n 0, 1) := by decide +kernel
theorem dX6_yearsToBest_13 : decode cX6_yearsToBest 13 = .ok (.getfield 29, 3) := by decide +kernel
theorem dX6_yearsToBest_16 : decode cX6_yearsToBest 16 = .ok (.getfield 91, 3) := by decide +kernel
theorem dX6_yearsToBest_19 : decode cX6_yearsToBest 19 = .ok (.iload_n 3, 1) := by decide +kernel
theorem dX6_yearsToBest_20 : decode cX6_yearsToBest 20 = .ok (.iadd, 1) := by decide +kernel
theorem dX6_yearsToBest_21 : decode cX6_yearsToBest 21 = .ok (.invokevirtual 114, 3) := by decide +kernel
theorem dX6_yearsToBest_24 : decode cX6_yearsToBest 24 = .ok (.aload_n 0, 1) := by decide +kernel
theorem dX6_yearsToBest_25 : decode cX6_yearsToBest 25 = .ok (.iload_n 1, 1) := by decide +kernel
theorem dX6_yearsToBest_26 : decode cX6_yearsToBest 26 = .ok (.aload_n 0, 1) := by decide +kernel
theorem dX6_yearsToBest_27 : decode cX6_yearsToBest 27 = .ok (.getfield 29, 3) := by decide +kernel
theorem dX6_yearsToBest_30 : decode cX6_yearsToBest 30 = .ok (.getfield 91, 3) := by decide +kernel
theorem dX6_yearsToBest_33 : decode cX6_yearsToBest 33 = .ok (.iload_n 2, 1) := by decide +kernel
theorem dX6_yearsToBest_34 : decode cX6_yearsToBest 34 = .ok (.iadd, 1) := by decide +kernel
theorem dX6_yearsToBest_35 : decode cX6_yearsToBest 35 = .ok (.invokevirtual 114, 3) := by decide +kernel
theorem dX6_yearsToBest_38 : decode cX6_yearsToBest 38 = .ok (.if_icmp .le 5, 3) := by decide +kernel
theorem dX6_yearsToBest_41 : decode cX6_yearsToBest 41 = .ok (.iload_n 3, 1) := by decide +kernel
theorem dX6_yearsToBest_42 : decode cX6_yearsToBest 42 = .ok (.istore_n 2, 1) := by decide +kernel
theorem dX6_yearsToBest_43 : decode cX6_yearsToBest 43 = .ok (.iinc 3 1, 3) := by decide +kernel
theorem dX6_yearsToBest_46 : decode cX6_yearsToBest 46 = .ok (.goto (-42), 3) := by decide +kernel
theorem dX6_yearsToBest_49 : decode cX6_yearsToBest 49 = .ok (.iload_n 2, 1) := by decide +kernel
theorem dX6_yearsToBest_50 : decode cX6_yearsToBest 50 = .ok (.ireturn, 1) := by decide +kernel
set_option maxRecDepth 20000 in
theorem ggX6_emptyJars_X1_spoonsOf : GoodIn wsX6_emptyJars wsX1_spoonsOf := goodIn_r _ [7, 8, 21, 22, 23, 24, 25, 26, 27, 28, 29] (by decide +kernel) (by decide +kernel)
set_option maxRecDepth 20000 in
theorem gX6_emptyJars_X1_spoonsOf : GoodIn wsX6_emptyJars (wsV RX6 88 RX1 yX1_spoonsOf wsX1_spoonsOf) := goodIn_app (goodIn_of _ (by decide +kernel)) ggX6_emptyJars_X1_spoonsOf
theorem dX6_emptyJars_0 : decode cX6_emptyJars 0 = .ok (.iconst 0, 1) := by decide +kernel
theorem dX6_emptyJars_1 : decode cX6_emptyJars 1 = .ok (.istore_n 1, 1) := by decide +kernel
theorem dX6_emptyJars_2 : decode cX6_emptyJars 2 = .ok (.iconst 0, 1) := by decide +kernel
theorem dX6_emptyJars_3 : decode cX6_emptyJars 3 = .ok (.istore_n 2, 1) := by decide +kernel
theorem dX6_emptyJars_4 : decode cX6_emptyJars 4 = .ok (.iload_n 2, 1) := by decide +kernel
theorem dX6_emptyJars_5 : decode cX6_emptyJars 5 = .ok (.aload_n 0, 1) := by decide +kernel
theorem dX6_emptyJars_6 : decode cX6_emptyJars 6 = .ok (.getfield 23, 3) := by decide +kernel
theorem dX6_emptyJars_9 : decode cX6_emptyJars 9 = .ok (.if_icmp .ge 23, 3) := by decide +kernel
theorem dX6_emptyJars_12 : decode cX6_emptyJars 12 = .ok (.aload_n 0, 1) := by decide +kernel
theorem dX6_emptyJars_13 : decode cX6_emptyJars 13 = .ok (.getfield 29, 3) := by decide +kernel
theorem dX6_emptyJars_16 : decode cX6_emptyJars 16 = .ok (.iload_n 2, 1) := by decide +kernel
theorem dX6_emptyJars_17 : decode cX6_emptyJars 17 = .ok (.invokevirtual 88, 3) := by decide +kernel
theorem dX6_emptyJars_20 : decode cX6_emptyJars 20 = .ok (.ifCond .ne 6, 3) := by decide +kernel
theorem dX6_emptyJars_23 : decode cX6_emptyJars 23 = .ok (.iinc 1 1, 3) := by decide +kernel
theorem dX6_emptyJars_26 : decode cX6_emptyJars 26 = .ok (.iinc 2 1, 3) := by decide +kernel
theorem dX6_emptyJars_29 : decode cX6_emptyJars 29 = .ok (.goto (-25), 3) := by decide +kernel
theorem dX6_emptyJars_32 : decode cX6_emptyJars 32 = .ok (.iload_n 1, 1) := by decide +kernel
theorem dX6_emptyJars_33 : decode cX6_emptyJars 33 = .ok (.ireturn, 1) := by decide +kernel
set_option maxRecDepth 20000 in
theorem ggX6_fillMost_X6_setMost : GoodIn wsX6_fillMost wsX6_setMost := goodIn_r _ [12, 13, 14, 15, 11, 16, 98, 99, 100, 101, 102, 103, 104, 105, 106, 107, 108, 109] (by decide +kernel) (by decide +kernel)
set_option maxRecDepth 20000 in
theorem gX6_fillMost_X6_setMost : GoodIn wsX6_fillMost (wsV RX6 221 RX6 yX6_setMost wsX6_setMost) := goodIn_app (goodIn_of _ (by decide +kernel)) ggX6_fillMost_X6_setMost
set_option maxRecDepth 20000 in
theorem ggX6_fillMost_X6_nextWorth : GoodIn wsX6_fillMost wsX6_nextWorth := goodIn_r _ [20, 21, 22, 23, 24, 25, 11, 26, 27, 28, 29, 30, 1, 31, 32, 33, 34, 35, 36, 37, 38, 39, 40, 41, 42, 43, 44, 45, 46, 47, 48, 49, 50, 51, 52, 53, 54, 55, 56, 57, 58, 59, 60, 61, 62, 63, 64, 65, 66, 67, 68, 69, 70, 71, 72, 73, 74, 75, 76, 77, 98, 99, 100, 101, 102, 103, 104, 105, 106, 107, 108, 109, 110, 111, 112, 113, 114, 115, 116, 117, 118, 119, 120, 121, 122, 123, 124, 125, 126, 127, 128, 129, 130, 131, 132, 133] (by decide +kernel) (by decide +kernel)
set_option maxRecDepth 20000 in
theorem gX6_fillMost_X6_nextWorth : GoodIn wsX6_fillMost (wsV RX6 97 RX6 yX6_nextWorth wsX6_nextWorth) := goodIn_app (goodIn_of _ (by decide +kernel)) ggX6_fillMost_X6_nextWorth
set_option maxRecDepth 20000 in
theorem ggX6_fillMost_X6_mostFrom : GoodIn wsX6_fillMost wsX6_mostFrom := goodIn_r _ [81, 2, 82, 83, 5, 84, 85, 86, 87, 11, 88, 21, 7, 89, 90, 91, 92, 13, 14, 15, 16, 27, 28, 29, 30, 1, 31, 93, 94, 95, 75, 96, 97, 98, 99, 100, 101, 102, 103, 104, 105, 106, 107, 108, 109, 110, 111, 112, 113, 114, 115, 116, 117, 118] (by decide +kernel) (by decide +kernel)
set_option maxRecDepth 20000 in
theorem gX6_fillMost_X6_mostFrom : GoodIn wsX6_fillMost (wsV RX6 230 RX6 yX6_mostFrom wsX6_mostFrom) := goodIn_app (goodIn_of _ (by decide +kernel)) ggX6_fillMost_X6_mostFrom
theorem dX6_fillMost_0 : decode cX6_fillMost 0 = .ok (.iconst 0, 1) := by decide +kernel
theorem dX6_fillMost_1 : decode cX6_fillMost 1 = .ok (.istore_n 1, 1) := by decide +kernel
theorem dX6_fillMost_2 : decode cX6_fillMost 2 = .ok (.iload_n 1, 1) := by decide +kernel
theorem dX6_fillMost_3 : decode cX6_fillMost 3 = .ok (.bipush 13, 2) := by decide +kernel
theorem dX6_fillMost_5 : decode cX6_fillMost 5 = .ok (.if_icmp .ge 28, 3) := by decide +kernel
theorem dX6_fillMost_8 : decode cX6_fillMost 8 = .ok (.aload_n 0, 1) := by decide +kernel
theorem dX6_fillMost_9 : decode cX6_fillMost 9 = .ok (.aload_n 0, 1) := by decide +kernel
theorem dX6_fillMost_10 : decode cX6_fillMost 10 = .ok (.getfield 23, 3) := by decide +kernel
theorem dX6_fillMost_13 : decode cX6_fillMost 13 = .ok (.iload_n 1, 1) := by decide +kernel
theorem dX6_fillMost_14 : decode cX6_fillMost 14 = .ok (.iload_n 1, 1) := by decide +kernel
theorem dX6_fillMost_15 : decode cX6_fillMost 15 = .ok (.ifCond .ne 7, 3) := by decide +kernel
theorem dX6_fillMost_18 : decode cX6_fillMost 18 = .ok (.iconst 0, 1) := by decide +kernel
theorem dX6_fillMost_19 : decode cX6_fillMost 19 = .ok (.goto 5, 3) := by decide +kernel
theorem dX6_fillMost_22 : decode cX6_fillMost 22 = .ok (.ldc 136, 2) := by decide +kernel
theorem dX6_fillMost_24 : decode cX6_fillMost 24 = .ok (.invokevirtual 221, 3) := by decide +kernel
theorem dX6_fillMost_27 : decode cX6_fillMost 27 = .ok (.iinc 1 1, 3) := by decide +kernel
theorem dX6_fillMost_30 : decode cX6_fillMost 30 = .ok (.goto (-28), 3) := by decide +kernel
theorem dX6_fillMost_33 : decode cX6_fillMost 33 = .ok (.aload_n 0, 1) := by decide +kernel
theorem dX6_fillMost_34 : decode cX6_fillMost 34 = .ok (.getfield 23, 3) := by decide +kernel
theorem dX6_fillMost_37 : decode cX6_fillMost 37 = .ok (.bipush 6, 2) := by decide +kernel
theorem dX6_fillMost_39 : decode cX6_fillMost 39 = .ok (.invokestatic 225, 3) := by decide +kernel
theorem dX6_fillMost_42 : decode cX6_fillMost 42 = .ok (.iconst 1, 1) := by decide +kernel
theorem dX6_fillMost_43 : decode cX6_fillMost 43 = .ok (.isub, 1) := by decide +kernel
theorem dX6_fillMost_44 : decode cX6_fillMost 44 = .ok (.istore_n 1, 1) := by decide +kernel
theorem dX6_fillMost_45 : decode cX6_fillMost 45 = .ok (.iload_n 1, 1) := by decide +kernel
theorem dX6_fillMost_46 : decode cX6_fillMost 46 = .ok (.ifCond .lt 46, 3) := by decide +kernel
theorem dX6_fillMost_49 : decode cX6_fillMost 49 = .ok (.aload_n 0, 1) := by decide +kernel
theorem dX6_fillMost_50 : decode cX6_fillMost 50 = .ok (.getfield 52, 3) := by decide +kernel
theorem dX6_fillMost_53 : decode cX6_fillMost 53 = .ok (.iload_n 1, 1) := by decide +kernel
theorem dX6_fillMost_54 : decode cX6_fillMost 54 = .ok (.aload_n 0, 1) := by decide +kernel
theorem dX6_fillMost_55 : decode cX6_fillMost 55 = .ok (.iload_n 1, 1) := by decide +kernel
theorem dX6_fillMost_56 : decode cX6_fillMost 56 = .ok (.invokevirtual 97, 3) := by decide +kernel
theorem dX6_fillMost_59 : decode cX6_fillMost 59 = .ok (.iastore, 1) := by decide +kernel
theorem dX6_fillMost_60 : decode cX6_fillMost 60 = .ok (.iconst 0, 1) := by decide +kernel
theorem dX6_fillMost_61 : decode cX6_fillMost 61 = .ok (.istore_n 2, 1) := by decide +kernel
theorem dX6_fillMost_62 : decode cX6_fillMost 62 = .ok (.iload_n 2, 1) := by decide +kernel
theorem dX6_fillMost_63 : decode cX6_fillMost 63 = .ok (.bipush 13, 2) := by decide +kernel
theorem dX6_fillMost_65 : decode cX6_fillMost 65 = .ok (.if_icmp .ge 21, 3) := by decide +kernel
theorem dX6_fillMost_68 : decode cX6_fillMost 68 = .ok (.aload_n 0, 1) := by decide +kernel
theorem dX6_fillMost_69 : decode cX6_fillMost 69 = .ok (.iload_n 1, 1) := by decide +kernel
theorem dX6_fillMost_70 : decode cX6_fillMost 70 = .ok (.iload_n 2, 1) := by decide +kernel
theorem dX6_fillMost_71 : decode cX6_fillMost 71 = .ok (.aload_n 0, 1) := by decide +kernel
theorem dX6_fillMost_72 : decode cX6_fillMost 72 = .ok (.iload_n 1, 1) := by decide +kernel
theorem dX6_fillMost_73 : decode cX6_fillMost 73 = .ok (.iload_n 2, 1) := by decide +kernel
theorem dX6_fillMost_74 : decode cX6_fillMost 74 = .ok (.invokevirtual 230, 3) := by decide +kernel
theorem dX6_fillMost_77 : decode cX6_fillMost 77 = .ok (.invokevirtual 221, 3) := by decide +kernel
theorem dX6_fillMost_80 : decode cX6_fillMost 80 = .ok (.iinc 2 1, 3) := by decide +kernel
theorem dX6_fillMost_83 : decode cX6_fillMost 83 = .ok (.goto (-21), 3) := by decide +kernel
theorem dX6_fillMost_86 : decode cX6_fillMost 86 = .ok (.iinc 1 (-1), 3) := by decide +kernel
theorem dX6_fillMost_89 : decode cX6_fillMost 89 = .ok (.goto (-44), 3) := by decide +kernel
theorem dX6_fillMost_92 : decode cX6_fillMost 92 = .ok (.return_, 1) := by decide +kernel
set_option maxRecDepth 20000 in
theorem ggX6_mostFrom_X6_worthWithPick : GoodIn wsX6_mostFrom wsX6_worthWithPick := goodIn_r _ [10, 11, 1, 12, 13, 14, 15, 9, 16, 17, 18, 19, 20, 21, 22, 23, 24, 25, 26, 27, 28, 29, 30, 31, 32, 33, 34, 35, 36, 37, 38, 39, 40, 41, 42, 43, 44, 45, 46, 47, 48, 49, 50, 51, 52, 53] (by decide +kernel) (by decide +kernel)
set_option maxRecDepth 20000 in
theorem gX6_mostFrom_X6_worthWithPick : GoodIn wsX6_mostFrom (wsV RX6 233 RX6 yX6_worthWithPick wsX6_worthWithPick) := goodIn_app (goodIn_of _ (by decide +kernel)) ggX6_mostFrom_X6_worthWithPick
theorem dX6_mostFrom_0 : decode cX6_mostFrom 0 = .ok (.ldc 136, 2) := by decide +kernel
theorem dX6_mostFrom_2 : decode cX6_mostFrom 2 = .ok (.istore_n 3, 1) := by decide +kernel
theorem dX6_mostFrom_3 : decode cX6_mostFrom 3 = .ok (.iconst 0, 1) := by decide +kernel
theorem dX6_mostFrom_4 : decode cX6_mostFrom 4 = .ok (.istore 4, 2) := by decide +kernel
theorem dX6_mostFrom_6 : decode cX6_mostFrom 6 = .ok (.iload 4, 2) := by decide +kernel
theorem dX6_mostFrom_8 : decode cX6_mostFrom 8 = .ok (.iload_n 2, 1) := by decide +kernel
theorem dX6_mostFrom_9 : decode cX6_mostFrom 9 = .ok (.if_icmp .gt 22, 3) := by decide +kernel
theorem dX6_mostFrom_12 : decode cX6_mostFrom 12 = .ok (.iload_n 3, 1) := by decide +kernel
theorem dX6_mostFrom_13 : decode cX6_mostFrom 13 = .ok (.aload_n 0, 1) := by decide +kernel
theorem dX6_mostFrom_14 : decode cX6_mostFrom 14 = .ok (.iload_n 1, 1) := by decide +kernel
theorem dX6_mostFrom_15 : decode cX6_mostFrom 15 = .ok (.iload_n 2, 1) := by decide +kernel
theorem dX6_mostFrom_16 : decode cX6_mostFrom 16 = .ok (.iload 4, 2) := by decide +kernel
theorem dX6_mostFrom_18 : decode cX6_mostFrom 18 = .ok (.invokevirtual 233, 3) := by decide +kernel
theorem dX6_mostFrom_21 : decode cX6_mostFrom 21 = .ok (.invokestatic 237, 3) := by decide +kernel
theorem dX6_mostFrom_24 : decode cX6_mostFrom 24 = .ok (.istore_n 3, 1) := by decide +kernel
theorem dX6_mostFrom_25 : decode cX6_mostFrom 25 = .ok (.iinc 4 1, 3) := by decide +kernel
theorem dX6_mostFrom_28 : decode cX6_mostFrom 28 = .ok (.goto (-22), 3) := by decide +kernel
theorem dX6_mostFrom_31 : decode cX6_mostFrom 31 = .ok (.iload_n 3, 1) := by decide +kernel
theorem dX6_mostFrom_32 : decode cX6_mostFrom 32 = .ok (.ireturn, 1) := by decide +kernel
set_option maxRecDepth 20000 in
theorem ggX6_worthWithPick_X6_mostWorth : GoodIn wsX6_worthWithPick wsX6_mostWorth := goodIn_r _ [8, 9, 2, 10, 11, 7, 12, 25, 26, 27, 28, 29, 30, 31, 32, 33, 34, 35, 36] (by decide +kernel) (by decide +kernel)
set_option maxRecDepth 20000 in
theorem gX6_worthWithPick_X6_mostWorth : GoodIn wsX6_worthWithPick (wsV RX6 133 RX6 yX6_mostWorth wsX6_mostWorth) := goodIn_app (goodIn_of _ (by decide +kernel)) ggX6_worthWithPick_X6_mostWorth
set_option maxRecDepth 20000 in
theorem ggX6_worthWithPick_X6_find : GoodIn wsX6_worthWithPick wsX6_find := goodIn_r _ [16, 17, 18, 25, 26, 27, 28, 29, 30, 31, 32, 33, 34, 35, 36] (by decide +kernel) (by decide +kernel)
set_option maxRecDepth 20000 in
theorem gX6_worthWithPick_X6_find : GoodIn wsX6_worthWithPick (wsV RX6 75 RX6 yX6_find wsX6_find) := goodIn_app (goodIn_of _ (by decide +kernel)) ggX6_worthWithPick_X6_find
set_option maxRecDepth 20000 in
theorem ggX6_worthWithPick_X1_spoonsOf : GoodIn wsX6_worthWithPick wsX1_spoonsOf := goodIn_r _ [23, 24, 37, 38, 39, 40, 41, 42, 43, 44, 45] (by decide +kernel) (by decide +kernel)
set_option maxRecDepth 20000 in
theorem gX6_worthWithPick_X1_spoonsOf : GoodIn wsX6_worthWithPick (wsV RX6 88 RX1 yX1_spoonsOf wsX1_spoonsOf) := goodIn_app (goodIn_of _ (by decide +kernel)) ggX6_worthWithPick_X1_spoonsOf
theorem dX6_worthWithPick_0 : decode cX6_worthWithPick 0 = .ok (.aload_n 0, 1) := by decide +kernel
theorem dX6_worthWithPick_1 : decode cX6_worthWithPick 1 = .ok (.iload_n 1, 1) := by decide +kernel
theorem dX6_worthWithPick_2 : decode cX6_worthWithPick 2 = .ok (.iconst 1, 1) := by decide +kernel
theorem dX6_worthWithPick_3 : decode cX6_worthWithPick 3 = .ok (.iadd, 1) := by decide +kernel
theorem dX6_worthWithPick_4 : decode cX6_worthWithPick 4 = .ok (.iload_n 2, 1) := by decide +kernel
theorem dX6_worthWithPick_5 : decode cX6_worthWithPick 5 = .ok (.iload_n 3, 1) := by decide +kernel
theorem dX6_worthWithPick_6 : decode cX6_worthWithPick 6 = .ok (.isub, 1) := by decide +kernel
theorem dX6_worthWithPick_7 : decode cX6_worthWithPick 7 = .ok (.invokevirtual 133, 3) := by decide +kernel
theorem dX6_worthWithPick_10 : decode cX6_worthWithPick 10 = .ok (.istore 4, 2) := by decide +kernel
theorem dX6_worthWithPick_12 : decode cX6_worthWithPick 12 = .ok (.aload_n 0, 1) := by decide +kernel
theorem dX6_worthWithPick_13 : decode cX6_worthWithPick 13 = .ok (.iload_n 1, 1) := by decide +kernel
theorem dX6_worthWithPick_14 : decode cX6_worthWithPick 14 = .ok (.invokevirtual 75, 3) := by decide +kernel
theorem dX6_worthWithPick_17 : decode cX6_worthWithPick 17 = .ok (.ifnull 22, 3) := by decide +kernel
theorem dX6_worthWithPick_20 : decode cX6_worthWithPick 20 = .ok (.iload_n 3, 1) := by decide +kernel
theorem dX6_worthWithPick_21 : decode cX6_worthWithPick 21 = .ok (.aload_n 0, 1) := by decide +kernel
theorem dX6_worthWithPick_22 : decode cX6_worthWithPick 22 = .ok (.getfield 29, 3) := by decide +kernel
theorem dX6_worthWithPick_25 : decode cX6_worthWithPick 25 = .ok (.iload_n 1, 1) := by decide +kernel
theorem dX6_worthWithPick_26 : decode cX6_worthWithPick 26 = .ok (.invokevirtual 88, 3) := by decide +kernel
theorem dX6_worthWithPick_29 : decode cX6_worthWithPick 29 = .ok (.if_icmp .gt 10, 3) := by decide +kernel
theorem dX6_worthWithPick_32 : decode cX6_worthWithPick 32 = .ok (.iload 4, 2) := by decide +kernel
theorem dX6_worthWithPick_34 : decode cX6_worthWithPick 34 = .ok (.ldc 136, 2) := by decide +kernel
theorem dX6_worthWithPick_36 : decode cX6_worthWithPick 36 = .ok (.if_icmp .ne 6, 3) := by decide +kernel
theorem dX6_worthWithPick_39 : decode cX6_worthWithPick 39 = .ok (.ldc 136, 2) := by decide +kernel
theorem dX6_worthWithPick_41 : decode cX6_worthWithPick 41 = .ok (.ireturn, 1) := by decide +kernel
theorem dX6_worthWithPick_42 : decode cX6_worthWithPick 42 = .ok (.iload_n 3, 1) := by decide +kernel
theorem dX6_worthWithPick_43 : decode cX6_worthWithPick 43 = .ok (.aload_n 0, 1) := by decide +kernel
theorem dX6_worthWithPick_44 : decode cX6_worthWithPick 44 = .ok (.getfield 52, 3) := by decide +kernel
theorem dX6_worthWithPick_47 : decode cX6_worthWithPick 47 = .ok (.iload_n 1, 1) := by decide +kernel
theorem dX6_worthWithPick_48 : decode cX6_worthWithPick 48 = .ok (.iaload, 1) := by decide +kernel
theorem dX6_worthWithPick_49 : decode cX6_worthWithPick 49 = .ok (.imul, 1) := by decide +kernel
theorem dX6_worthWithPick_50 : decode cX6_worthWithPick 50 = .ok (.iload_n 3, 1) := by decide +kernel
theorem dX6_worthWithPick_51 : decode cX6_worthWithPick 51 = .ok (.iload_n 3, 1) := by decide +kernel
theorem dX6_worthWithPick_52 : decode cX6_worthWithPick 52 = .ok (.iconst 1, 1) := by decide +kernel
theorem dX6_worthWithPick_53 : decode cX6_worthWithPick 53 = .ok (.isub, 1) := by decide +kernel
theorem dX6_worthWithPick_54 : decode cX6_worthWithPick 54 = .ok (.imul, 1) := by decide +kernel
theorem dX6_worthWithPick_55 : decode cX6_worthWithPick 55 = .ok (.iconst 2, 1) := by decide +kernel
theorem dX6_worthWithPick_56 : decode cX6_worthWithPick 56 = .ok (.idiv, 1) := by decide +kernel
theorem dX6_worthWithPick_57 : decode cX6_worthWithPick 57 = .ok (.isub, 1) := by decide +kernel
theorem dX6_worthWithPick_58 : decode cX6_worthWithPick 58 = .ok (.iload 4, 2) := by decide +kernel
theorem dX6_worthWithPick_60 : decode cX6_worthWithPick 60 = .ok (.iadd, 1) := by decide +kernel
theorem dX6_worthWithPick_61 : decode cX6_worthWithPick 61 = .ok (.ireturn, 1) := by decide +kernel
set_option maxRecDepth 20000 in
theorem ggX6_pickOf_X6_find : GoodIn wsX6_pickOf wsX6_find := goodIn_r _ [5, 6, 7, 33, 34, 35, 36, 37, 38, 39, 40, 41, 42, 43, 44] (by decide +kernel) (by decide +kernel)
set_option maxRecDepth 20000 in
theorem gX6_pickOf_X6_find : GoodIn wsX6_pickOf (wsV RX6 75 RX6 yX6_find wsX6_find) := goodIn_app (goodIn_of _ (by decide +kernel)) ggX6_pickOf_X6_find
set_option maxRecDepth 20000 in
theorem ggX6_pickOf_X6_fewestPick : GoodIn wsX6_pickOf wsX6_fewestPick := goodIn_r _ [11, 12, 13, 14, 4, 15, 16, 17, 18, 19, 20, 21, 22, 23, 24, 25, 26, 1, 2, 3, 5, 6, 7, 27, 28, 29, 30, 31, 32, 33, 34, 35, 36, 37, 38, 39, 40, 41, 42, 43, 44, 45, 46, 47, 48, 49, 50, 51, 52, 53] (by decide +kernel) (by decide +kernel)
set_option maxRecDepth 20000 in
theorem gX6_pickOf_X6_fewestPick : GoodIn wsX6_pickOf (wsV RX6 240 RX6 yX6_fewestPick wsX6_fewestPick) := goodIn_app (goodIn_of _ (by decide +kernel)) ggX6_pickOf_X6_fewestPick
theorem dX6_pickOf_0 : decode cX6_pickOf 0 = .ok (.aload_n 0, 1) := by decide +kernel
theorem dX6_pickOf_1 : decode cX6_pickOf 1 = .ok (.iload_n 1, 1) := by decide +kernel
theorem dX6_pickOf_2 : decode cX6_pickOf 2 = .ok (.invokevirtual 75, 3) := by decide +kernel
theorem dX6_pickOf_5 : decode cX6_pickOf 5 = .ok (.ifnonnull 5, 3) := by decide +kernel
theorem dX6_pickOf_8 : decode cX6_pickOf 8 = .ok (.iconst (-1), 1) := by decide +kernel
theorem dX6_pickOf_9 : decode cX6_pickOf 9 = .ok (.ireturn, 1) := by decide +kernel
theorem dX6_pickOf_10 : decode cX6_pickOf 10 = .ok (.iload_n 2, 1) := by decide +kernel
theorem dX6_pickOf_11 : decode cX6_pickOf 11 = .ok (.istore_n 3, 1) := by decide +kernel
theorem dX6_pickOf_12 : decode cX6_pickOf 12 = .ok (.iconst 0, 1) := by decide +kernel
theorem dX6_pickOf_13 : decode cX6_pickOf 13 = .ok (.istore 4, 2) := by decide +kernel
theorem dX6_pickOf_15 : decode cX6_pickOf 15 = .ok (.iload 4, 2) := by decide +kernel
theorem dX6_pickOf_17 : decode cX6_pickOf 17 = .ok (.iload_n 1, 1) := by decide +kernel
theorem dX6_pickOf_18 : decode cX6_pickOf 18 = .ok (.if_icmp .ge 19, 3) := by decide +kernel
theorem dX6_pickOf_21 : decode cX6_pickOf 21 = .ok (.iload_n 3, 1) := by decide +kernel
theorem dX6_pickOf_22 : decode cX6_pickOf 22 = .ok (.aload_n 0, 1) := by decide +kernel
theorem dX6_pickOf_23 : decode cX6_pickOf 23 = .ok (.iload 4, 2) := by decide +kernel
theorem dX6_pickOf_25 : decode cX6_pickOf 25 = .ok (.iload_n 3, 1) := by decide +kernel
theorem dX6_pickOf_26 : decode cX6_pickOf 26 = .ok (.invokevirtual 240, 3) := by decide +kernel
theorem dX6_pickOf_29 : decode cX6_pickOf 29 = .ok (.isub, 1) := by decide +kernel
theorem dX6_pickOf_30 : decode cX6_pickOf 30 = .ok (.istore_n 3, 1) := by decide +kernel
theorem dX6_pickOf_31 : decode cX6_pickOf 31 = .ok (.iinc 4 1, 3) := by decide +kernel
theorem dX6_pickOf_34 : decode cX6_pickOf 34 = .ok (.goto (-19), 3) := by decide +kernel
theorem dX6_pickOf_37 : decode cX6_pickOf 37 = .ok (.aload_n 0, 1) := by decide +kernel
theorem dX6_pickOf_38 : decode cX6_pickOf 38 = .ok (.iload_n 1, 1) := by decide +kernel
theorem dX6_pickOf_39 : decode cX6_pickOf 39 = .ok (.iload_n 3, 1) := by decide +kernel
theorem dX6_pickOf_40 : decode cX6_pickOf 40 = .ok (.invokevirtual 240, 3) := by decide +kernel
theorem dX6_pickOf_43 : decode cX6_pickOf 43 = .ok (.ireturn, 1) := by decide +kernel
set_option maxRecDepth 20000 in
theorem ggX6_fewestPick_X6_worthWithPick : GoodIn wsX6_fewestPick wsX6_worthWithPick := goodIn_r _ [5, 6, 7, 8, 9, 10, 11, 4, 12, 13, 14, 15, 16, 17, 18, 19, 20, 21, 22, 23, 24, 25, 26, 27, 28, 29, 30, 31, 32, 33, 34, 35, 36, 37, 38, 39, 40, 41, 42, 43, 44, 45, 46, 47, 48, 49] (by decide +kernel) (by decide +kernel)
set_option maxRecDepth 20000 in
theorem gX6_fewestPick_X6_worthWithPick : GoodIn wsX6_fewestPick (wsV RX6 233 RX6 yX6_worthWithPick wsX6_worthWithPick) := goodIn_app (goodIn_of _ (by decide +kernel)) ggX6_fewestPick_X6_worthWithPick
set_option maxRecDepth 20000 in
theorem ggX6_fewestPick_X6_mostWorth : GoodIn wsX6_fewestPick wsX6_mostWorth := goodIn_r _ [12, 13, 7, 14, 15, 4, 16, 29, 30, 31, 32, 33, 34, 35, 36, 37, 38, 39, 40] (by decide +kernel) (by decide +kernel)
set_option maxRecDepth 20000 in
theorem gX6_fewestPick_X6_mostWorth : GoodIn wsX6_fewestPick (wsV RX6 133 RX6 yX6_mostWorth wsX6_mostWorth) := goodIn_app (goodIn_of _ (by decide +kernel)) ggX6_fewestPick_X6_mostWorth
theorem dX6_fewestPick_0 : decode cX6_fewestPick 0 = .ok (.iconst 0, 1) := by decide +kernel
theorem dX6_fewestPick_1 : decode cX6_fewestPick 1 = .ok (.istore_n 3, 1) := by decide +kernel
theorem dX6_fewestPick_2 : decode cX6_fewestPick 2 = .ok (.iload_n 3, 1) := by decide +kernel
theorem dX6_fewestPick_3 : decode cX6_fewestPick 3 = .ok (.iload_n 2, 1) := by decide +kernel
theorem dX6_fewestPick_4 : decode cX6_fewestPick 4 = .ok (.if_icmp .ge 27, 3) := by decide +kernel
theorem dX6_fewestPick_7 : decode cX6_fewestPick 7 = .ok (.aload_n 0, 1) := by decide +kernel
theorem dX6_fewestPick_8 : decode cX6_fewestPick 8 = .ok (.iload_n 1, 1) := by decide +kernel
theorem dX6_fewestPick_9 : decode cX6_fewestPick 9 = .ok (.iload_n 2, 1) := by decide +kernel
theorem dX6_fewestPick_10 : decode cX6_fewestPick 10 = .ok (.iload_n 3, 1) := by decide +kernel
theorem dX6_fewestPick_11 : decode cX6_fewestPick 11 = .ok (.invokevirtual 233, 3) := by decide +kernel
theorem dX6_fewestPick_14 : decode cX6_fewestPick 14 = .ok (.aload_n 0, 1) := by decide +kernel
theorem dX6_fewestPick_15 : decode cX6_fewestPick 15 = .ok (.iload_n 1, 1) := by decide +kernel
theorem dX6_fewestPick_16 : decode cX6_fewestPick 16 = .ok (.iload_n 2, 1) := by decide +kernel
theorem dX6_fewestPick_17 : decode cX6_fewestPick 17 = .ok (.invokevirtual 133, 3) := by decide +kernel
theorem dX6_fewestPick_20 : decode cX6_fewestPick 20 = .ok (.if_icmp .ne 5, 3) := by decide +kernel
theorem dX6_fewestPick_23 : decode cX6_fewestPick 23 = .ok (.iload_n 3, 1) := by decide +kernel
theorem dX6_fewestPick_24 : decode cX6_fewestPick 24 = .ok (.ireturn, 1) := by decide +kernel
theorem dX6_fewestPick_25 : decode cX6_fewestPick 25 = .ok (.iinc 3 1, 3) := by decide +kernel
theorem dX6_fewestPick_28 : decode cX6_fewestPick 28 = .ok (.goto (-26), 3) := by decide +kernel
theorem dX6_fewestPick_31 : decode cX6_fewestPick 31 = .ok (.iload_n 2, 1) := by decide +kernel
theorem dX6_fewestPick_32 : decode cX6_fewestPick 32 = .ok (.ireturn, 1) := by decide +kernel
theorem dX6_isInMost_0 : decode cX6_isInMost 0 = .ok (.iload_n 0, 1) := by decide +kernel
theorem dX6_isInMost_1 : decode cX6_isInMost 1 = .ok (.ifCond .lt 23, 3) := by decide +kernel
theorem dX6_isInMost_4 : decode cX6_isInMost 4 = .ok (.iload_n 0, 1) := by decide +kernel
theorem dX6_isInMost_5 : decode cX6_isInMost 5 = .ok (.bipush 6, 2) := by decide +kernel
theorem dX6_isInMost_7 : decode cX6_isInMost 7 = .ok (.if_icmp .gt 17, 3) := by decide +kernel
theorem dX6_isInMost_10 : decode cX6_isInMost 10 = .ok (.iload_n 1, 1) := by decide +kernel
theorem dX6_isInMost_11 : decode cX6_isInMost 11 = .ok (.ifCond .lt 13, 3) := by decide +kernel
theorem dX6_isInMost_14 : decode cX6_isInMost 14 = .ok (.iload_n 1, 1) := by decide +kernel
theorem dX6_isInMost_15 : decode cX6_isInMost 15 = .ok (.bipush 13, 2) := by decide +kernel
theorem dX6_isInMost_17 : decode cX6_isInMost 17 = .ok (.if_icmp .ge 7, 3) := by decide +kernel
theorem dX6_isInMost_20 : decode cX6_isInMost 20 = .ok (.iconst 1, 1) := by decide +kernel
theorem dX6_isInMost_21 : decode cX6_isInMost 21 = .ok (.goto 4, 3) := by decide +kernel
theorem dX6_isInMost_24 : decode cX6_isInMost 24 = .ok (.iconst 0, 1) := by decide +kernel
theorem dX6_isInMost_25 : decode cX6_isInMost 25 = .ok (.ireturn, 1) := by decide +kernel
set_option maxRecDepth 20000 in
theorem ggX6_mostWorth_X6_isInMost : GoodIn wsX6_mostWorth wsX6_isInMost := goodIn_r _ [6] (by decide +kernel) (by decide +kernel)
set_option maxRecDepth 20000 in
theorem gX6_mostWorth_X6_isInMost : GoodIn wsX6_mostWorth (va_wsS RX6 243 yX6_isInMost wsX6_isInMost) := goodIn_app (goodIn_of _ (by decide +kernel)) ggX6_mostWorth_X6_isInMost
theorem dX6_mostWorth_0 : decode cX6_mostWorth 0 = .ok (.iload_n 1, 1) := by decide +kernel
theorem dX6_mostWorth_1 : decode cX6_mostWorth 1 = .ok (.iload_n 2, 1) := by decide +kernel
theorem dX6_mostWorth_2 : decode cX6_mostWorth 2 = .ok (.invokestatic 243, 3) := by decide +kernel
theorem dX6_mostWorth_5 : decode cX6_mostWorth 5 = .ok (.ifCond .eq 17, 3) := by decide +kernel
theorem dX6_mostWorth_8 : decode cX6_mostWorth 8 = .ok (.aload_n 0, 1) := by decide +kernel
theorem dX6_mostWorth_9 : decode cX6_mostWorth 9 = .ok (.getfield 49, 3) := by decide +kernel
theorem dX6_mostWorth_12 : decode cX6_mostWorth 12 = .ok (.iload_n 1, 1) := by decide +kernel
theorem dX6_mostWorth_13 : decode cX6_mostWorth 13 = .ok (.bipush 13, 2) := by decide +kernel
theorem dX6_mostWorth_15 : decode cX6_mostWorth 15 = .ok (.imul, 1) := by decide +kernel
theorem dX6_mostWorth_16 : decode cX6_mostWorth 16 = .ok (.iload_n 2, 1) := by decide +kernel
theorem dX6_mostWorth_17 : decode cX6_mostWorth 17 = .ok (.iadd, 1) := by decide +kernel
theorem dX6_mostWorth_18 : decode cX6_mostWorth 18 = .ok (.iaload, 1) := by decide +kernel
theorem dX6_mostWorth_19 : decode cX6_mostWorth 19 = .ok (.goto 5, 3) := by decide +kernel
theorem dX6_mostWorth_22 : decode cX6_mostWorth 22 = .ok (.ldc 136, 2) := by decide +kernel
theorem dX6_mostWorth_24 : decode cX6_mostWorth 24 = .ok (.ireturn, 1) := by decide +kernel
set_option maxRecDepth 20000 in
theorem ggX6_setMost_X6_isInMost : GoodIn wsX6_setMost wsX6_isInMost := goodIn_r _ [5] (by decide +kernel) (by decide +kernel)
set_option maxRecDepth 20000 in
theorem gX6_setMost_X6_isInMost : GoodIn wsX6_setMost (va_wsS RX6 243 yX6_isInMost wsX6_isInMost) := goodIn_app (goodIn_of _ (by decide +kernel)) ggX6_setMost_X6_isInMost
theorem dX6_setMost_0 : decode cX6_setMost 0 = .ok (.iload_n 1, 1) := by decide +kernel
theorem dX6_setMost_1 : decode cX6_setMost 1 = .ok (.iload_n 2, 1) := by decide +kernel
theorem dX6_setMost_2 : decode cX6_setMost 2 = .ok (.invokestatic 243, 3) := by decide +kernel
theorem dX6_setMost_5 : decode cX6_setMost 5 = .ok (.ifCond .eq 15, 3) := by decide +kernel
theorem dX6_setMost_8 : decode cX6_setMost 8 = .ok (.aload_n 0, 1) := by decide +kernel
theorem dX6_setMost_9 : decode cX6_setMost 9 = .ok (.getfield 49, 3) := by decide +kernel
theorem dX6_setMost_12 : decode cX6_setMost 12 = .ok (.iload_n 1, 1) := by decide +kernel
theorem dX6_setMost_13 : decode cX6_setMost 13 = .ok (.bipush 13, 2) := by decide +kernel
theorem dX6_setMost_15 : decode cX6_setMost 15 = .ok (.imul, 1) := by decide +kernel
theorem dX6_setMost_16 : decode cX6_setMost 16 = .ok (.iload_n 2, 1) := by decide +kernel
theorem dX6_setMost_17 : decode cX6_setMost 17 = .ok (.iadd, 1) := by decide +kernel
theorem dX6_setMost_18 : decode cX6_setMost 18 = .ok (.iload_n 3, 1) := by decide +kernel
theorem dX6_setMost_19 : decode cX6_setMost 19 = .ok (.iastore, 1) := by decide +kernel
theorem dX6_setMost_20 : decode cX6_setMost 20 = .ok (.return_, 1) := by decide +kernel
set_option maxRecDepth 20000 in
theorem ggX6_candidates_X6_agreesWithTastes : GoodIn wsX6_candidates wsX6_agreesWithTastes := goodIn_r _ [6, 7, 8, 9, 10, 11, 12, 13, 5, 14, 15, 16, 17, 18, 1, 19, 20, 21, 22, 23, 24, 25, 26, 27, 28, 29, 30, 31, 32, 33, 34, 35, 36, 37, 38, 39, 40, 41, 42, 43, 44, 45, 46, 47, 48, 49, 50, 51, 52, 53, 54, 55, 56, 57, 58, 59, 60, 61, 62, 63, 64, 65, 66, 67, 68, 69, 70, 71, 72, 73, 74, 75, 76, 77, 78, 79, 80, 81, 82, 83, 84, 85, 86, 87, 88, 89, 90, 91, 92, 93, 94, 95] (by decide +kernel) (by decide +kernel)
set_option maxRecDepth 20000 in
theorem gX6_candidates_X6_agreesWithTastes : GoodIn wsX6_candidates (wsV RX6 246 RX6 yX6_agreesWithTastes wsX6_agreesWithTastes) := goodIn_app (goodIn_of _ (by decide +kernel)) ggX6_candidates_X6_agreesWithTastes
theorem dX6_candidates_0 : decode cX6_candidates 0 = .ok (.iconst 0, 1) := by decide +kernel
theorem dX6_candidates_1 : decode cX6_candidates 1 = .ok (.istore_n 1, 1) := by decide +kernel
theorem dX6_candidates_2 : decode cX6_candidates 2 = .ok (.iconst 0, 1) := by decide +kernel
theorem dX6_candidates_3 : decode cX6_candidates 3 = .ok (.istore_n 2, 1) := by decide +kernel
theorem dX6_candidates_4 : decode cX6_candidates 4 = .ok (.iload_n 2, 1) := by decide +kernel
theorem dX6_candidates_5 : decode cX6_candidates 5 = .ok (.aload_n 0, 1) := by decide +kernel
theorem dX6_candidates_6 : decode cX6_candidates 6 = .ok (.getfield 23, 3) := by decide +kernel
theorem dX6_candidates_9 : decode cX6_candidates 9 = .ok (.if_icmp .ge 23, 3) := by decide +kernel
theorem dX6_candidates_12 : decode cX6_candidates 12 = .ok (.aload_n 0, 1) := by decide +kernel
theorem dX6_candidates_13 : decode cX6_candidates 13 = .ok (.iload_n 2, 1) := by decide +kernel
theorem dX6_candidates_14 : decode cX6_candidates 14 = .ok (.invokevirtual 246, 3) := by decide +kernel
theorem dX6_candidates_17 : decode cX6_candidates 17 = .ok (.ifCond .eq 9, 3) := by decide +kernel
theorem dX6_candidates_20 : decode cX6_candidates 20 = .ok (.iload_n 1, 1) := by decide +kernel
theorem dX6_candidates_21 : decode cX6_candidates 21 = .ok (.iconst 1, 1) := by decide +kernel
theorem dX6_candidates_22 : decode cX6_candidates 22 = .ok (.iload_n 2, 1) := by decide +kernel
theorem dX6_candidates_23 : decode cX6_candidates 23 = .ok (.ishl, 1) := by decide +kernel
theorem dX6_candidates_24 : decode cX6_candidates 24 = .ok (.ior, 1) := by decide +kernel
theorem dX6_candidates_25 : decode cX6_candidates 25 = .ok (.istore_n 1, 1) := by decide +kernel
theorem dX6_candidates_26 : decode cX6_candidates 26 = .ok (.iinc 2 1, 3) := by decide +kernel
theorem dX6_candidates_29 : decode cX6_candidates 29 = .ok (.goto (-25), 3) := by decide +kernel
theorem dX6_candidates_32 : decode cX6_candidates 32 = .ok (.iload_n 1, 1) := by decide +kernel
theorem dX6_candidates_33 : decode cX6_candidates 33 = .ok (.ireturn, 1) := by decide +kernel
set_option maxRecDepth 20000 in
theorem ggX6_agreesWithTastes_X6_firstWorth : GoodIn wsX6_agreesWithTastes wsX6_firstWorth := goodIn_r _ [9, 10, 11, 12, 8, 13, 14, 15, 16, 17, 18, 19, 20, 21, 22, 23, 24, 25, 26, 27, 28, 29, 30, 31, 32, 33, 34, 35, 36, 37, 38, 39, 40, 41, 42, 43, 44, 45, 46, 47, 48, 49, 50, 51, 52, 53, 54, 55, 56, 57, 58, 59, 60, 61, 62, 63, 64, 65, 66, 67, 77, 78, 79, 80, 81, 82, 83, 84, 85, 86, 87, 88, 89, 90, 91] (by decide +kernel) (by decide +kernel)
set_option maxRecDepth 20000 in
theorem gX6_agreesWithTastes_X6_firstWorth : GoodIn wsX6_agreesWithTastes (wsV RX6 114 RX6 yX6_firstWorth wsX6_firstWorth) := goodIn_app (goodIn_of _ (by decide +kernel)) ggX6_agreesWithTastes_X6_firstWorth
theorem dX6_agreesWithTastes_0 : decode cX6_agreesWithTastes 0 = .ok (.iconst 0, 1) := by decide +kernel
theorem dX6_agreesWithTastes_1 : decode cX6_agreesWithTastes 1 = .ok (.istore_n 2, 1) := by decide +kernel
theorem dX6_agreesWithTastes_2 : decode cX6_agreesWithTastes 2 = .ok (.iload_n 2, 1) := by decide +kernel
theorem dX6_agreesWithTastes_3 : decode cX6_agreesWithTastes 3 = .ok (.aload_n 0, 1) := by decide +kernel
theorem dX6_agreesWithTastes_4 : decode cX6_agreesWithTastes 4 = .ok (.getfield 29, 3) := by decide +kernel
theorem dX6_agreesWithTastes_7 : decode cX6_agreesWithTastes 7 = .ok (.getfield 143, 3) := by decide +kernel
theorem dX6_agreesWithTastes_10 : decode cX6_agreesWithTastes 10 = .ok (.if_icmp .ge 43, 3) := by decide +kernel
theorem dX6_agreesWithTastes_13 : decode cX6_agreesWithTastes 13 = .ok (.iload_n 2, 1) := by decide +kernel
theorem dX6_agreesWithTastes_14 : decode cX6_agreesWithTastes 14 = .ok (.bipush 6, 2) := by decide +kernel
theorem dX6_agreesWithTastes_16 : decode cX6_agreesWithTastes 16 = .ok (.if_icmp .ge 37, 3) := by decide +kernel
theorem dX6_agreesWithTastes_19 : decode cX6_agreesWithTastes 19 = .ok (.aload_n 0, 1) := by decide +kernel
theorem dX6_agreesWithTastes_20 : decode cX6_agreesWithTastes 20 = .ok (.iload_n 1, 1) := by decide +kernel
theorem dX6_agreesWithTastes_21 : decode cX6_agreesWithTastes 21 = .ok (.aload_n 0, 1) := by decide +kernel
theorem dX6_agreesWithTastes_22 : decode cX6_agreesWithTastes 22 = .ok (.getfield 29, 3) := by decide +kernel
theorem dX6_agreesWithTastes_25 : decode cX6_agreesWithTastes 25 = .ok (.getfield 249, 3) := by decide +kernel
theorem dX6_agreesWithTastes_28 : decode cX6_agreesWithTastes 28 = .ok (.iload_n 2, 1) := by decide +kernel
theorem dX6_agreesWithTastes_29 : decode cX6_agreesWithTastes 29 = .ok (.iaload, 1) := by decide +kernel
theorem dX6_agreesWithTastes_30 : decode cX6_agreesWithTastes 30 = .ok (.invokevirtual 114, 3) := by decide +kernel
theorem dX6_agreesWithTastes_33 : decode cX6_agreesWithTastes 33 = .ok (.aload_n 0, 1) := by decide +kernel
theorem dX6_agreesWithTastes_34 : decode cX6_agreesWithTastes 34 = .ok (.getfield 29, 3) := by decide +kernel
theorem dX6_agreesWithTastes_37 : decode cX6_agreesWithTastes 37 = .ok (.getfield 252, 3) := by decide +kernel
theorem dX6_agreesWithTastes_40 : decode cX6_agreesWithTastes 40 = .ok (.iload_n 2, 1) := by decide +kernel
theorem dX6_agreesWithTastes_41 : decode cX6_agreesWithTastes 41 = .ok (.iaload, 1) := by decide +kernel
theorem dX6_agreesWithTastes_42 : decode cX6_agreesWithTastes 42 = .ok (.if_icmp .eq 5, 3) := by decide +kernel
theorem dX6_agreesWithTastes_45 : decode cX6_agreesWithTastes 45 = .ok (.iconst 0, 1) := by decide +kernel
theorem dX6_agreesWithTastes_46 : decode cX6_agreesWithTastes 46 = .ok (.ireturn, 1) := by decide +kernel
theorem dX6_agreesWithTastes_47 : decode cX6_agreesWithTastes 47 = .ok (.iinc 2 1, 3) := by decide +kernel
theorem dX6_agreesWithTastes_50 : decode cX6_agreesWithTastes 50 = .ok (.goto (-48), 3) := by decide +kernel
theorem dX6_agreesWithTastes_53 : decode cX6_agreesWithTastes 53 = .ok (.iconst 1, 1) := by decide +kernel
theorem dX6_agreesWithTastes_54 : decode cX6_agreesWithTastes 54 = .ok (.ireturn, 1) := by decide +kernel
set_option maxRecDepth 20000 in
theorem ggX6_leftAtWorst_X6_isOpen : GoodIn wsX6_leftAtWorst wsX6_isOpen := goodIn_r _ [9] (by decide +kernel) (by decide +kernel)
set_option maxRecDepth 20000 in
theorem gX6_leftAtWorst_X6_isOpen : GoodIn wsX6_leftAtWorst (va_wsS RX6 255 yX6_isOpen wsX6_isOpen) := goodIn_app (goodIn_of _ (by decide +kernel)) ggX6_leftAtWorst_X6_isOpen
set_option maxRecDepth 20000 in
theorem ggX6_leftAtWorst_X6_openJarsLike : GoodIn wsX6_leftAtWorst wsX6_openJarsLike := goodIn_r _ [13, 1, 6, 7, 8, 9, 14, 15, 16, 17, 18, 19, 20, 21, 22, 23, 24, 25, 26, 27, 28, 29, 30, 31, 32, 33, 34, 35, 36, 37, 38, 39, 40, 41, 42, 43, 44, 45, 46, 47, 48, 49, 50, 51, 52, 53, 54, 55, 56, 57, 58, 59, 60, 61, 62, 63, 64, 65, 66, 67, 68, 69, 70, 71, 72, 73, 74, 75, 76, 77, 78, 79, 80, 81, 82, 83, 84, 85, 86, 87, 88, 89] (by decide +kernel) (by decide +kernel)
set_option maxRecDepth 20000 in
theorem gX6_leftAtWorst_X6_openJarsLike : GoodIn wsX6_leftAtWorst (wsV RX6 258 RX6 yX6_openJarsLike wsX6_openJarsLike) := goodIn_app (goodIn_of _ (by decide +kernel)) ggX6_leftAtWorst_X6_openJarsLike
theorem dX6_leftAtWorst_0 : decode cX6_leftAtWorst 0 = .ok (.iconst 0, 1) := by decide +kernel
theorem dX6_leftAtWorst_1 : decode cX6_leftAtWorst 1 = .ok (.istore_n 3, 1) := by decide +kernel
theorem dX6_leftAtWorst_2 : decode cX6_leftAtWorst 2 = .ok (.iconst 0, 1) := by decide +kernel
theorem dX6_leftAtWorst_3 : decode cX6_leftAtWorst 3 = .ok (.istore 4, 2) := by decide +kernel
theorem dX6_leftAtWorst_5 : decode cX6_leftAtWorst 5 = .ok (.iload 4, 2) := by decide +kernel
theorem dX6_leftAtWorst_7 : decode cX6_leftAtWorst 7 = .ok (.aload_n 0, 1) := by decide +kernel
theorem dX6_leftAtWorst_8 : decode cX6_leftAtWorst 8 = .ok (.getfield 23, 3) := by decide +kernel
theorem dX6_leftAtWorst_11 : decode cX6_leftAtWorst 11 = .ok (.if_icmp .ge 31, 3) := by decide +kernel
theorem dX6_leftAtWorst_14 : decode cX6_leftAtWorst 14 = .ok (.iload_n 1, 1) := by decide +kernel
theorem dX6_leftAtWorst_15 : decode cX6_leftAtWorst 15 = .ok (.iload 4, 2) := by decide +kernel
theorem dX6_leftAtWorst_17 : decode cX6_leftAtWorst 17 = .ok (.invokestatic 255, 3) := by decide +kernel
theorem dX6_leftAtWorst_20 : decode cX6_leftAtWorst 20 = .ok (.ifCond .eq 16, 3) := by decide +kernel
theorem dX6_leftAtWorst_23 : decode cX6_leftAtWorst 23 = .ok (.iload_n 3, 1) := by decide +kernel
theorem dX6_leftAtWorst_24 : decode cX6_leftAtWorst 24 = .ok (.aload_n 0, 1) := by decide +kernel
theorem dX6_leftAtWorst_25 : decode cX6_leftAtWorst 25 = .ok (.iload 4, 2) := by decide +kernel
theorem dX6_leftAtWorst_27 : decode cX6_leftAtWorst 27 = .ok (.iload_n 1, 1) := by decide +kernel
theorem dX6_leftAtWorst_28 : decode cX6_leftAtWorst 28 = .ok (.iload_n 2, 1) := by decide +kernel
theorem dX6_leftAtWorst_29 : decode cX6_leftAtWorst 29 = .ok (.invokevirtual 258, 3) := by decide +kernel
theorem dX6_leftAtWorst_32 : decode cX6_leftAtWorst 32 = .ok (.invokestatic 237, 3) := by decide +kernel
theorem dX6_leftAtWorst_35 : decode cX6_leftAtWorst 35 = .ok (.istore_n 3, 1) := by decide +kernel
theorem dX6_leftAtWorst_36 : decode cX6_leftAtWorst 36 = .ok (.iinc 4 1, 3) := by decide +kernel
theorem dX6_leftAtWorst_39 : decode cX6_leftAtWorst 39 = .ok (.goto (-34), 3) := by decide +kernel
theorem dX6_leftAtWorst_42 : decode cX6_leftAtWorst 42 = .ok (.iload_n 3, 1) := by decide +kernel
theorem dX6_leftAtWorst_43 : decode cX6_leftAtWorst 43 = .ok (.ireturn, 1) := by decide +kernel
set_option maxRecDepth 20000 in
theorem ggX6_openJarsLike_X6_isOpen : GoodIn wsX6_openJarsLike wsX6_isOpen := goodIn_r _ [5] (by decide +kernel) (by decide +kernel)
set_option maxRecDepth 20000 in
theorem gX6_openJarsLike_X6_isOpen : GoodIn wsX6_openJarsLike (va_wsS RX6 255 yX6_isOpen wsX6_isOpen) := goodIn_app (goodIn_of _ (by decide +kernel)) ggX6_openJarsLike_X6_isOpen
set_option maxRecDepth 20000 in
theorem ggX6_openJarsLike_X6_firstWorth : GoodIn wsX6_openJarsLike wsX6_firstWorth := goodIn_r _ [9, 10, 11, 12, 4, 13, 1, 14, 15, 16, 17, 18, 19, 20, 21, 22, 23, 24, 25, 26, 27, 28, 29, 30, 31, 32, 33, 34, 35, 36, 37, 38, 39, 40, 41, 42, 43, 44, 45, 46, 47, 48, 49, 50, 51, 52, 53, 54, 55, 56, 57, 58, 59, 60, 61, 62, 63, 64, 65, 66, 67, 68, 69, 70, 71, 72, 73, 74, 75, 76, 77, 78, 79, 80, 81] (by decide +kernel) (by decide +kernel)
set_option maxRecDepth 20000 in
theorem gX6_openJarsLike_X6_firstWorth : GoodIn wsX6_openJarsLike (wsV RX6 114 RX6 yX6_firstWorth wsX6_firstWorth) := goodIn_app (goodIn_of _ (by decide +kernel)) ggX6_openJarsLike_X6_firstWorth
theorem dX6_openJarsLike_0 : decode cX6_openJarsLike 0 = .ok (.iconst 0, 1) := by decide +kernel
theorem dX6_openJarsLike_1 : decode cX6_openJarsLike 1 = .ok (.istore 4, 2) := by decide +kernel
theorem dX6_openJarsLike_3 : decode cX6_openJarsLike 3 = .ok (.iconst 0, 1) := by decide +kernel
theorem dX6_openJarsLike_4 : decode cX6_openJarsLike 4 = .ok (.istore 5, 2) := by decide +kernel
theorem dX6_openJarsLike_6 : decode cX6_openJarsLike 6 = .ok (.iload 5, 2) := by decide +kernel
theorem dX6_openJarsLike_8 : decode cX6_openJarsLike 8 = .ok (.aload_n 0, 1) := by decide +kernel
theorem dX6_openJarsLike_9 : decode cX6_openJarsLike 9 = .ok (.getfield 23, 3) := by decide +kernel
theorem dX6_openJarsLike_12 : decode cX6_openJarsLike 12 = .ok (.if_icmp .ge 37, 3) := by decide +kernel
theorem dX6_openJarsLike_15 : decode cX6_openJarsLike 15 = .ok (.iload_n 2, 1) := by decide +kernel
theorem dX6_openJarsLike_16 : decode cX6_openJarsLike 16 = .ok (.iload 5, 2) := by decide +kernel
theorem dX6_openJarsLike_18 : decode cX6_openJarsLike 18 = .ok (.invokestatic 255, 3) := by decide +kernel
theorem dX6_openJarsLike_21 : decode cX6_openJarsLike 21 = .ok (.ifCond .eq 22, 3) := by decide +kernel
theorem dX6_openJarsLike_24 : decode cX6_openJarsLike 24 = .ok (.aload_n 0, 1) := by decide +kernel
theorem dX6_openJarsLike_25 : decode cX6_openJarsLike 25 = .ok (.iload 5, 2) := by decide +kernel
theorem dX6_openJarsLike_27 : decode cX6_openJarsLike 27 = .ok (.iload_n 3, 1) := by decide +kernel
theorem dX6_openJarsLike_28 : decode cX6_openJarsLike 28 = .ok (.invokevirtual 114, 3) := by decide +kernel
theorem dX6_openJarsLike_31 : decode cX6_openJarsLike 31 = .ok (.aload_n 0, 1) := by decide +kernel
theorem dX6_openJarsLike_32 : decode cX6_openJarsLike 32 = .ok (.iload_n 1, 1) := by decide +kernel
theorem dX6_openJarsLike_33 : decode cX6_openJarsLike 33 = .ok (.iload_n 3, 1) := by decide +kernel
theorem dX6_openJarsLike_34 : decode cX6_openJarsLike 34 = .ok (.invokevirtual 114, 3) := by decide +kernel
theorem dX6_openJarsLike_37 : decode cX6_openJarsLike 37 = .ok (.if_icmp .ne 6, 3) := by decide +kernel
theorem dX6_openJarsLike_40 : decode cX6_openJarsLike 40 = .ok (.iinc 4 1, 3) := by decide +kernel
theorem dX6_openJarsLike_43 : decode cX6_openJarsLike 43 = .ok (.iinc 5 1, 3) := by decide +kernel
theorem dX6_openJarsLike_46 : decode cX6_openJarsLike 46 = .ok (.goto (-40), 3) := by decide +kernel
theorem dX6_openJarsLike_49 : decode cX6_openJarsLike 49 = .ok (.iload 4, 2) := by decide +kernel
theorem dX6_openJarsLike_51 : decode cX6_openJarsLike 51 = .ok (.ireturn, 1) := by decide +kernel
theorem dX6_isOpen_0 : decode cX6_isOpen 0 = .ok (.iload_n 0, 1) := by decide +kernel
theorem dX6_isOpen_1 : decode cX6_isOpen 1 = .ok (.iload_n 1, 1) := by decide +kernel
theorem dX6_isOpen_2 : decode cX6_isOpen 2 = .ok (.ishr, 1) := by decide +kernel
theorem dX6_isOpen_3 : decode cX6_isOpen 3 = .ok (.iconst 1, 1) := by decide +kernel
theorem dX6_isOpen_4 : decode cX6_isOpen 4 = .ok (.iand, 1) := by decide +kernel
theorem dX6_isOpen_5 : decode cX6_isOpen 5 = .ok (.iconst 1, 1) := by decide +kernel
theorem dX6_isOpen_6 : decode cX6_isOpen 6 = .ok (.if_icmp .ne 7, 3) := by decide +kernel
theorem dX6_isOpen_9 : decode cX6_isOpen 9 = .ok (.iconst 1, 1) := by decide +kernel
theorem dX6_isOpen_10 : decode cX6_isOpen 10 = .ok (.goto 4, 3) := by decide +kernel
theorem dX6_isOpen_13 : decode cX6_isOpen 13 = .ok (.iconst 0, 1) := by decide +kernel
theorem dX6_isOpen_14 : decode cX6_isOpen 14 = .ok (.ireturn, 1) := by decide +kernel
set_option maxRecDepth 20000 in
theorem ggX6_liveOn_X1_copyFrom : GoodIn wsX6_liveOn wsX1_copyFrom := goodIn_r _ [8, 9, 10, 11, 12, 13, 14, 15, 16, 17, 112, 113, 114, 115, 116, 117, 118, 119, 120] (by decide +kernel) (by decide +kernel)
set_option maxRecDepth 20000 in
theorem gX6_liveOn_X1_copyFrom : GoodIn wsX6_liveOn (wsV RX6 161 RX1 yX1_copyFrom wsX1_copyFrom) := goodIn_app (goodIn_of _ (by decide +kernel)) ggX6_liveOn_X1_copyFrom
set_option maxRecDepth 20000 in
theorem ggX6_liveOn_X6_nextSeed : GoodIn wsX6_liveOn wsX6_nextSeed := goodIn_r _ [21, 22, 23, 24] (by decide +kernel) (by decide +kernel)
set_option maxRecDepth 20000 in
theorem gX6_liveOn_X6_nextSeed : GoodIn wsX6_liveOn (va_wsS RX6 261 yX6_nextSeed wsX6_nextSeed) := goodIn_app (goodIn_of _ (by decide +kernel)) ggX6_liveOn_X6_nextSeed
set_option maxRecDepth 20000 in
theorem ggX6_liveOn_X6_draw : GoodIn wsX6_liveOn wsX6_draw := goodIn_r _ [28, 29, 30, 100, 101, 102, 103, 104, 105, 106, 107, 108, 109, 110, 111] (by decide +kernel) (by decide +kernel)
set_option maxRecDepth 20000 in
theorem gX6_liveOn_X6_draw : GoodIn wsX6_liveOn (wsV RX6 264 RX6 yX6_draw wsX6_draw) := goodIn_app (goodIn_of _ (by decide +kernel)) ggX6_liveOn_X6_draw
set_option maxRecDepth 20000 in
theorem ggX6_liveOn_X1_loseSpoon : GoodIn wsX6_liveOn wsX1_loseSpoon := goodIn_r _ [34, 14, 11, 35, 36, 37, 7, 38, 112, 113, 114, 115, 116, 117, 118, 119, 120] (by decide +kernel) (by decide +kernel)
set_option maxRecDepth 20000 in
theorem gX6_liveOn_X1_loseSpoon : GoodIn wsX6_liveOn (wsV RX6 121 RX1 yX1_loseSpoon wsX1_loseSpoon) := goodIn_app (goodIn_of _ (by decide +kernel)) ggX6_liveOn_X1_loseSpoon
set_option maxRecDepth 20000 in
theorem ggX6_liveOn_X6_firstWorth : GoodIn wsX6_liveOn wsX6_firstWorth := goodIn_r _ [42, 43, 44, 45, 20, 46, 29, 47, 48, 49, 50, 51, 52, 53, 54, 55, 56, 57, 58, 59, 60, 61, 62, 63, 64, 65, 66, 67, 68, 69, 70, 71, 72, 73, 74, 75, 76, 77, 78, 79, 80, 81, 82, 83, 84, 85, 86, 87, 100, 101, 102, 103, 104, 105, 106, 107, 108, 109, 110, 111, 121, 122, 123, 124, 125, 126, 127, 128, 129, 130, 131, 132, 133, 134, 135] (by decide +kernel) (by decide +kernel)
set_option maxRecDepth 20000 in
theorem gX6_liveOn_X6_firstWorth : GoodIn wsX6_liveOn (wsV RX6 114 RX6 yX6_firstWorth wsX6_firstWorth) := goodIn_app (goodIn_of _ (by decide +kernel)) ggX6_liveOn_X6_firstWorth
set_option maxRecDepth 20000 in
theorem ggX6_liveOn_X1_eatenNowOf : GoodIn wsX6_liveOn wsX1_eatenNowOf := goodIn_r _ [91, 15, 112, 113, 114, 115, 116, 117, 118, 119, 120] (by decide +kernel) (by decide +kernel)
set_option maxRecDepth 20000 in
theorem gX6_liveOn_X1_eatenNowOf : GoodIn wsX6_liveOn (wsV RX6 100 RX1 yX1_eatenNowOf wsX1_eatenNowOf) := goodIn_app (goodIn_of _ (by decide +kernel)) ggX6_liveOn_X1_eatenNowOf
set_option maxRecDepth 20000 in
theorem ggX6_liveOn_X1_eatSpoon : GoodIn wsX6_liveOn wsX1_eatSpoon := goodIn_r _ [95, 14, 15, 10, 12, 35, 36, 37, 7, 38, 112, 113, 114, 115, 116, 117, 118, 119, 120] (by decide +kernel) (by decide +kernel)
set_option maxRecDepth 20000 in
theorem gX6_liveOn_X1_eatSpoon : GoodIn wsX6_liveOn (wsV RX6 118 RX1 yX1_eatSpoon wsX1_eatSpoon) := goodIn_app (goodIn_of _ (by decide +kernel)) ggX6_liveOn_X1_eatSpoon
set_option maxRecDepth 20000 in
theorem ggX6_liveOn_X1_passYear : GoodIn wsX6_liveOn wsX1_passYear := goodIn_r _ [99, 9, 15, 112, 113, 114, 115, 116, 117, 118, 119, 120] (by decide +kernel) (by decide +kernel)
set_option maxRecDepth 20000 in
theorem gX6_liveOn_X1_passYear : GoodIn wsX6_liveOn (wsV RX6 127 RX1 yX1_passYear wsX1_passYear) := goodIn_app (goodIn_of _ (by decide +kernel)) ggX6_liveOn_X1_passYear
theorem dX6_liveOn_0 : decode cX6_liveOn 0 = .ok (.iload_n 2, 1) := by decide +kernel
theorem dX6_liveOn_1 : decode cX6_liveOn 1 = .ok (.istore_n 3, 1) := by decide +kernel
theorem dX6_liveOn_2 : decode cX6_liveOn 2 = .ok (.aload_n 0, 1) := by decide +kernel
theorem dX6_liveOn_3 : decode cX6_liveOn 3 = .ok (.getfield 36, 3) := by decide +kernel
theorem dX6_liveOn_6 : decode cX6_liveOn 6 = .ok (.aload_n 0, 1) := by decide +kernel
theorem dX6_liveOn_7 : decode cX6_liveOn 7 = .ok (.getfield 29, 3) := by decide +kernel
theorem dX6_liveOn_10 : decode cX6_liveOn 10 = .ok (.invokevirtual 161, 3) := by decide +kernel
theorem dX6_liveOn_13 : decode cX6_liveOn 13 = .ok (.iconst 0, 1) := by decide +kernel
theorem dX6_liveOn_14 : decode cX6_liveOn 14 = .ok (.istore 4, 2) := by decide +kernel
theorem dX6_liveOn_16 : decode cX6_liveOn 16 = .ok (.iload 4, 2) := by decide +kernel
theorem dX6_liveOn_18 : decode cX6_liveOn 18 = .ok (.iload_n 1, 1) := by decide +kernel
theorem dX6_liveOn_19 : decode cX6_liveOn 19 = .ok (.if_icmp .ge 79, 3) := by decide +kernel
theorem dX6_liveOn_22 : decode cX6_liveOn 22 = .ok (.iload_n 3, 1) := by decide +kernel
theorem dX6_liveOn_23 : decode cX6_liveOn 23 = .ok (.invokestatic 261, 3) := by decide +kernel
theorem dX6_liveOn_26 : decode cX6_liveOn 26 = .ok (.istore_n 3, 1) := by decide +kernel
theorem dX6_liveOn_27 : decode cX6_liveOn 27 = .ok (.aload_n 0, 1) := by decide +kernel
theorem dX6_liveOn_28 : decode cX6_liveOn 28 = .ok (.getfield 36, 3) := by decide +kernel
theorem dX6_liveOn_31 : decode cX6_liveOn 31 = .ok (.aload_n 0, 1) := by decide +kernel
theorem dX6_liveOn_32 : decode cX6_liveOn 32 = .ok (.iload_n 3, 1) := by decide +kernel
theorem dX6_liveOn_33 : decode cX6_liveOn 33 = .ok (.invokevirtual 264, 3) := by decide +kernel
theorem dX6_liveOn_36 : decode cX6_liveOn 36 = .ok (.invokevirtual 121, 3) := by decide +kernel
theorem dX6_liveOn_39 : decode cX6_liveOn 39 = .ok (.pop, 1) := by decide +kernel
theorem dX6_liveOn_40 : decode cX6_liveOn 40 = .ok (.iload_n 3, 1) := by decide +kernel
theorem dX6_liveOn_41 : decode cX6_liveOn 41 = .ok (.invokestatic 261, 3) := by decide +kernel
theorem dX6_liveOn_44 : decode cX6_liveOn 44 = .ok (.istore_n 3, 1) := by decide +kernel
theorem dX6_liveOn_45 : decode cX6_liveOn 45 = .ok (.aload_n 0, 1) := by decide +kernel
theorem dX6_liveOn_46 : decode cX6_liveOn 46 = .ok (.iload_n 3, 1) := by decide +kernel
theorem dX6_liveOn_47 : decode cX6_liveOn 47 = .ok (.invokevirtual 264, 3) := by decide +kernel
theorem dX6_liveOn_50 : decode cX6_liveOn 50 = .ok (.istore 5, 2) := by decide +kernel
theorem dX6_liveOn_52 : decode cX6_liveOn 52 = .ok (.aload_n 0, 1) := by decide +kernel
theorem dX6_liveOn_53 : decode cX6_liveOn 53 = .ok (.getfield 36, 3) := by decide +kernel
theorem dX6_liveOn_56 : decode cX6_liveOn 56 = .ok (.iload 5, 2) := by decide +kernel
theorem dX6_liveOn_58 : decode cX6_liveOn 58 = .ok (.aload_n 0, 1) := by decide +kernel
theorem dX6_liveOn_59 : decode cX6_liveOn 59 = .ok (.iload 5, 2) := by decide +kernel
theorem dX6_liveOn_61 : decode cX6_liveOn 61 = .ok (.aload_n 0, 1) := by decide +kernel
theorem dX6_liveOn_62 : decode cX6_liveOn 62 = .ok (.getfield 36, 3) := by decide +kernel
theorem dX6_liveOn_65 : decode cX6_liveOn 65 = .ok (.getfield 91, 3) := by decide +kernel
theorem dX6_liveOn_68 : decode cX6_liveOn 68 = .ok (.invokevirtual 114, 3) := by decide +kernel
theorem dX6_liveOn_71 : decode cX6_liveOn 71 = .ok (.aload_n 0, 1) := by decide +kernel
theorem dX6_liveOn_72 : decode cX6_liveOn 72 = .ok (.getfield 36, 3) := by decide +kernel
theorem dX6_liveOn_75 : decode cX6_liveOn 75 = .ok (.iload 5, 2) := by decide +kernel
theorem dX6_liveOn_77 : decode cX6_liveOn 77 = .ok (.invokevirtual 100, 3) := by decide +kernel
theorem dX6_liveOn_80 : decode cX6_liveOn 80 = .ok (.isub, 1) := by decide +kernel
theorem dX6_liveOn_81 : decode cX6_liveOn 81 = .ok (.invokevirtual 118, 3) := by decide +kernel
theorem dX6_liveOn_84 : decode cX6_liveOn 84 = .ok (.pop, 1) := by decide +kernel
theorem dX6_liveOn_85 : decode cX6_liveOn 85 = .ok (.aload_n 0, 1) := by decide +kernel
theorem dX6_liveOn_86 : decode cX6_liveOn 86 = .ok (.getfield 36, 3) := by decide +kernel
theorem dX6_liveOn_89 : decode cX6_liveOn 89 = .ok (.invokevirtual 127, 3) := by decide +kernel
theorem dX6_liveOn_92 : decode cX6_liveOn 92 = .ok (.iinc 4 1, 3) := by decide +kernel
theorem dX6_liveOn_95 : decode cX6_liveOn 95 = .ok (.goto (-79), 3) := by decide +kernel
theorem dX6_liveOn_98 : decode cX6_liveOn 98 = .ok (.iload_n 3, 1) := by decide +kernel
theorem dX6_liveOn_99 : decode cX6_liveOn 99 = .ok (.ireturn, 1) := by decide +kernel
theorem dX6_nextSeed_0 : decode cX6_nextSeed 0 = .ok (.ldc2_w 267, 3) := by decide +kernel
theorem dX6_nextSeed_3 : decode cX6_nextSeed 3 = .ok (.iload_n 0, 1) := by decide +kernel
theorem dX6_nextSeed_4 : decode cX6_nextSeed 4 = .ok (.i2l, 1) := by decide +kernel
theorem dX6_nextSeed_5 : decode cX6_nextSeed 5 = .ok (.lmul, 1) := by decide +kernel
theorem dX6_nextSeed_6 : decode cX6_nextSeed 6 = .ok (.ldc2_w 269, 3) := by decide +kernel
theorem dX6_nextSeed_9 : decode cX6_nextSeed 9 = .ok (.ladd, 1) := by decide +kernel
theorem dX6_nextSeed_10 : decode cX6_nextSeed 10 = .ok (.ldc2_w 271, 3) := by decide +kernel
theorem dX6_nextSeed_13 : decode cX6_nextSeed 13 = .ok (.lrem, 1) := by decide +kernel
theorem dX6_nextSeed_14 : decode cX6_nextSeed 14 = .ok (.l2i, 1) := by decide +kernel
theorem dX6_nextSeed_15 : decode cX6_nextSeed 15 = .ok (.ireturn, 1) := by decide +kernel
theorem dX6_draw_0 : decode cX6_draw 0 = .ok (.aload_n 0, 1) := by decide +kernel
theorem dX6_draw_1 : decode cX6_draw 1 = .ok (.getfield 23, 3) := by decide +kernel
theorem dX6_draw_4 : decode cX6_draw 4 = .ok (.ifCond .le 19, 3) := by decide +kernel
theorem dX6_draw_7 : decode cX6_draw 7 = .ok (.iload_n 1, 1) := by decide +kernel
theorem dX6_draw_8 : decode cX6_draw 8 = .ok (.i2l, 1) := by decide +kernel
theorem dX6_draw_9 : decode cX6_draw 9 = .ok (.ldc2_w 273, 3) := by decide +kernel
theorem dX6_draw_12 : decode cX6_draw 12 = .ok (.ldiv, 1) := by decide +kernel
theorem dX6_draw_13 : decode cX6_draw 13 = .ok (.aload_n 0, 1) := by decide +kernel
theorem dX6_draw_14 : decode cX6_draw 14 = .ok (.getfield 23, 3) := by decide +kernel
theorem dX6_draw_17 : decode cX6_draw 17 = .ok (.i2l, 1) := by decide +kernel
theorem dX6_draw_18 : decode cX6_draw 18 = .ok (.lrem, 1) := by decide +kernel
theorem dX6_draw_19 : decode cX6_draw 19 = .ok (.l2i, 1) := by decide +kernel
theorem dX6_draw_20 : decode cX6_draw 20 = .ok (.goto 4, 3) := by decide +kernel
theorem dX6_draw_23 : decode cX6_draw 23 = .ok (.iconst 0, 1) := by decide +kernel
theorem dX6_draw_24 : decode cX6_draw 24 = .ok (.ireturn, 1) := by decide +kernel
theorem dX7_init_0 : decode cX7_init 0 = .ok (.aload_n 0, 1) := by decide +kernel
theorem dX7_init_1 : decode cX7_init 1 = .ok (.invokespecial 1, 3) := by decide +kernel
theorem dX7_init_4 : decode cX7_init 4 = .ok (.aload_n 0, 1) := by decide +kernel
theorem dX7_init_5 : decode cX7_init 5 = .ok (.bipush 25, 2) := by decide +kernel
theorem dX7_init_7 : decode cX7_init 7 = .ok (.newarray .int, 2) := by decide +kernel
theorem dX7_init_9 : decode cX7_init 9 = .ok (.putfield 7, 3) := by decide +kernel
theorem dX7_init_12 : decode cX7_init 12 = .ok (.aload_n 0, 1) := by decide +kernel
theorem dX7_init_13 : decode cX7_init 13 = .ok (.bipush 30, 2) := by decide +kernel
theorem dX7_init_15 : decode cX7_init 15 = .ok (.newarray .int, 2) := by decide +kernel
theorem dX7_init_17 : decode cX7_init 17 = .ok (.putfield 13, 3) := by decide +kernel
theorem dX7_init_20 : decode cX7_init 20 = .ok (.aload_n 0, 1) := by decide +kernel
theorem dX7_init_21 : decode cX7_init 21 = .ok (.bipush 91, 2) := by decide +kernel
theorem dX7_init_23 : decode cX7_init 23 = .ok (.newarray .int, 2) := by decide +kernel
theorem dX7_init_25 : decode cX7_init 25 = .ok (.putfield 16, 3) := by decide +kernel
theorem dX7_init_28 : decode cX7_init 28 = .ok (.aload_n 0, 1) := by decide +kernel
theorem dX7_init_29 : decode cX7_init 29 = .ok (.bipush 6, 2) := by decide +kernel
theorem dX7_init_31 : decode cX7_init 31 = .ok (.newarray .int, 2) := by decide +kernel
theorem dX7_init_33 : decode cX7_init 33 = .ok (.putfield 19, 3) := by decide +kernel
theorem dX7_init_36 : decode cX7_init 36 = .ok (.aload_n 0, 1) := by decide +kernel
theorem dX7_init_37 : decode cX7_init 37 = .ok (.bipush 12, 2) := by decide +kernel
theorem dX7_init_39 : decode cX7_init 39 = .ok (.newarray .int, 2) := by decide +kernel
theorem dX7_init_41 : decode cX7_init 41 = .ok (.putfield 22, 3) := by decide +kernel
theorem dX7_init_44 : decode cX7_init 44 = .ok (.aload_n 0, 1) := by decide +kernel
theorem dX7_init_45 : decode cX7_init 45 = .ok (.bipush 30, 2) := by decide +kernel
theorem dX7_init_47 : decode cX7_init 47 = .ok (.newarray .int, 2) := by decide +kernel
theorem dX7_init_49 : decode cX7_init 49 = .ok (.putfield 25, 3) := by decide +kernel
theorem dX7_init_52 : decode cX7_init 52 = .ok (.aload_n 0, 1) := by decide +kernel
theorem dX7_init_53 : decode cX7_init 53 = .ok (.bipush 30, 2) := by decide +kernel
theorem dX7_init_55 : decode cX7_init 55 = .ok (.newarray .int, 2) := by decide +kernel
theorem dX7_init_57 : decode cX7_init 57 = .ok (.putfield 28, 3) := by decide +kernel
theorem dX7_init_60 : decode cX7_init 60 = .ok (.aload_n 0, 1) := by decide +kernel
theorem dX7_init_61 : decode cX7_init 61 = .ok (.bipush 12, 2) := by decide +kernel
theorem dX7_init_63 : decode cX7_init 63 = .ok (.newarray .int, 2) := by decide +kernel
theorem dX7_init_65 : decode cX7_init 65 = .ok (.putfield 31, 3) := by decide +kernel
theorem dX7_init_68 : decode cX7_init 68 = .ok (.aload_n 0, 1) := by decide +kernel
theorem dX7_init_69 : decode cX7_init 69 = .ok (.iconst (-1), 1) := by decide +kernel
theorem dX7_init_70 : decode cX7_init 70 = .ok (.putfield 34, 3) := by decide +kernel
theorem dX7_init_73 : decode cX7_init 73 = .ok (.return_, 1) := by decide +kernel
theorem dX7_in_0 : decode cX7_in 0 = .ok (.lload_n 0, 1) := by decide +kernel
theorem dX7_in_1 : decode cX7_in 1 = .ok (.lload_n 2, 1) := by decide +kernel
theorem dX7_in_2 : decode cX7_in 2 = .ok (.lcmp, 1) := by decide +kernel
theorem dX7_in_3 : decode cX7_in 3 = .ok (.ifCond .lt 14, 3) := by decide +kernel
theorem dX7_in_6 : decode cX7_in 6 = .ok (.lload_n 0, 1) := by decide +kernel
theorem dX7_in_7 : decode cX7_in 7 = .ok (.lload 4, 2) := by decide +kernel
theorem dX7_in_9 : decode cX7_in 9 = .ok (.lcmp, 1) := by decide +kernel
theorem dX7_in_10 : decode cX7_in 10 = .ok (.ifCond .gt 7, 3) := by decide +kernel
theorem dX7_in_13 : decode cX7_in 13 = .ok (.iconst 1, 1) := by decide +kernel
theorem dX7_in_14 : decode cX7_in 14 = .ok (.goto 4, 3) := by decide +kernel
theorem dX7_in_17 : decode cX7_in 17 = .ok (.iconst 0, 1) := by decide +kernel
theorem dX7_in_18 : decode cX7_in 18 = .ok (.ireturn, 1) := by decide +kernel
theorem dX7_copy_0 : decode cX7_copy 0 = .ok (.iconst 0, 1) := by decide +kernel
theorem dX7_copy_1 : decode cX7_copy 1 = .ok (.istore_n 2, 1) := by decide +kernel
theorem dX7_copy_2 : decode cX7_copy 2 = .ok (.iload_n 2, 1) := by decide +kernel
theorem dX7_copy_3 : decode cX7_copy 3 = .ok (.aload_n 0, 1) := by decide +kernel
theorem dX7_copy_4 : decode cX7_copy 4 = .ok (.arraylength, 1) := by decide +kernel
theorem dX7_copy_5 : decode cX7_copy 5 = .ok (.if_icmp .ge 15, 3) := by decide +kernel
theorem dX7_copy_8 : decode cX7_copy 8 = .ok (.aload_n 1, 1) := by decide +kernel
theorem dX7_copy_9 : decode cX7_copy 9 = .ok (.iload_n 2, 1) := by decide +kernel
theorem dX7_copy_10 : decode cX7_copy 10 = .ok (.aload_n 0, 1) := by decide +kernel
theorem dX7_copy_11 : decode cX7_copy 11 = .ok (.iload_n 2, 1) := by decide +kernel
theorem dX7_copy_12 : decode cX7_copy 12 = .ok (.iaload, 1) := by decide +kernel
theorem dX7_copy_13 : decode cX7_copy 13 = .ok (.iastore, 1) := by decide +kernel
theorem dX7_copy_14 : decode cX7_copy 14 = .ok (.iinc 2 1, 3) := by decide +kernel
theorem dX7_copy_17 : decode cX7_copy 17 = .ok (.goto (-15), 3) := by decide +kernel
theorem dX7_copy_20 : decode cX7_copy 20 = .ok (.return_, 1) := by decide +kernel
set_option maxRecDepth 20000 in
theorem ggX7_letter_X7_in : GoodIn wsX7_letter wsX7_in := goodIn_r _ [7] (by decide +kernel) (by decide +kernel)
set_option maxRecDepth 20000 in
theorem gX7_letter_X7_in : GoodIn wsX7_letter (va_wsS RX7 40 yX7_in wsX7_in) := goodIn_app (goodIn_of _ (by decide +kernel)) ggX7_letter_X7_in
theorem dX7_letter_0 : decode cX7_letter 0 = .ok (.iload_n 1, 1) := by decide +kernel
theorem dX7_letter_1 : decode cX7_letter 1 = .ok (.i2l, 1) := by decide +kernel
theorem dX7_letter_2 : decode cX7_letter 2 = .ok (.lconst 1, 1) := by decide +kernel
theorem dX7_letter_3 : decode cX7_letter 3 = .ok (.ldc2_w 38, 3) := by decide +kernel
theorem dX7_letter_6 : decode cX7_letter 6 = .ok (.invokestatic 40, 3) := by decide +kernel
theorem dX7_letter_9 : decode cX7_letter 9 = .ok (.ifCond .ne 6, 3) := by decide +kernel
theorem dX7_letter_12 : decode cX7_letter 12 = .ok (.bipush (-102), 2) := by decide +kernel
theorem dX7_letter_14 : decode cX7_letter 14 = .ok (.ireturn, 1) := by decide +kernel
theorem dX7_letter_15 : decode cX7_letter 15 = .ok (.aload_n 0, 1) := by decide +kernel
theorem dX7_letter_16 : decode cX7_letter 16 = .ok (.getfield 44, 3) := by decide +kernel
theorem dX7_letter_19 : decode cX7_letter 19 = .ok (.bipush 25, 2) := by decide +kernel
theorem dX7_letter_21 : decode cX7_letter 21 = .ok (.if_icmp .ne 6, 3) := by decide +kernel
theorem dX7_letter_24 : decode cX7_letter 24 = .ok (.bipush (-104), 2) := by decide +kernel
theorem dX7_letter_26 : decode cX7_letter 26 = .ok (.ireturn, 1) := by decide +kernel
theorem dX7_letter_27 : decode cX7_letter 27 = .ok (.aload_n 0, 1) := by decide +kernel
theorem dX7_letter_28 : decode cX7_letter 28 = .ok (.getfield 7, 3) := by decide +kernel
theorem dX7_letter_31 : decode cX7_letter 31 = .ok (.aload_n 0, 1) := by decide +kernel
theorem dX7_letter_32 : decode cX7_letter 32 = .ok (.getfield 44, 3) := by decide +kernel
theorem dX7_letter_35 : decode cX7_letter 35 = .ok (.iload_n 1, 1) := by decide +kernel
theorem dX7_letter_36 : decode cX7_letter 36 = .ok (.iastore, 1) := by decide +kernel
theorem dX7_letter_37 : decode cX7_letter 37 = .ok (.aload_n 0, 1) := by decide +kernel
theorem dX7_letter_38 : decode cX7_letter 38 = .ok (.dup, 1) := by decide +kernel
theorem dX7_letter_39 : decode cX7_letter 39 = .ok (.getfield 44, 3) := by decide +kernel
theorem dX7_letter_42 : decode cX7_letter 42 = .ok (.iconst 1, 1) := by decide +kernel
theorem dX7_letter_43 : decode cX7_letter 43 = .ok (.iadd, 1) := by decide +kernel
theorem dX7_letter_44 : decode cX7_letter 44 = .ok (.putfield 44, 3) := by decide +kernel
theorem dX7_letter_47 : decode cX7_letter 47 = .ok (.aload_n 0, 1) := by decide +kernel
theorem dX7_letter_48 : decode cX7_letter 48 = .ok (.getfield 44, 3) := by decide +kernel
theorem dX7_letter_51 : decode cX7_letter 51 = .ok (.ireturn, 1) := by decide +kernel
theorem dX7_blank_0 : decode cX7_blank 0 = .ok (.aload_n 0, 1) := by decide +kernel
theorem dX7_blank_1 : decode cX7_blank 1 = .ok (.getfield 44, 3) := by decide +kernel
theorem dX7_blank_4 : decode cX7_blank 4 = .ok (.istore_n 1, 1) := by decide +kernel
theorem dX7_blank_5 : decode cX7_blank 5 = .ok (.aload_n 0, 1) := by decide +kernel
theorem dX7_blank_6 : decode cX7_blank 6 = .ok (.iconst 0, 1) := by decide +kernel
theorem dX7_blank_7 : decode cX7_blank 7 = .ok (.putfield 44, 3) := by decide +kernel
theorem dX7_blank_10 : decode cX7_blank 10 = .ok (.iload_n 1, 1) := by decide +kernel
theorem dX7_blank_11 : decode cX7_blank 11 = .ok (.ireturn, 1) := by decide +kernel
theorem dX7_kindBy_0 : decode cX7_kindBy 0 = .ok (.iload_n 0, 1) := by decide +kernel
theorem dX7_kindBy_1 : decode cX7_kindBy 1 = .ok (.bipush 106, 2) := by decide +kernel
theorem dX7_kindBy_3 : decode cX7_kindBy 3 = .ok (.if_icmp .ne 7, 3) := by decide +kernel
theorem dX7_kindBy_6 : decode cX7_kindBy 6 = .ok (.iconst 0, 1) := by decide +kernel
theorem dX7_kindBy_7 : decode cX7_kindBy 7 = .ok (.goto 44, 3) := by decide +kernel
theorem dX7_kindBy_10 : decode cX7_kindBy 10 = .ok (.iload_n 0, 1) := by decide +kernel
theorem dX7_kindBy_11 : decode cX7_kindBy 11 = .ok (.bipush 119, 2) := by decide +kernel
theorem dX7_kindBy_13 : decode cX7_kindBy 13 = .ok (.if_icmp .ne 7, 3) := by decide +kernel
theorem dX7_kindBy_16 : decode cX7_kindBy 16 = .ok (.iconst 1, 1) := by decide +kernel
theorem dX7_kindBy_17 : decode cX7_kindBy 17 = .ok (.goto 34, 3) := by decide +kernel
theorem dX7_kindBy_20 : decode cX7_kindBy 20 = .ok (.iload_n 0, 1) := by decide +kernel
theorem dX7_kindBy_21 : decode cX7_kindBy 21 = .ok (.bipush 99, 2) := by decide +kernel
theorem dX7_kindBy_23 : decode cX7_kindBy 23 = .ok (.if_icmp .ne 7, 3) := by decide +kernel
theorem dX7_kindBy_26 : decode cX7_kindBy 26 = .ok (.iconst 2, 1) := by decide +kernel
theorem dX7_kindBy_27 : decode cX7_kindBy 27 = .ok (.goto 24, 3) := by decide +kernel
theorem dX7_kindBy_30 : decode cX7_kindBy 30 = .ok (.iload_n 0, 1) := by decide +kernel
theorem dX7_kindBy_31 : decode cX7_kindBy 31 = .ok (.bipush 112, 2) := by decide +kernel
theorem dX7_kindBy_33 : decode cX7_kindBy 33 = .ok (.if_icmp .ne 7, 3) := by decide +kernel
theorem dX7_kindBy_36 : decode cX7_kindBy 36 = .ok (.iconst 3, 1) := by decide +kernel
theorem dX7_kindBy_37 : decode cX7_kindBy 37 = .ok (.goto 14, 3) := by decide +kernel
theorem dX7_kindBy_40 : decode cX7_kindBy 40 = .ok (.iload_n 0, 1) := by decide +kernel
theorem dX7_kindBy_41 : decode cX7_kindBy 41 = .ok (.bipush 103, 2) := by decide +kernel
theorem dX7_kindBy_43 : decode cX7_kindBy 43 = .ok (.if_icmp .ne 7, 3) := by decide +kernel
theorem dX7_kindBy_46 : decode cX7_kindBy 46 = .ok (.iconst 4, 1) := by decide +kernel
theorem dX7_kindBy_47 : decode cX7_kindBy 47 = .ok (.goto 4, 3) := by decide +kernel
theorem dX7_kindBy_50 : decode cX7_kindBy 50 = .ok (.iconst (-1), 1) := by decide +kernel
theorem dX7_kindBy_51 : decode cX7_kindBy 51 = .ok (.ireturn, 1) := by decide +kernel
set_option maxRecDepth 20000 in
theorem ggX7_isGood_X7_kindBy : GoodIn wsX7_isGood wsX7_kindBy := goodIn_r _ [6] (by decide +kernel) (by decide +kernel)
set_option maxRecDepth 20000 in
theorem gX7_isGood_X7_kindBy : GoodIn wsX7_isGood (va_wsS RX7 47 yX7_kindBy wsX7_kindBy) := goodIn_app (goodIn_of _ (by decide +kernel)) ggX7_isGood_X7_kindBy
set_option maxRecDepth 20000 in
theorem ggX7_isGood_X7_in : GoodIn wsX7_isGood wsX7_in := goodIn_r _ [9] (by decide +kernel) (by decide +kernel)
set_option maxRecDepth 20000 in
theorem gX7_isGood_X7_in : GoodIn wsX7_isGood (va_wsS RX7 40 yX7_in wsX7_in) := goodIn_app (goodIn_of _ (by decide +kernel)) ggX7_isGood_X7_in
theorem dX7_isGood_0 : decode cX7_isGood 0 = .ok (.iload_n 0, 1) := by decide +kernel
theorem dX7_isGood_1 : decode cX7_isGood 1 = .ok (.iconst 4, 1) := by decide +kernel
theorem dX7_isGood_2 : decode cX7_isGood 2 = .ok (.irem, 1) := by decide +kernel
theorem dX7_isGood_3 : decode cX7_isGood 3 = .ok (.tableswitch 57 0 2 #[25, 45, 45], 25) := by decide +kernel
theorem dX7_isGood_28 : decode cX7_isGood 28 = .ok (.iload_n 0, 1) := by decide +kernel
theorem dX7_isGood_29 : decode cX7_isGood 29 = .ok (.bipush 24, 2) := by decide +kernel
theorem dX7_isGood_31 : decode cX7_isGood 31 = .ok (.if_icmp .ge 15, 3) := by decide +kernel
theorem dX7_isGood_34 : decode cX7_isGood 34 = .ok (.iload_n 1, 1) := by decide +kernel
theorem dX7_isGood_35 : decode cX7_isGood 35 = .ok (.invokestatic 47, 3) := by decide +kernel
theorem dX7_isGood_38 : decode cX7_isGood 38 = .ok (.iconst (-1), 1) := by decide +kernel
theorem dX7_isGood_39 : decode cX7_isGood 39 = .ok (.if_icmp .eq 7, 3) := by decide +kernel
theorem dX7_isGood_42 : decode cX7_isGood 42 = .ok (.iconst 1, 1) := by decide +kernel
theorem dX7_isGood_43 : decode cX7_isGood 43 = .ok (.goto 4, 3) := by decide +kernel
theorem dX7_isGood_46 : decode cX7_isGood 46 = .ok (.iconst 0, 1) := by decide +kernel
theorem dX7_isGood_47 : decode cX7_isGood 47 = .ok (.ireturn, 1) := by decide +kernel
theorem dX7_isGood_48 : decode cX7_isGood 48 = .ok (.iload_n 1, 1) := by decide +kernel
theorem dX7_isGood_49 : decode cX7_isGood 49 = .ok (.i2l, 1) := by decide +kernel
theorem dX7_isGood_50 : decode cX7_isGood 50 = .ok (.ldc2_w 51, 3) := by decide +kernel
theorem dX7_isGood_53 : decode cX7_isGood 53 = .ok (.ldc2_w 53, 3) := by decide +kernel
theorem dX7_isGood_56 : decode cX7_isGood 56 = .ok (.invokestatic 40, 3) := by decide +kernel
theorem dX7_isGood_59 : decode cX7_isGood 59 = .ok (.ireturn, 1) := by decide +kernel
theorem dX7_isGood_60 : decode cX7_isGood 60 = .ok (.iload_n 1, 1) := by decide +kernel
theorem dX7_isGood_61 : decode cX7_isGood 61 = .ok (.bipush 44, 2) := by decide +kernel
theorem dX7_isGood_63 : decode cX7_isGood 63 = .ok (.if_icmp .ne 13, 3) := by decide +kernel
theorem dX7_isGood_66 : decode cX7_isGood 66 = .ok (.iload_n 0, 1) := by decide +kernel
theorem dX7_isGood_67 : decode cX7_isGood 67 = .ok (.bipush 23, 2) := by decide +kernel
theorem dX7_isGood_69 : decode cX7_isGood 69 = .ok (.if_icmp .ge 7, 3) := by decide +kernel
theorem dX7_isGood_72 : decode cX7_isGood 72 = .ok (.iconst 1, 1) := by decide +kernel
theorem dX7_isGood_73 : decode cX7_isGood 73 = .ok (.goto 4, 3) := by decide +kernel
theorem dX7_isGood_76 : decode cX7_isGood 76 = .ok (.iconst 0, 1) := by decide +kernel
theorem dX7_isGood_77 : decode cX7_isGood 77 = .ok (.ireturn, 1) := by decide +kernel
set_option maxRecDepth 20000 in
theorem ggX7_faultOf_X7_isGood : GoodIn wsX7_faultOf wsX7_isGood := goodIn_r _ [6, 7, 8, 9, 10, 5, 11, 12, 13, 14] (by decide +kernel) (by decide +kernel)
set_option maxRecDepth 20000 in
theorem gX7_faultOf_X7_isGood : GoodIn wsX7_faultOf (va_wsS RX7 55 yX7_isGood wsX7_isGood) := goodIn_app (goodIn_of _ (by decide +kernel)) ggX7_faultOf_X7_isGood
theorem dX7_faultOf_0 : decode cX7_faultOf 0 = .ok (.iconst 0, 1) := by decide +kernel
theorem dX7_faultOf_1 : decode cX7_faultOf 1 = .ok (.istore_n 1, 1) := by decide +kernel
theorem dX7_faultOf_2 : decode cX7_faultOf 2 = .ok (.iload_n 1, 1) := by decide +kernel
theorem dX7_faultOf_3 : decode cX7_faultOf 3 = .ok (.aload_n 0, 1) := by decide +kernel
theorem dX7_faultOf_4 : decode cX7_faultOf 4 = .ok (.getfield 44, 3) := by decide +kernel
theorem dX7_faultOf_7 : decode cX7_faultOf 7 = .ok (.if_icmp .ge 22, 3) := by decide +kernel
theorem dX7_faultOf_10 : decode cX7_faultOf 10 = .ok (.iload_n 1, 1) := by decide +kernel
theorem dX7_faultOf_11 : decode cX7_faultOf 11 = .ok (.aload_n 0, 1) := by decide +kernel
theorem dX7_faultOf_12 : decode cX7_faultOf 12 = .ok (.getfield 7, 3) := by decide +kernel
theorem dX7_faultOf_15 : decode cX7_faultOf 15 = .ok (.iload_n 1, 1) := by decide +kernel
theorem dX7_faultOf_16 : decode cX7_faultOf 16 = .ok (.iaload, 1) := by decide +kernel
theorem dX7_faultOf_17 : decode cX7_faultOf 17 = .ok (.invokestatic 55, 3) := by decide +kernel
theorem dX7_faultOf_20 : decode cX7_faultOf 20 = .ok (.ifCond .eq 9, 3) := by decide +kernel
theorem dX7_faultOf_23 : decode cX7_faultOf 23 = .ok (.iinc 1 1, 3) := by decide +kernel
theorem dX7_faultOf_26 : decode cX7_faultOf 26 = .ok (.goto (-24), 3) := by decide +kernel
theorem dX7_faultOf_29 : decode cX7_faultOf 29 = .ok (.iload_n 1, 1) := by decide +kernel
theorem dX7_faultOf_30 : decode cX7_faultOf 30 = .ok (.ireturn, 1) := by decide +kernel
set_option maxRecDepth 20000 in
theorem ggX7_fault_X7_faultOf : GoodIn wsX7_fault wsX7_faultOf := goodIn_r _ [5, 6, 7, 8, 9, 4, 10, 11, 12, 13, 14, 15, 16, 17, 18, 19, 20, 21, 22, 23, 24, 25, 26, 27, 28, 29, 30, 31, 32, 33, 34, 35, 36, 37, 38, 39, 40, 41, 42, 43] (by decide +kernel) (by decide +kernel)
set_option maxRecDepth 20000 in
theorem gX7_fault_X7_faultOf : GoodIn wsX7_fault (wsV RX7 59 RX7 yX7_faultOf wsX7_faultOf) := goodIn_app (goodIn_of _ (by decide +kernel)) ggX7_fault_X7_faultOf
theorem dX7_fault_0 : decode cX7_fault 0 = .ok (.aload_n 0, 1) := by decide +kernel
theorem dX7_fault_1 : decode cX7_fault 1 = .ok (.invokevirtual 59, 3) := by decide +kernel
theorem dX7_fault_4 : decode cX7_fault 4 = .ok (.ireturn, 1) := by decide +kernel
set_option maxRecDepth 20000 in
theorem ggX7_larder_X7_faultOf : GoodIn wsX7_larder wsX7_faultOf := goodIn_r _ [15, 1, 4, 16, 17, 14, 18, 19, 20, 21, 22, 23, 24, 25, 26, 27, 28, 29, 30, 31, 32, 33, 34, 35, 36, 37, 38, 39, 40, 41, 42, 43, 44, 45, 46, 47, 48, 49, 50, 51] (by decide +kernel) (by decide +kernel)
set_option maxRecDepth 20000 in
theorem gX7_larder_X7_faultOf : GoodIn wsX7_larder (wsV RX7 59 RX7 yX7_faultOf wsX7_faultOf) := goodIn_app (goodIn_of _ (by decide +kernel)) ggX7_larder_X7_faultOf
set_option maxRecDepth 20000 in
theorem ggX7_larder_X7_kindBy : GoodIn wsX7_larder wsX7_kindBy := goodIn_r _ [23] (by decide +kernel) (by decide +kernel)
set_option maxRecDepth 20000 in
theorem gX7_larder_X7_kindBy : GoodIn wsX7_larder (va_wsS RX7 47 yX7_kindBy wsX7_kindBy) := goodIn_app (goodIn_of _ (by decide +kernel)) ggX7_larder_X7_kindBy
theorem dX7_larder_0 : decode cX7_larder 0 = .ok (.aload_n 0, 1) := by decide +kernel
theorem dX7_larder_1 : decode cX7_larder 1 = .ok (.getfield 44, 3) := by decide +kernel
theorem dX7_larder_4 : decode cX7_larder 4 = .ok (.bipush 7, 2) := by decide +kernel
theorem dX7_larder_6 : decode cX7_larder 6 = .ok (.if_icmp .lt 24, 3) := by decide +kernel
theorem dX7_larder_9 : decode cX7_larder 9 = .ok (.aload_n 0, 1) := by decide +kernel
theorem dX7_larder_10 : decode cX7_larder 10 = .ok (.getfield 44, 3) := by decide +kernel
theorem dX7_larder_13 : decode cX7_larder 13 = .ok (.iconst 4, 1) := by decide +kernel
theorem dX7_larder_14 : decode cX7_larder 14 = .ok (.irem, 1) := by decide +kernel
theorem dX7_larder_15 : decode cX7_larder 15 = .ok (.iconst 3, 1) := by decide +kernel
theorem dX7_larder_16 : decode cX7_larder 16 = .ok (.if_icmp .ne 14, 3) := by decide +kernel
theorem dX7_larder_19 : decode cX7_larder 19 = .ok (.aload_n 0, 1) := by decide +kernel
theorem dX7_larder_20 : decode cX7_larder 20 = .ok (.invokevirtual 59, 3) := by decide +kernel
theorem dX7_larder_23 : decode cX7_larder 23 = .ok (.aload_n 0, 1) := by decide +kernel
theorem dX7_larder_24 : decode cX7_larder 24 = .ok (.getfield 44, 3) := by decide +kernel
theorem dX7_larder_27 : decode cX7_larder 27 = .ok (.if_icmp .ge 6, 3) := by decide +kernel
theorem dX7_larder_30 : decode cX7_larder 30 = .ok (.bipush (-103), 2) := by decide +kernel
theorem dX7_larder_32 : decode cX7_larder 32 = .ok (.ireturn, 1) := by decide +kernel
theorem dX7_larder_33 : decode cX7_larder 33 = .ok (.aload_n 0, 1) := by decide +kernel
theorem dX7_larder_34 : decode cX7_larder 34 = .ok (.aload_n 0, 1) := by decide +kernel
theorem dX7_larder_35 : decode cX7_larder 35 = .ok (.getfield 44, 3) := by decide +kernel
theorem dX7_larder_38 : decode cX7_larder 38 = .ok (.iconst 1, 1) := by decide +kernel
theorem dX7_larder_39 : decode cX7_larder 39 = .ok (.iadd, 1) := by decide +kernel
theorem dX7_larder_40 : decode cX7_larder 40 = .ok (.iconst 4, 1) := by decide +kernel
theorem dX7_larder_41 : decode cX7_larder 41 = .ok (.idiv, 1) := by decide +kernel
theorem dX7_larder_42 : decode cX7_larder 42 = .ok (.putfield 63, 3) := by decide +kernel
theorem dX7_larder_45 : decode cX7_larder 45 = .ok (.iconst 0, 1) := by decide +kernel
theorem dX7_larder_46 : decode cX7_larder 46 = .ok (.istore_n 1, 1) := by decide +kernel
theorem dX7_larder_47 : decode cX7_larder 47 = .ok (.iload_n 1, 1) := by decide +kernel
theorem dX7_larder_48 : decode cX7_larder 48 = .ok (.aload_n 0, 1) := by decide +kernel
theorem dX7_larder_49 : decode cX7_larder 49 = .ok (.getfield 63, 3) := by decide +kernel
theorem dX7_larder_52 : decode cX7_larder 52 = .ok (.if_icmp .ge 97, 3) := by decide +kernel
theorem dX7_larder_55 : decode cX7_larder 55 = .ok (.aload_n 0, 1) := by decide +kernel
theorem dX7_larder_56 : decode cX7_larder 56 = .ok (.getfield 13, 3) := by decide +kernel
theorem dX7_larder_59 : decode cX7_larder 59 = .ok (.iconst 5, 1) := by decide +kernel
theorem dX7_larder_60 : decode cX7_larder 60 = .ok (.iload_n 1, 1) := by decide +kernel
theorem dX7_larder_61 : decode cX7_larder 61 = .ok (.imul, 1) := by decide +kernel
theorem dX7_larder_62 : decode cX7_larder 62 = .ok (.aload_n 0, 1) := by decide +kernel
theorem dX7_larder_63 : decode cX7_larder 63 = .ok (.getfield 7, 3) := by decide +kernel
theorem dX7_larder_66 : decode cX7_larder 66 = .ok (.iconst 4, 1) := by decide +kernel
theorem dX7_larder_67 : decode cX7_larder 67 = .ok (.iload_n 1, 1) := by decide +kernel
theorem dX7_larder_68 : decode cX7_larder 68 = .ok (.imul, 1) := by decide +kernel
theorem dX7_larder_69 : decode cX7_larder 69 = .ok (.iaload, 1) := by decide +kernel
theorem dX7_larder_70 : decode cX7_larder 70 = .ok (.invokestatic 47, 3) := by decide +kernel
theorem dX7_larder_73 : decode cX7_larder 73 = .ok (.iastore, 1) := by decide +kernel
theorem dX7_larder_74 : decode cX7_larder 74 = .ok (.aload_n 0, 1) := by decide +kernel
theorem dX7_larder_75 : decode cX7_larder 75 = .ok (.getfield 13, 3) := by decide +kernel
theorem dX7_larder_78 : decode cX7_larder 78 = .ok (.iconst 5, 1) := by decide +kernel
theorem dX7_larder_79 : decode cX7_larder 79 = .ok (.iload_n 1, 1) := by decide +kernel
theorem dX7_larder_80 : decode cX7_larder 80 = .ok (.imul, 1) := by decide +kernel
theorem dX7_larder_81 : decode cX7_larder 81 = .ok (.iconst 1, 1) := by decide +kernel
theorem dX7_larder_82 : decode cX7_larder 82 = .ok (.iadd, 1) := by decide +kernel
theorem dX7_larder_83 : decode cX7_larder 83 = .ok (.aload_n 0, 1) := by decide +kernel
theorem dX7_larder_84 : decode cX7_larder 84 = .ok (.getfield 7, 3) := by decide +kernel
theorem dX7_larder_87 : decode cX7_larder 87 = .ok (.iconst 4, 1) := by decide +kernel
theorem dX7_larder_88 : decode cX7_larder 88 = .ok (.iload_n 1, 1) := by decide +kernel
theorem dX7_larder_89 : decode cX7_larder 89 = .ok (.imul, 1) := by decide +kernel
theorem dX7_larder_90 : decode cX7_larder 90 = .ok (.iconst 1, 1) := by decide +kernel
theorem dX7_larder_91 : decode cX7_larder 91 = .ok (.iadd, 1) := by decide +kernel
theorem dX7_larder_92 : decode cX7_larder 92 = .ok (.iaload, 1) := by decide +kernel
theorem dX7_larder_93 : decode cX7_larder 93 = .ok (.bipush 48, 2) := by decide +kernel
theorem dX7_larder_95 : decode cX7_larder 95 = .ok (.isub, 1) := by decide +kernel
theorem dX7_larder_96 : decode cX7_larder 96 = .ok (.iastore, 1) := by decide +kernel
theorem dX7_larder_97 : decode cX7_larder 97 = .ok (.aload_n 0, 1) := by decide +kernel
theorem dX7_larder_98 : decode cX7_larder 98 = .ok (.getfield 13, 3) := by decide +kernel
theorem dX7_larder_101 : decode cX7_larder 101 = .ok (.iconst 5, 1) := by decide +kernel
theorem dX7_larder_102 : decode cX7_larder 102 = .ok (.iload_n 1, 1) := by decide +kernel
theorem dX7_larder_103 : decode cX7_larder 103 = .ok (.imul, 1) := by decide +kernel
theorem dX7_larder_104 : decode cX7_larder 104 = .ok (.iconst 2, 1) := by decide +kernel
theorem dX7_larder_105 : decode cX7_larder 105 = .ok (.iadd, 1) := by decide +kernel
theorem dX7_larder_106 : decode cX7_larder 106 = .ok (.aload_n 0, 1) := by decide +kernel
theorem dX7_larder_107 : decode cX7_larder 107 = .ok (.getfield 7, 3) := by decide +kernel
theorem dX7_larder_110 : decode cX7_larder 110 = .ok (.iconst 4, 1) := by decide +kernel
theorem dX7_larder_111 : decode cX7_larder 111 = .ok (.iload_n 1, 1) := by decide +kernel
theorem dX7_larder_112 : decode cX7_larder 112 = .ok (.imul, 1) := by decide +kernel
theorem dX7_larder_113 : decode cX7_larder 113 = .ok (.iconst 2, 1) := by decide +kernel
theorem dX7_larder_114 : decode cX7_larder 114 = .ok (.iadd, 1) := by decide +kernel
theorem dX7_larder_115 : decode cX7_larder 115 = .ok (.iaload, 1) := by decide +kernel
theorem dX7_larder_116 : decode cX7_larder 116 = .ok (.bipush 48, 2) := by decide +kernel
theorem dX7_larder_118 : decode cX7_larder 118 = .ok (.isub, 1) := by decide +kernel
theorem dX7_larder_119 : decode cX7_larder 119 = .ok (.iastore, 1) := by decide +kernel
theorem dX7_larder_120 : decode cX7_larder 120 = .ok (.aload_n 0, 1) := by decide +kernel
theorem dX7_larder_121 : decode cX7_larder 121 = .ok (.getfield 13, 3) := by decide +kernel
theorem dX7_larder_124 : decode cX7_larder 124 = .ok (.iconst 5, 1) := by decide +kernel
theorem dX7_larder_125 : decode cX7_larder 125 = .ok (.iload_n 1, 1) := by decide +kernel
theorem dX7_larder_126 : decode cX7_larder 126 = .ok (.imul, 1) := by decide +kernel
theorem dX7_larder_127 : decode cX7_larder 127 = .ok (.iconst 3, 1) := by decide +kernel
theorem dX7_larder_128 : decode cX7_larder 128 = .ok (.iadd, 1) := by decide +kernel
theorem dX7_larder_129 : decode cX7_larder 129 = .ok (.bipush 12, 2) := by decide +kernel
theorem dX7_larder_131 : decode cX7_larder 131 = .ok (.iastore, 1) := by decide +kernel
theorem dX7_larder_132 : decode cX7_larder 132 = .ok (.aload_n 0, 1) := by decide +kernel
theorem dX7_larder_133 : decode cX7_larder 133 = .ok (.getfield 13, 3) := by decide +kernel
theorem dX7_larder_136 : decode cX7_larder 136 = .ok (.iconst 5, 1) := by decide +kernel
theorem dX7_larder_137 : decode cX7_larder 137 = .ok (.iload_n 1, 1) := by decide +kernel
theorem dX7_larder_138 : decode cX7_larder 138 = .ok (.imul, 1) := by decide +kernel
theorem dX7_larder_139 : decode cX7_larder 139 = .ok (.iconst 4, 1) := by decide +kernel
theorem dX7_larder_140 : decode cX7_larder 140 = .ok (.iadd, 1) := by decide +kernel
theorem dX7_larder_141 : decode cX7_larder 141 = .ok (.iconst 0, 1) := by decide +kernel
theorem dX7_larder_142 : decode cX7_larder 142 = .ok (.iastore, 1) := by decide +kernel
theorem dX7_larder_143 : decode cX7_larder 143 = .ok (.iinc 1 1, 3) := by decide +kernel
theorem dX7_larder_146 : decode cX7_larder 146 = .ok (.goto (-99), 3) := by decide +kernel
theorem dX7_larder_149 : decode cX7_larder 149 = .ok (.aload_n 0, 1) := by decide +kernel
theorem dX7_larder_150 : decode cX7_larder 150 = .ok (.iconst 0, 1) := by decide +kernel
theorem dX7_larder_151 : decode cX7_larder 151 = .ok (.putfield 66, 3) := by decide +kernel
theorem dX7_larder_154 : decode cX7_larder 154 = .ok (.aload_n 0, 1) := by decide +kernel
theorem dX7_larder_155 : decode cX7_larder 155 = .ok (.iconst 0, 1) := by decide +kernel
theorem dX7_larder_156 : decode cX7_larder 156 = .ok (.putfield 69, 3) := by decide +kernel
theorem dX7_larder_159 : decode cX7_larder 159 = .ok (.aload_n 0, 1) := by decide +kernel
theorem dX7_larder_160 : decode cX7_larder 160 = .ok (.iconst 0, 1) := by decide +kernel
theorem dX7_larder_161 : decode cX7_larder 161 = .ok (.putfield 72, 3) := by decide +kernel
theorem dX7_larder_164 : decode cX7_larder 164 = .ok (.aload_n 0, 1) := by decide +kernel
theorem dX7_larder_165 : decode cX7_larder 165 = .ok (.iconst 0, 1) := by decide +kernel
theorem dX7_larder_166 : decode cX7_larder 166 = .ok (.putfield 75, 3) := by decide +kernel
theorem dX7_larder_169 : decode cX7_larder 169 = .ok (.aload_n 0, 1) := by decide +kernel
theorem dX7_larder_170 : decode cX7_larder 170 = .ok (.iconst 0, 1) := by decide +kernel
theorem dX7_larder_171 : decode cX7_larder 171 = .ok (.putfield 78, 3) := by decide +kernel
theorem dX7_larder_174 : decode cX7_larder 174 = .ok (.aload_n 0, 1) := by decide +kernel
theorem dX7_larder_175 : decode cX7_larder 175 = .ok (.dup, 1) := by decide +kernel
theorem dX7_larder_176 : decode cX7_larder 176 = .ok (.getfield 81, 3) := by decide +kernel
theorem dX7_larder_179 : decode cX7_larder 179 = .ok (.iconst 1, 1) := by decide +kernel
theorem dX7_larder_180 : decode cX7_larder 180 = .ok (.iadd, 1) := by decide +kernel
theorem dX7_larder_181 : decode cX7_larder 181 = .ok (.putfield 81, 3) := by decide +kernel
theorem dX7_larder_184 : decode cX7_larder 184 = .ok (.aload_n 0, 1) := by decide +kernel
theorem dX7_larder_185 : decode cX7_larder 185 = .ok (.iconst 0, 1) := by decide +kernel
theorem dX7_larder_186 : decode cX7_larder 186 = .ok (.putfield 44, 3) := by decide +kernel
theorem dX7_larder_189 : decode cX7_larder 189 = .ok (.aload_n 0, 1) := by decide +kernel
theorem dX7_larder_190 : decode cX7_larder 190 = .ok (.getfield 63, 3) := by decide +kernel
theorem dX7_larder_193 : decode cX7_larder 193 = .ok (.ireturn, 1) := by decide +kernel
theorem dX7_lacks_0 : decode cX7_lacks 0 = .ok (.aload_n 0, 1) := by decide +kernel
theorem dX7_lacks_1 : decode cX7_lacks 1 = .ok (.getfield 63, 3) := by decide +kernel
theorem dX7_lacks_4 : decode cX7_lacks 4 = .ok (.ifCond .ne 7, 3) := by decide +kernel
theorem dX7_lacks_7 : decode cX7_lacks 7 = .ok (.iconst 1, 1) := by decide +kernel
theorem dX7_lacks_8 : decode cX7_lacks 8 = .ok (.goto 4, 3) := by decide +kernel
theorem dX7_lacks_11 : decode cX7_lacks 11 = .ok (.iconst 0, 1) := by decide +kernel
theorem dX7_lacks_12 : decode cX7_lacks 12 = .ok (.ireturn, 1) := by decide +kernel
set_option maxRecDepth 20000 in
theorem ggX7_isJar_X7_in : GoodIn wsX7_isJar wsX7_in := goodIn_r _ [5] (by decide +kernel) (by decide +kernel)
set_option maxRecDepth 20000 in
theorem gX7_isJar_X7_in : GoodIn wsX7_isJar (va_wsS RX7 40 yX7_in wsX7_in) := goodIn_app (goodIn_of _ (by decide +kernel)) ggX7_isJar_X7_in
theorem dX7_isJar_0 : decode cX7_isJar 0 = .ok (.iload_n 1, 1) := by decide +kernel
theorem dX7_isJar_1 : decode cX7_isJar 1 = .ok (.i2l, 1) := by decide +kernel
theorem dX7_isJar_2 : decode cX7_isJar 2 = .ok (.lconst 0, 1) := by decide +kernel
theorem dX7_isJar_3 : decode cX7_isJar 3 = .ok (.aload_n 0, 1) := by decide +kernel
theorem dX7_isJar_4 : decode cX7_isJar 4 = .ok (.getfield 63, 3) := by decide +kernel
theorem dX7_isJar_7 : decode cX7_isJar 7 = .ok (.iconst 1, 1) := by decide +kernel
theorem dX7_isJar_8 : decode cX7_isJar 8 = .ok (.isub, 1) := by decide +kernel
theorem dX7_isJar_9 : decode cX7_isJar 9 = .ok (.i2l, 1) := by decide +kernel
theorem dX7_isJar_10 : decode cX7_isJar 10 = .ok (.invokestatic 40, 3) := by decide +kernel
theorem dX7_isJar_13 : decode cX7_isJar 13 = .ok (.ireturn, 1) := by decide +kernel
theorem dX7_mouldIn_0 : decode cX7_mouldIn 0 = .ok (.aload_n 0, 1) := by decide +kernel
theorem dX7_mouldIn_1 : decode cX7_mouldIn 1 = .ok (.getfield 13, 3) := by decide +kernel
theorem dX7_mouldIn_4 : decode cX7_mouldIn 4 = .ok (.iconst 5, 1) := by decide +kernel
theorem dX7_mouldIn_5 : decode cX7_mouldIn 5 = .ok (.iload_n 1, 1) := by decide +kernel
theorem dX7_mouldIn_6 : decode cX7_mouldIn 6 = .ok (.imul, 1) := by decide +kernel
theorem dX7_mouldIn_7 : decode cX7_mouldIn 7 = .ok (.iaload, 1) := by decide +kernel
theorem dX7_mouldIn_8 : decode cX7_mouldIn 8 = .ok (.istore_n 3, 1) := by decide +kernel
theorem dX7_mouldIn_9 : decode cX7_mouldIn 9 = .ok (.iconst 3, 1) := by decide +kernel
theorem dX7_mouldIn_10 : decode cX7_mouldIn 10 = .ok (.aload_n 0, 1) := by decide +kernel
theorem dX7_mouldIn_11 : decode cX7_mouldIn 11 = .ok (.getfield 13, 3) := by decide +kernel
theorem dX7_mouldIn_14 : decode cX7_mouldIn 14 = .ok (.iconst 5, 1) := by decide +kernel
theorem dX7_mouldIn_15 : decode cX7_mouldIn 15 = .ok (.iload_n 1, 1) := by decide +kernel
theorem dX7_mouldIn_16 : decode cX7_mouldIn 16 = .ok (.imul, 1) := by decide +kernel
theorem dX7_mouldIn_17 : decode cX7_mouldIn 17 = .ok (.iconst 2, 1) := by decide +kernel
theorem dX7_mouldIn_18 : decode cX7_mouldIn 18 = .ok (.iadd, 1) := by decide +kernel
theorem dX7_mouldIn_19 : decode cX7_mouldIn 19 = .ok (.iaload, 1) := by decide +kernel
theorem dX7_mouldIn_20 : decode cX7_mouldIn 20 = .ok (.iconst 3, 1) := by decide +kernel
theorem dX7_mouldIn_21 : decode cX7_mouldIn 21 = .ok (.idiv, 1) := by decide +kernel
theorem dX7_mouldIn_22 : decode cX7_mouldIn 22 = .ok (.isub, 1) := by decide +kernel
theorem dX7_mouldIn_23 : decode cX7_mouldIn 23 = .ok (.iload_n 3, 1) := by decide +kernel
theorem dX7_mouldIn_24 : decode cX7_mouldIn 24 = .ok (.iconst 1, 1) := by decide +kernel
theorem dX7_mouldIn_25 : decode cX7_mouldIn 25 = .ok (.if_icmp .ne 7, 3) := by decide +kernel
theorem dX7_mouldIn_28 : decode cX7_mouldIn 28 = .ok (.iconst 1, 1) := by decide +kernel
theorem dX7_mouldIn_29 : decode cX7_mouldIn 29 = .ok (.goto 4, 3) := by decide +kernel
theorem dX7_mouldIn_32 : decode cX7_mouldIn 32 = .ok (.iconst 0, 1) := by decide +kernel
theorem dX7_mouldIn_33 : decode cX7_mouldIn 33 = .ok (.iadd, 1) := by decide +kernel
theorem dX7_mouldIn_34 : decode cX7_mouldIn 34 = .ok (.istore 4, 2) := by decide +kernel
theorem dX7_mouldIn_36 : decode cX7_mouldIn 36 = .ok (.iload_n 3, 1) := by decide +kernel
theorem dX7_mouldIn_37 : decode cX7_mouldIn 37 = .ok (.iconst 2, 1) := by decide +kernel
theorem dX7_mouldIn_38 : decode cX7_mouldIn 38 = .ok (.if_icmp .eq 8, 3) := by decide +kernel
theorem dX7_mouldIn_41 : decode cX7_mouldIn 41 = .ok (.iload_n 3, 1) := by decide +kernel
theorem dX7_mouldIn_42 : decode cX7_mouldIn 42 = .ok (.iconst 4, 1) := by decide +kernel
theorem dX7_mouldIn_43 : decode cX7_mouldIn 43 = .ok (.if_icmp .ne 7, 3) := by decide +kernel
theorem dX7_mouldIn_46 : decode cX7_mouldIn 46 = .ok (.iconst 0, 1) := by decide +kernel
theorem dX7_mouldIn_47 : decode cX7_mouldIn 47 = .ok (.goto 7, 3) := by decide +kernel
theorem dX7_mouldIn_50 : decode cX7_mouldIn 50 = .ok (.iload 4, 2) := by decide +kernel
theorem dX7_mouldIn_52 : decode cX7_mouldIn 52 = .ok (.iload_n 2, 1) := by decide +kernel
theorem dX7_mouldIn_53 : decode cX7_mouldIn 53 = .ok (.imul, 1) := by decide +kernel
theorem dX7_mouldIn_54 : decode cX7_mouldIn 54 = .ok (.istore 5, 2) := by decide +kernel
theorem dX7_mouldIn_56 : decode cX7_mouldIn 56 = .ok (.iload 5, 2) := by decide +kernel
theorem dX7_mouldIn_58 : decode cX7_mouldIn 58 = .ok (.bipush 20, 2) := by decide +kernel
theorem dX7_mouldIn_60 : decode cX7_mouldIn 60 = .ok (.if_icmp .le 8, 3) := by decide +kernel
theorem dX7_mouldIn_63 : decode cX7_mouldIn 63 = .ok (.bipush 20, 2) := by decide +kernel
theorem dX7_mouldIn_65 : decode cX7_mouldIn 65 = .ok (.goto 5, 3) := by decide +kernel
theorem dX7_mouldIn_68 : decode cX7_mouldIn 68 = .ok (.iload 5, 2) := by decide +kernel
theorem dX7_mouldIn_70 : decode cX7_mouldIn 70 = .ok (.ireturn, 1) := by decide +kernel
set_option maxRecDepth 20000 in
theorem ggX7_firstIn_X7_mouldIn : GoodIn wsX7_firstIn wsX7_mouldIn := goodIn_r _ [6, 1, 7, 8, 9, 10, 11, 12, 13, 14, 15, 16, 17, 18, 19, 20, 21, 22, 23, 24, 25, 26, 27, 28, 29, 30, 31] (by decide +kernel) (by decide +kernel)
set_option maxRecDepth 20000 in
theorem gX7_firstIn_X7_mouldIn : GoodIn wsX7_firstIn (wsV RX7 84 RX7 yX7_mouldIn wsX7_mouldIn) := goodIn_app (goodIn_of _ (by decide +kernel)) ggX7_firstIn_X7_mouldIn
theorem dX7_firstIn_0 : decode cX7_firstIn 0 = .ok (.aload_n 0, 1) := by decide +kernel
theorem dX7_firstIn_1 : decode cX7_firstIn 1 = .ok (.getfield 13, 3) := by decide +kernel
theorem dX7_firstIn_4 : decode cX7_firstIn 4 = .ok (.iconst 5, 1) := by decide +kernel
theorem dX7_firstIn_5 : decode cX7_firstIn 5 = .ok (.iload_n 1, 1) := by decide +kernel
theorem dX7_firstIn_6 : decode cX7_firstIn 6 = .ok (.imul, 1) := by decide +kernel
theorem dX7_firstIn_7 : decode cX7_firstIn 7 = .ok (.iaload, 1) := by decide +kernel
theorem dX7_firstIn_8 : decode cX7_firstIn 8 = .ok (.istore_n 3, 1) := by decide +kernel
theorem dX7_firstIn_9 : decode cX7_firstIn 9 = .ok (.aload_n 0, 1) := by decide +kernel
theorem dX7_firstIn_10 : decode cX7_firstIn 10 = .ok (.getfield 13, 3) := by decide +kernel
theorem dX7_firstIn_13 : decode cX7_firstIn 13 = .ok (.iconst 5, 1) := by decide +kernel
theorem dX7_firstIn_14 : decode cX7_firstIn 14 = .ok (.iload_n 1, 1) := by decide +kernel
theorem dX7_firstIn_15 : decode cX7_firstIn 15 = .ok (.imul, 1) := by decide +kernel
theorem dX7_firstIn_16 : decode cX7_firstIn 16 = .ok (.iconst 1, 1) := by decide +kernel
theorem dX7_firstIn_17 : decode cX7_firstIn 17 = .ok (.iadd, 1) := by decide +kernel
theorem dX7_firstIn_18 : decode cX7_firstIn 18 = .ok (.iaload, 1) := by decide +kernel
theorem dX7_firstIn_19 : decode cX7_firstIn 19 = .ok (.aload_n 0, 1) := by decide +kernel
theorem dX7_firstIn_20 : decode cX7_firstIn 20 = .ok (.iload_n 1, 1) := by decide +kernel
theorem dX7_firstIn_21 : decode cX7_firstIn 21 = .ok (.iload_n 2, 1) := by decide +kernel
theorem dX7_firstIn_22 : decode cX7_firstIn 22 = .ok (.invokevirtual 84, 3) := by decide +kernel
theorem dX7_firstIn_25 : decode cX7_firstIn 25 = .ok (.isub, 1) := by decide +kernel
theorem dX7_firstIn_26 : decode cX7_firstIn 26 = .ok (.istore 4, 2) := by decide +kernel
theorem dX7_firstIn_28 : decode cX7_firstIn 28 = .ok (.iload_n 3, 1) := by decide +kernel
theorem dX7_firstIn_29 : decode cX7_firstIn 29 = .ok (.iconst 4, 1) := by decide +kernel
theorem dX7_firstIn_30 : decode cX7_firstIn 30 = .ok (.if_icmp .ne 10, 3) := by decide +kernel
theorem dX7_firstIn_33 : decode cX7_firstIn 33 = .ok (.iconst 2, 1) := by decide +kernel
theorem dX7_firstIn_34 : decode cX7_firstIn 34 = .ok (.iload 4, 2) := by decide +kernel
theorem dX7_firstIn_36 : decode cX7_firstIn 36 = .ok (.imul, 1) := by decide +kernel
theorem dX7_firstIn_37 : decode cX7_firstIn 37 = .ok (.goto 24, 3) := by decide +kernel
theorem dX7_firstIn_40 : decode cX7_firstIn 40 = .ok (.iload_n 3, 1) := by decide +kernel
theorem dX7_firstIn_41 : decode cX7_firstIn 41 = .ok (.iconst 3, 1) := by decide +kernel
theorem dX7_firstIn_42 : decode cX7_firstIn 42 = .ok (.if_icmp .ne 17, 3) := by decide +kernel
theorem dX7_firstIn_45 : decode cX7_firstIn 45 = .ok (.iload_n 2, 1) := by decide +kernel
theorem dX7_firstIn_46 : decode cX7_firstIn 46 = .ok (.iconst 2, 1) := by decide +kernel
theorem dX7_firstIn_47 : decode cX7_firstIn 47 = .ok (.irem, 1) := by decide +kernel
theorem dX7_firstIn_48 : decode cX7_firstIn 48 = .ok (.iconst 1, 1) := by decide +kernel
theorem dX7_firstIn_49 : decode cX7_firstIn 49 = .ok (.if_icmp .ne 10, 3) := by decide +kernel
theorem dX7_firstIn_52 : decode cX7_firstIn 52 = .ok (.iload 4, 2) := by decide +kernel
theorem dX7_firstIn_54 : decode cX7_firstIn 54 = .ok (.iconst 3, 1) := by decide +kernel
theorem dX7_firstIn_55 : decode cX7_firstIn 55 = .ok (.iadd, 1) := by decide +kernel
theorem dX7_firstIn_56 : decode cX7_firstIn 56 = .ok (.goto 5, 3) := by decide +kernel
theorem dX7_firstIn_59 : decode cX7_firstIn 59 = .ok (.iload 4, 2) := by decide +kernel
theorem dX7_firstIn_61 : decode cX7_firstIn 61 = .ok (.ireturn, 1) := by decide +kernel
set_option maxRecDepth 20000 in
theorem ggX7_nextNow_X7_firstIn : GoodIn wsX7_nextNow wsX7_firstIn := goodIn_r _ [7, 2, 8, 9, 10, 6, 11, 12, 13, 14, 15, 16, 17, 18, 19, 20, 21, 22, 23, 24, 25, 26, 27, 28, 29, 30, 31, 32, 33, 34, 35, 36] (by decide +kernel) (by decide +kernel)
set_option maxRecDepth 20000 in
theorem gX7_nextNow_X7_firstIn : GoodIn wsX7_nextNow (wsV RX7 88 RX7 yX7_firstIn wsX7_firstIn) := goodIn_app (goodIn_of _ (by decide +kernel)) ggX7_nextNow_X7_firstIn
theorem dX7_nextNow_0 : decode cX7_nextNow 0 = .ok (.aload_n 0, 1) := by decide +kernel
theorem dX7_nextNow_1 : decode cX7_nextNow 1 = .ok (.iload_n 1, 1) := by decide +kernel
theorem dX7_nextNow_2 : decode cX7_nextNow 2 = .ok (.aload_n 0, 1) := by decide +kernel
theorem dX7_nextNow_3 : decode cX7_nextNow 3 = .ok (.getfield 66, 3) := by decide +kernel
theorem dX7_nextNow_6 : decode cX7_nextNow 6 = .ok (.invokevirtual 88, 3) := by decide +kernel
theorem dX7_nextNow_9 : decode cX7_nextNow 9 = .ok (.aload_n 0, 1) := by decide +kernel
theorem dX7_nextNow_10 : decode cX7_nextNow 10 = .ok (.getfield 13, 3) := by decide +kernel
theorem dX7_nextNow_13 : decode cX7_nextNow 13 = .ok (.iconst 5, 1) := by decide +kernel
theorem dX7_nextNow_14 : decode cX7_nextNow 14 = .ok (.iload_n 1, 1) := by decide +kernel
theorem dX7_nextNow_15 : decode cX7_nextNow 15 = .ok (.imul, 1) := by decide +kernel
theorem dX7_nextNow_16 : decode cX7_nextNow 16 = .ok (.iconst 4, 1) := by decide +kernel
theorem dX7_nextNow_17 : decode cX7_nextNow 17 = .ok (.iadd, 1) := by decide +kernel
theorem dX7_nextNow_18 : decode cX7_nextNow 18 = .ok (.iaload, 1) := by decide +kernel
theorem dX7_nextNow_19 : decode cX7_nextNow 19 = .ok (.isub, 1) := by decide +kernel
theorem dX7_nextNow_20 : decode cX7_nextNow 20 = .ok (.ireturn, 1) := by decide +kernel
set_option maxRecDepth 20000 in
theorem ggX7_whenOf_X7_firstIn : GoodIn wsX7_whenOf wsX7_firstIn := goodIn_r _ [7, 8, 9, 10, 11, 6, 12, 13, 14, 15, 16, 17, 18, 19, 20, 21, 22, 23, 24, 25, 26, 27, 28, 29, 30, 31, 32, 33, 34, 35, 36, 37] (by decide +kernel) (by decide +kernel)
set_option maxRecDepth 20000 in
theorem gX7_whenOf_X7_firstIn : GoodIn wsX7_whenOf (wsV RX7 88 RX7 yX7_firstIn wsX7_firstIn) := goodIn_app (goodIn_of _ (by decide +kernel)) ggX7_whenOf_X7_firstIn
theorem dX7_whenOf_0 : decode cX7_whenOf 0 = .ok (.iconst (-1), 1) := by decide +kernel
theorem dX7_whenOf_1 : decode cX7_whenOf 1 = .ok (.istore_n 2, 1) := by decide +kernel
theorem dX7_whenOf_2 : decode cX7_whenOf 2 = .ok (.ldc 91, 2) := by decide +kernel
theorem dX7_whenOf_4 : decode cX7_whenOf 4 = .ok (.istore_n 3, 1) := by decide +kernel
theorem dX7_whenOf_5 : decode cX7_whenOf 5 = .ok (.iconst 0, 1) := by decide +kernel
theorem dX7_whenOf_6 : decode cX7_whenOf 6 = .ok (.istore 4, 2) := by decide +kernel
theorem dX7_whenOf_8 : decode cX7_whenOf 8 = .ok (.iload 4, 2) := by decide +kernel
theorem dX7_whenOf_10 : decode cX7_whenOf 10 = .ok (.bipush 10, 2) := by decide +kernel
theorem dX7_whenOf_12 : decode cX7_whenOf 12 = .ok (.if_icmp .ge 49, 3) := by decide +kernel
theorem dX7_whenOf_15 : decode cX7_whenOf 15 = .ok (.aload_n 0, 1) := by decide +kernel
theorem dX7_whenOf_16 : decode cX7_whenOf 16 = .ok (.iload_n 1, 1) := by decide +kernel
theorem dX7_whenOf_17 : decode cX7_whenOf 17 = .ok (.aload_n 0, 1) := by decide +kernel
theorem dX7_whenOf_18 : decode cX7_whenOf 18 = .ok (.getfield 66, 3) := by decide +kernel
theorem dX7_whenOf_21 : decode cX7_whenOf 21 = .ok (.iload 4, 2) := by decide +kernel
theorem dX7_whenOf_23 : decode cX7_whenOf 23 = .ok (.iadd, 1) := by decide +kernel
theorem dX7_whenOf_24 : decode cX7_whenOf 24 = .ok (.invokevirtual 88, 3) := by decide +kernel
theorem dX7_whenOf_27 : decode cX7_whenOf 27 = .ok (.istore 5, 2) := by decide +kernel
theorem dX7_whenOf_29 : decode cX7_whenOf 29 = .ok (.iload 5, 2) := by decide +kernel
theorem dX7_whenOf_31 : decode cX7_whenOf 31 = .ok (.iload_n 3, 1) := by decide +kernel
theorem dX7_whenOf_32 : decode cX7_whenOf 32 = .ok (.if_icmp .le 8, 3) := by decide +kernel
theorem dX7_whenOf_35 : decode cX7_whenOf 35 = .ok (.iload 4, 2) := by decide +kernel
theorem dX7_whenOf_37 : decode cX7_whenOf 37 = .ok (.goto 4, 3) := by decide +kernel
theorem dX7_whenOf_40 : decode cX7_whenOf 40 = .ok (.iload_n 2, 1) := by decide +kernel
theorem dX7_whenOf_41 : decode cX7_whenOf 41 = .ok (.istore_n 2, 1) := by decide +kernel
theorem dX7_whenOf_42 : decode cX7_whenOf 42 = .ok (.iload 5, 2) := by decide +kernel
theorem dX7_whenOf_44 : decode cX7_whenOf 44 = .ok (.iload_n 3, 1) := by decide +kernel
theorem dX7_whenOf_45 : decode cX7_whenOf 45 = .ok (.if_icmp .le 8, 3) := by decide +kernel
theorem dX7_whenOf_48 : decode cX7_whenOf 48 = .ok (.iload 5, 2) := by decide +kernel
theorem dX7_whenOf_50 : decode cX7_whenOf 50 = .ok (.goto 4, 3) := by decide +kernel
theorem dX7_whenOf_53 : decode cX7_whenOf 53 = .ok (.iload_n 3, 1) := by decide +kernel
theorem dX7_whenOf_54 : decode cX7_whenOf 54 = .ok (.istore_n 3, 1) := by decide +kernel
theorem dX7_whenOf_55 : decode cX7_whenOf 55 = .ok (.iinc 4 1, 3) := by decide +kernel
theorem dX7_whenOf_58 : decode cX7_whenOf 58 = .ok (.goto (-50), 3) := by decide +kernel
theorem dX7_whenOf_61 : decode cX7_whenOf 61 = .ok (.iload_n 2, 1) := by decide +kernel
theorem dX7_whenOf_62 : decode cX7_whenOf 62 = .ok (.ireturn, 1) := by decide +kernel
set_option maxRecDepth 20000 in
theorem ggX7_tell_X7_mouldIn : GoodIn wsX7_tell wsX7_mouldIn := goodIn_r _ [7, 1, 21, 22, 23, 24, 25, 26, 27, 28, 29, 30, 31, 32, 33, 34, 35, 36, 37, 38, 39, 40, 41, 42, 43, 44, 45] (by decide +kernel) (by decide +kernel)
set_option maxRecDepth 20000 in
theorem gX7_tell_X7_mouldIn : GoodIn wsX7_tell (wsV RX7 84 RX7 yX7_mouldIn wsX7_mouldIn) := goodIn_app (goodIn_of _ (by decide +kernel)) ggX7_tell_X7_mouldIn
set_option maxRecDepth 20000 in
theorem ggX7_tell_X7_nextNow : GoodIn wsX7_tell wsX7_nextNow := goodIn_r _ [11, 2, 1, 12, 13, 14, 6, 15, 3, 4, 5, 7, 21, 22, 23, 24, 25, 26, 27, 28, 29, 30, 31, 32, 33, 34, 35, 36, 37, 38, 39, 40, 41, 42, 43, 44, 45] (by decide +kernel) (by decide +kernel)
set_option maxRecDepth 20000 in
theorem gX7_tell_X7_nextNow : GoodIn wsX7_tell (wsV RX7 92 RX7 yX7_nextNow wsX7_nextNow) := goodIn_app (goodIn_of _ (by decide +kernel)) ggX7_tell_X7_nextNow
set_option maxRecDepth 20000 in
theorem ggX7_tell_X7_whenOf : GoodIn wsX7_tell wsX7_whenOf := goodIn_r _ [19, 20, 2, 12, 13, 14, 6, 15, 1, 3, 4, 5, 7, 21, 22, 23, 24, 25, 26, 27, 28, 29, 30, 31, 32, 33, 34, 35, 36, 37, 38, 39, 40, 41, 42, 43, 44, 45] (by decide +kernel) (by decide +kernel)
set_option maxRecDepth 20000 in
theorem gX7_tell_X7_whenOf : GoodIn wsX7_tell (wsV RX7 95 RX7 yX7_whenOf wsX7_whenOf) := goodIn_app (goodIn_of _ (by decide +kernel)) ggX7_tell_X7_whenOf
theorem dX7_tell_0 : decode cX7_tell 0 = .ok (.iload_n 2, 1) := by decide +kernel
theorem dX7_tell_1 : decode cX7_tell 1 = .ok (.tableswitch 94 0 7 #[47, 47, 47, 47, 58, 68, 77, 88], 47) := by decide +kernel
theorem dX7_tell_48 : decode cX7_tell 48 = .ok (.aload_n 0, 1) := by decide +kernel
theorem dX7_tell_49 : decode cX7_tell 49 = .ok (.getfield 13, 3) := by decide +kernel
theorem dX7_tell_52 : decode cX7_tell 52 = .ok (.iconst 5, 1) := by decide +kernel
theorem dX7_tell_53 : decode cX7_tell 53 = .ok (.iload_n 1, 1) := by decide +kernel
theorem dX7_tell_54 : decode cX7_tell 54 = .ok (.imul, 1) := by decide +kernel
theorem dX7_tell_55 : decode cX7_tell 55 = .ok (.iload_n 2, 1) := by decide +kernel
theorem dX7_tell_56 : decode cX7_tell 56 = .ok (.iadd, 1) := by decide +kernel
theorem dX7_tell_57 : decode cX7_tell 57 = .ok (.iaload, 1) := by decide +kernel
theorem dX7_tell_58 : decode cX7_tell 58 = .ok (.ireturn, 1) := by decide +kernel
theorem dX7_tell_59 : decode cX7_tell 59 = .ok (.aload_n 0, 1) := by decide +kernel
theorem dX7_tell_60 : decode cX7_tell 60 = .ok (.iload_n 1, 1) := by decide +kernel
theorem dX7_tell_61 : decode cX7_tell 61 = .ok (.aload_n 0, 1) := by decide +kernel
theorem dX7_tell_62 : decode cX7_tell 62 = .ok (.getfield 66, 3) := by decide +kernel
theorem dX7_tell_65 : decode cX7_tell 65 = .ok (.invokevirtual 84, 3) := by decide +kernel
theorem dX7_tell_68 : decode cX7_tell 68 = .ok (.ireturn, 1) := by decide +kernel
theorem dX7_tell_69 : decode cX7_tell 69 = .ok (.aload_n 0, 1) := by decide +kernel
theorem dX7_tell_70 : decode cX7_tell 70 = .ok (.iload_n 1, 1) := by decide +kernel
theorem dX7_tell_71 : decode cX7_tell 71 = .ok (.invokevirtual 92, 3) := by decide +kernel
theorem dX7_tell_74 : decode cX7_tell 74 = .ok (.bipush 100, 2) := by decide +kernel
theorem dX7_tell_76 : decode cX7_tell 76 = .ok (.iadd, 1) := by decide +kernel
theorem dX7_tell_77 : decode cX7_tell 77 = .ok (.ireturn, 1) := by decide +kernel
theorem dX7_tell_78 : decode cX7_tell 78 = .ok (.aload_n 0, 1) := by decide +kernel
theorem dX7_tell_79 : decode cX7_tell 79 = .ok (.getfield 13, 3) := by decide +kernel
theorem dX7_tell_82 : decode cX7_tell 82 = .ok (.iconst 5, 1) := by decide +kernel
theorem dX7_tell_83 : decode cX7_tell 83 = .ok (.iload_n 1, 1) := by decide +kernel
theorem dX7_tell_84 : decode cX7_tell 84 = .ok (.imul, 1) := by decide +kernel
theorem dX7_tell_85 : decode cX7_tell 85 = .ok (.iconst 4, 1) := by decide +kernel
theorem dX7_tell_86 : decode cX7_tell 86 = .ok (.iadd, 1) := by decide +kernel
theorem dX7_tell_87 : decode cX7_tell 87 = .ok (.iaload, 1) := by decide +kernel
theorem dX7_tell_88 : decode cX7_tell 88 = .ok (.ireturn, 1) := by decide +kernel
theorem dX7_tell_89 : decode cX7_tell 89 = .ok (.aload_n 0, 1) := by decide +kernel
theorem dX7_tell_90 : decode cX7_tell 90 = .ok (.iload_n 1, 1) := by decide +kernel
theorem dX7_tell_91 : decode cX7_tell 91 = .ok (.invokevirtual 95, 3) := by decide +kernel
theorem dX7_tell_94 : decode cX7_tell 94 = .ok (.ireturn, 1) := by decide +kernel
theorem dX7_tell_95 : decode cX7_tell 95 = .ok (.bipush (-102), 2) := by decide +kernel
theorem dX7_tell_97 : decode cX7_tell 97 = .ok (.ireturn, 1) := by decide +kernel
set_option maxRecDepth 20000 in
theorem ggX7_jar_X7_isJar : GoodIn wsX7_jar wsX7_isJar := goodIn_r _ [5, 6, 7, 8, 4, 9, 33, 34, 35, 36, 37, 38, 39, 40, 41, 42, 43, 44, 45, 46, 47, 48, 49, 50, 51, 52, 53, 54, 55, 56, 57] (by decide +kernel) (by decide +kernel)
set_option maxRecDepth 20000 in
theorem gX7_jar_X7_isJar : GoodIn wsX7_jar (wsV RX7 98 RX7 yX7_isJar wsX7_isJar) := goodIn_app (goodIn_of _ (by decide +kernel)) ggX7_jar_X7_isJar
set_option maxRecDepth 20000 in
theorem ggX7_jar_X7_tell : GoodIn wsX7_jar wsX7_tell := goodIn_r _ [13, 14, 15, 16, 17, 18, 4, 19, 20, 21, 22, 23, 24, 25, 26, 27, 28, 29, 30, 31, 32, 33, 34, 35, 36, 37, 38, 39, 40, 41, 42, 43, 44, 45, 46, 47, 48, 49, 50, 51, 52, 53, 54, 55, 56, 57] (by decide +kernel) (by decide +kernel)
set_option maxRecDepth 20000 in
theorem gX7_jar_X7_tell : GoodIn wsX7_jar (wsV RX7 102 RX7 yX7_tell wsX7_tell) := goodIn_app (goodIn_of _ (by decide +kernel)) ggX7_jar_X7_tell
theorem dX7_jar_0 : decode cX7_jar 0 = .ok (.aload_n 0, 1) := by decide +kernel
theorem dX7_jar_1 : decode cX7_jar 1 = .ok (.iload_n 1, 1) := by decide +kernel
theorem dX7_jar_2 : decode cX7_jar 2 = .ok (.invokevirtual 98, 3) := by decide +kernel
theorem dX7_jar_5 : decode cX7_jar 5 = .ok (.ifCond .eq 12, 3) := by decide +kernel
theorem dX7_jar_8 : decode cX7_jar 8 = .ok (.aload_n 0, 1) := by decide +kernel
theorem dX7_jar_9 : decode cX7_jar 9 = .ok (.iload_n 1, 1) := by decide +kernel
theorem dX7_jar_10 : decode cX7_jar 10 = .ok (.iload_n 2, 1) := by decide +kernel
theorem dX7_jar_11 : decode cX7_jar 11 = .ok (.invokevirtual 102, 3) := by decide +kernel
theorem dX7_jar_14 : decode cX7_jar 14 = .ok (.goto 5, 3) := by decide +kernel
theorem dX7_jar_17 : decode cX7_jar 17 = .ok (.bipush (-101), 2) := by decide +kernel
theorem dX7_jar_19 : decode cX7_jar 19 = .ok (.ireturn, 1) := by decide +kernel
set_option maxRecDepth 20000 in
theorem ggX7_as_X7_isJar : GoodIn wsX7_as wsX7_isJar := goodIn_r _ [7, 8, 9, 10, 6, 11, 12, 13, 14, 15, 16, 17, 18, 19, 20, 21, 22, 23, 24, 25, 26, 27, 28, 29, 30, 31, 32, 33, 34, 35, 36] (by decide +kernel) (by decide +kernel)
set_option maxRecDepth 20000 in
theorem gX7_as_X7_isJar : GoodIn wsX7_as (wsV RX7 98 RX7 yX7_isJar wsX7_isJar) := goodIn_app (goodIn_of _ (by decide +kernel)) ggX7_as_X7_isJar
set_option maxRecDepth 20000 in
theorem ggX7_as_X7_in : GoodIn wsX7_as wsX7_in := goodIn_r _ [11] (by decide +kernel) (by decide +kernel)
set_option maxRecDepth 20000 in
theorem gX7_as_X7_in : GoodIn wsX7_as (va_wsS RX7 40 yX7_in wsX7_in) := goodIn_app (goodIn_of _ (by decide +kernel)) ggX7_as_X7_in
theorem dX7_as_0 : decode cX7_as 0 = .ok (.aload_n 0, 1) := by decide +kernel
theorem dX7_as_1 : decode cX7_as 1 = .ok (.iload_n 1, 1) := by decide +kernel
theorem dX7_as_2 : decode cX7_as 2 = .ok (.invokevirtual 98, 3) := by decide +kernel
theorem dX7_as_5 : decode cX7_as 5 = .ok (.ifCond .ne 6, 3) := by decide +kernel
theorem dX7_as_8 : decode cX7_as 8 = .ok (.bipush (-101), 2) := by decide +kernel
theorem dX7_as_10 : decode cX7_as 10 = .ok (.ireturn, 1) := by decide +kernel
theorem dX7_as_11 : decode cX7_as 11 = .ok (.iload_n 2, 1) := by decide +kernel
theorem dX7_as_12 : decode cX7_as 12 = .ok (.i2l, 1) := by decide +kernel
theorem dX7_as_13 : decode cX7_as 13 = .ok (.lconst 0, 1) := by decide +kernel
theorem dX7_as_14 : decode cX7_as 14 = .ok (.ldc2_w 105, 3) := by decide +kernel
theorem dX7_as_17 : decode cX7_as 17 = .ok (.invokestatic 40, 3) := by decide +kernel
theorem dX7_as_20 : decode cX7_as 20 = .ok (.ifCond .ne 6, 3) := by decide +kernel
theorem dX7_as_23 : decode cX7_as 23 = .ok (.bipush (-102), 2) := by decide +kernel
theorem dX7_as_25 : decode cX7_as 25 = .ok (.ireturn, 1) := by decide +kernel
theorem dX7_as_26 : decode cX7_as 26 = .ok (.aload_n 0, 1) := by decide +kernel
theorem dX7_as_27 : decode cX7_as 27 = .ok (.getfield 13, 3) := by decide +kernel
theorem dX7_as_30 : decode cX7_as 30 = .ok (.iconst 5, 1) := by decide +kernel
theorem dX7_as_31 : decode cX7_as 31 = .ok (.iload_n 1, 1) := by decide +kernel
theorem dX7_as_32 : decode cX7_as 32 = .ok (.imul, 1) := by decide +kernel
theorem dX7_as_33 : decode cX7_as 33 = .ok (.iaload, 1) := by decide +kernel
theorem dX7_as_34 : decode cX7_as 34 = .ok (.istore_n 3, 1) := by decide +kernel
theorem dX7_as_35 : decode cX7_as 35 = .ok (.iload_n 2, 1) := by decide +kernel
theorem dX7_as_36 : decode cX7_as 36 = .ok (.ifCond .eq 18, 3) := by decide +kernel
theorem dX7_as_39 : decode cX7_as 39 = .ok (.iload_n 2, 1) := by decide +kernel
theorem dX7_as_40 : decode cX7_as 40 = .ok (.iload_n 3, 1) := by decide +kernel
theorem dX7_as_41 : decode cX7_as 41 = .ok (.if_icmp .eq 13, 3) := by decide +kernel
theorem dX7_as_44 : decode cX7_as 44 = .ok (.iload_n 2, 1) := by decide +kernel
theorem dX7_as_45 : decode cX7_as 45 = .ok (.iconst 2, 1) := by decide +kernel
theorem dX7_as_46 : decode cX7_as 46 = .ok (.if_icmp .ne 12, 3) := by decide +kernel
theorem dX7_as_49 : decode cX7_as 49 = .ok (.iload_n 3, 1) := by decide +kernel
theorem dX7_as_50 : decode cX7_as 50 = .ok (.iconst 4, 1) := by decide +kernel
theorem dX7_as_51 : decode cX7_as 51 = .ok (.if_icmp .ne 7, 3) := by decide +kernel
theorem dX7_as_54 : decode cX7_as 54 = .ok (.iconst 1, 1) := by decide +kernel
theorem dX7_as_55 : decode cX7_as 55 = .ok (.goto 4, 3) := by decide +kernel
theorem dX7_as_58 : decode cX7_as 58 = .ok (.iconst 0, 1) := by decide +kernel
theorem dX7_as_59 : decode cX7_as 59 = .ok (.istore 4, 2) := by decide +kernel
theorem dX7_as_61 : decode cX7_as 61 = .ok (.iload 4, 2) := by decide +kernel
theorem dX7_as_63 : decode cX7_as 63 = .ok (.ifCond .eq 7, 3) := by decide +kernel
theorem dX7_as_66 : decode cX7_as 66 = .ok (.iload_n 1, 1) := by decide +kernel
theorem dX7_as_67 : decode cX7_as 67 = .ok (.goto 4, 3) := by decide +kernel
theorem dX7_as_70 : decode cX7_as 70 = .ok (.iconst (-1), 1) := by decide +kernel
theorem dX7_as_71 : decode cX7_as 71 = .ok (.ireturn, 1) := by decide +kernel
set_option maxRecDepth 20000 in
theorem ggX7_worth_X7_isJar : GoodIn wsX7_worth wsX7_isJar := goodIn_r _ [6, 7, 8, 9, 5, 10, 20, 21, 22, 23, 24, 25, 26, 27, 28, 29, 30, 31, 32, 33, 34, 35, 36, 37, 38, 39, 40, 41, 42, 43, 44] (by decide +kernel) (by decide +kernel)
set_option maxRecDepth 20000 in
theorem gX7_worth_X7_isJar : GoodIn wsX7_worth (wsV RX7 98 RX7 yX7_isJar wsX7_isJar) := goodIn_app (goodIn_of _ (by decide +kernel)) ggX7_worth_X7_isJar
set_option maxRecDepth 20000 in
theorem ggX7_worth_X7_in : GoodIn wsX7_worth wsX7_in := goodIn_r _ [10] (by decide +kernel) (by decide +kernel)
set_option maxRecDepth 20000 in
theorem gX7_worth_X7_in : GoodIn wsX7_worth (va_wsS RX7 40 yX7_in wsX7_in) := goodIn_app (goodIn_of _ (by decide +kernel)) ggX7_worth_X7_in
set_option maxRecDepth 20000 in
theorem ggX7_worth_X7_firstIn : GoodIn wsX7_worth wsX7_firstIn := goodIn_r _ [14, 15, 16, 17, 18, 5, 19, 20, 21, 22, 23, 24, 25, 26, 27, 28, 29, 30, 31, 32, 33, 34, 35, 36, 37, 38, 39, 40, 41, 42, 43, 44] (by decide +kernel) (by decide +kernel)
set_option maxRecDepth 20000 in
theorem gX7_worth_X7_firstIn : GoodIn wsX7_worth (wsV RX7 88 RX7 yX7_firstIn wsX7_firstIn) := goodIn_app (goodIn_of _ (by decide +kernel)) ggX7_worth_X7_firstIn
theorem dX7_worth_0 : decode cX7_worth 0 = .ok (.aload_n 0, 1) := by decide +kernel
theorem dX7_worth_1 : decode cX7_worth 1 = .ok (.iload_n 1, 1) := by decide +kernel
theorem dX7_worth_2 : decode cX7_worth 2 = .ok (.invokevirtual 98, 3) := by decide +kernel
theorem dX7_worth_5 : decode cX7_worth 5 = .ok (.ifCond .ne 6, 3) := by decide +kernel
theorem dX7_worth_8 : decode cX7_worth 8 = .ok (.bipush (-101), 2) := by decide +kernel
theorem dX7_worth_10 : decode cX7_worth 10 = .ok (.ireturn, 1) := by decide +kernel
theorem dX7_worth_11 : decode cX7_worth 11 = .ok (.iload_n 2, 1) := by decide +kernel
theorem dX7_worth_12 : decode cX7_worth 12 = .ok (.i2l, 1) := by decide +kernel
theorem dX7_worth_13 : decode cX7_worth 13 = .ok (.lconst 0, 1) := by decide +kernel
theorem dX7_worth_14 : decode cX7_worth 14 = .ok (.ldc2_w 107, 3) := by decide +kernel
theorem dX7_worth_17 : decode cX7_worth 17 = .ok (.invokestatic 40, 3) := by decide +kernel
theorem dX7_worth_20 : decode cX7_worth 20 = .ok (.ifCond .eq 15, 3) := by decide +kernel
theorem dX7_worth_23 : decode cX7_worth 23 = .ok (.aload_n 0, 1) := by decide +kernel
theorem dX7_worth_24 : decode cX7_worth 24 = .ok (.iload_n 1, 1) := by decide +kernel
theorem dX7_worth_25 : decode cX7_worth 25 = .ok (.iload_n 2, 1) := by decide +kernel
theorem dX7_worth_26 : decode cX7_worth 26 = .ok (.invokevirtual 88, 3) := by decide +kernel
theorem dX7_worth_29 : decode cX7_worth 29 = .ok (.bipush 100, 2) := by decide +kernel
theorem dX7_worth_31 : decode cX7_worth 31 = .ok (.iadd, 1) := by decide +kernel
theorem dX7_worth_32 : decode cX7_worth 32 = .ok (.goto 5, 3) := by decide +kernel
theorem dX7_worth_35 : decode cX7_worth 35 = .ok (.bipush (-102), 2) := by decide +kernel
theorem dX7_worth_37 : decode cX7_worth 37 = .ok (.ireturn, 1) := by decide +kernel
set_option maxRecDepth 20000 in
theorem ggX7_eat_X7_isJar : GoodIn wsX7_eat wsX7_isJar := goodIn_r _ [8, 9, 10, 11, 7, 12, 26, 27, 28, 29, 30, 31, 32, 33, 34, 35, 36, 37, 38, 39, 40, 41, 42, 43, 44, 45, 46, 47, 48, 49, 50] (by decide +kernel) (by decide +kernel)
set_option maxRecDepth 20000 in
theorem gX7_eat_X7_isJar : GoodIn wsX7_eat (wsV RX7 98 RX7 yX7_isJar wsX7_isJar) := goodIn_app (goodIn_of _ (by decide +kernel)) ggX7_eat_X7_isJar
set_option maxRecDepth 20000 in
theorem ggX7_eat_X7_nextNow : GoodIn wsX7_eat wsX7_nextNow := goodIn_r _ [16, 17, 1, 18, 19, 20, 7, 21, 22, 23, 24, 25, 26, 27, 28, 29, 30, 31, 32, 33, 34, 35, 36, 37, 38, 39, 40, 41, 42, 43, 44, 45, 46, 47, 48, 49, 50] (by decide +kernel) (by decide +kernel)
set_option maxRecDepth 20000 in
theorem gX7_eat_X7_nextNow : GoodIn wsX7_eat (wsV RX7 92 RX7 yX7_nextNow wsX7_nextNow) := goodIn_app (goodIn_of _ (by decide +kernel)) ggX7_eat_X7_nextNow
theorem dX7_eat_0 : decode cX7_eat 0 = .ok (.aload_n 0, 1) := by decide +kernel
theorem dX7_eat_1 : decode cX7_eat 1 = .ok (.iload_n 1, 1) := by decide +kernel
theorem dX7_eat_2 : decode cX7_eat 2 = .ok (.invokevirtual 98, 3) := by decide +kernel
theorem dX7_eat_5 : decode cX7_eat 5 = .ok (.ifCond .ne 6, 3) := by decide +kernel
theorem dX7_eat_8 : decode cX7_eat 8 = .ok (.bipush (-101), 2) := by decide +kernel
theorem dX7_eat_10 : decode cX7_eat 10 = .ok (.ireturn, 1) := by decide +kernel
theorem dX7_eat_11 : decode cX7_eat 11 = .ok (.aload_n 0, 1) := by decide +kernel
theorem dX7_eat_12 : decode cX7_eat 12 = .ok (.getfield 13, 3) := by decide +kernel
theorem dX7_eat_15 : decode cX7_eat 15 = .ok (.iconst 5, 1) := by decide +kernel
theorem dX7_eat_16 : decode cX7_eat 16 = .ok (.iload_n 1, 1) := by decide +kernel
theorem dX7_eat_17 : decode cX7_eat 17 = .ok (.imul, 1) := by decide +kernel
theorem dX7_eat_18 : decode cX7_eat 18 = .ok (.iconst 3, 1) := by decide +kernel
theorem dX7_eat_19 : decode cX7_eat 19 = .ok (.iadd, 1) := by decide +kernel
theorem dX7_eat_20 : decode cX7_eat 20 = .ok (.iaload, 1) := by decide +kernel
theorem dX7_eat_21 : decode cX7_eat 21 = .ok (.ifCond .ne 6, 3) := by decide +kernel
theorem dX7_eat_24 : decode cX7_eat 24 = .ok (.bipush (-103), 2) := by decide +kernel
theorem dX7_eat_26 : decode cX7_eat 26 = .ok (.ireturn, 1) := by decide +kernel
theorem dX7_eat_27 : decode cX7_eat 27 = .ok (.aload_n 0, 1) := by decide +kernel
theorem dX7_eat_28 : decode cX7_eat 28 = .ok (.iload_n 1, 1) := by decide +kernel
theorem dX7_eat_29 : decode cX7_eat 29 = .ok (.invokevirtual 92, 3) := by decide +kernel
theorem dX7_eat_32 : decode cX7_eat 32 = .ok (.istore_n 2, 1) := by decide +kernel
theorem dX7_eat_33 : decode cX7_eat 33 = .ok (.aload_n 0, 1) := by decide +kernel
theorem dX7_eat_34 : decode cX7_eat 34 = .ok (.getfield 13, 3) := by decide +kernel
theorem dX7_eat_37 : decode cX7_eat 37 = .ok (.iconst 5, 1) := by decide +kernel
theorem dX7_eat_38 : decode cX7_eat 38 = .ok (.iload_n 1, 1) := by decide +kernel
theorem dX7_eat_39 : decode cX7_eat 39 = .ok (.imul, 1) := by decide +kernel
theorem dX7_eat_40 : decode cX7_eat 40 = .ok (.iconst 3, 1) := by decide +kernel
theorem dX7_eat_41 : decode cX7_eat 41 = .ok (.iadd, 1) := by decide +kernel
theorem dX7_eat_42 : decode cX7_eat 42 = .ok (.dup2, 1) := by decide +kernel
theorem dX7_eat_43 : decode cX7_eat 43 = .ok (.iaload, 1) := by decide +kernel
theorem dX7_eat_44 : decode cX7_eat 44 = .ok (.iconst 1, 1) := by decide +kernel
theorem dX7_eat_45 : decode cX7_eat 45 = .ok (.isub, 1) := by decide +kernel
theorem dX7_eat_46 : decode cX7_eat 46 = .ok (.iastore, 1) := by decide +kernel
theorem dX7_eat_47 : decode cX7_eat 47 = .ok (.aload_n 0, 1) := by decide +kernel
theorem dX7_eat_48 : decode cX7_eat 48 = .ok (.getfield 13, 3) := by decide +kernel
theorem dX7_eat_51 : decode cX7_eat 51 = .ok (.iconst 5, 1) := by decide +kernel
theorem dX7_eat_52 : decode cX7_eat 52 = .ok (.iload_n 1, 1) := by decide +kernel
theorem dX7_eat_53 : decode cX7_eat 53 = .ok (.imul, 1) := by decide +kernel
theorem dX7_eat_54 : decode cX7_eat 54 = .ok (.iconst 4, 1) := by decide +kernel
theorem dX7_eat_55 : decode cX7_eat 55 = .ok (.iadd, 1) := by decide +kernel
theorem dX7_eat_56 : decode cX7_eat 56 = .ok (.dup2, 1) := by decide +kernel
theorem dX7_eat_57 : decode cX7_eat 57 = .ok (.iaload, 1) := by decide +kernel
theorem dX7_eat_58 : decode cX7_eat 58 = .ok (.iconst 1, 1) := by decide +kernel
theorem dX7_eat_59 : decode cX7_eat 59 = .ok (.iadd, 1) := by decide +kernel
theorem dX7_eat_60 : decode cX7_eat 60 = .ok (.iastore, 1) := by decide +kernel
theorem dX7_eat_61 : decode cX7_eat 61 = .ok (.aload_n 0, 1) := by decide +kernel
theorem dX7_eat_62 : decode cX7_eat 62 = .ok (.dup, 1) := by decide +kernel
theorem dX7_eat_63 : decode cX7_eat 63 = .ok (.getfield 69, 3) := by decide +kernel
theorem dX7_eat_66 : decode cX7_eat 66 = .ok (.iload_n 2, 1) := by decide +kernel
theorem dX7_eat_67 : decode cX7_eat 67 = .ok (.iadd, 1) := by decide +kernel
theorem dX7_eat_68 : decode cX7_eat 68 = .ok (.putfield 69, 3) := by decide +kernel
theorem dX7_eat_71 : decode cX7_eat 71 = .ok (.aload_n 0, 1) := by decide +kernel
theorem dX7_eat_72 : decode cX7_eat 72 = .ok (.dup, 1) := by decide +kernel
theorem dX7_eat_73 : decode cX7_eat 73 = .ok (.getfield 72, 3) := by decide +kernel
theorem dX7_eat_76 : decode cX7_eat 76 = .ok (.iconst 1, 1) := by decide +kernel
theorem dX7_eat_77 : decode cX7_eat 77 = .ok (.iadd, 1) := by decide +kernel
theorem dX7_eat_78 : decode cX7_eat 78 = .ok (.putfield 72, 3) := by decide +kernel
theorem dX7_eat_81 : decode cX7_eat 81 = .ok (.iload_n 2, 1) := by decide +kernel
theorem dX7_eat_82 : decode cX7_eat 82 = .ok (.bipush 100, 2) := by decide +kernel
theorem dX7_eat_84 : decode cX7_eat 84 = .ok (.iadd, 1) := by decide +kernel
theorem dX7_eat_85 : decode cX7_eat 85 = .ok (.ireturn, 1) := by decide +kernel
set_option maxRecDepth 20000 in
theorem ggX7_wasps_X7_isJar : GoodIn wsX7_wasps wsX7_isJar := goodIn_r _ [7, 8, 9, 10, 6, 11, 12, 13, 14, 15, 16, 17, 18, 19, 20, 21, 22, 23, 24, 25, 26, 27, 28, 29, 30, 31, 32, 33, 34, 35, 36] (by decide +kernel) (by decide +kernel)
set_option maxRecDepth 20000 in
theorem gX7_wasps_X7_isJar : GoodIn wsX7_wasps (wsV RX7 98 RX7 yX7_isJar wsX7_isJar) := goodIn_app (goodIn_of _ (by decide +kernel)) ggX7_wasps_X7_isJar
theorem dX7_wasps_0 : decode cX7_wasps 0 = .ok (.aload_n 0, 1) := by decide +kernel
theorem dX7_wasps_1 : decode cX7_wasps 1 = .ok (.iload_n 1, 1) := by decide +kernel
theorem dX7_wasps_2 : decode cX7_wasps 2 = .ok (.invokevirtual 98, 3) := by decide +kernel
theorem dX7_wasps_5 : decode cX7_wasps 5 = .ok (.ifCond .ne 6, 3) := by decide +kernel
theorem dX7_wasps_8 : decode cX7_wasps 8 = .ok (.bipush (-101), 2) := by decide +kernel
theorem dX7_wasps_10 : decode cX7_wasps 10 = .ok (.ireturn, 1) := by decide +kernel
theorem dX7_wasps_11 : decode cX7_wasps 11 = .ok (.aload_n 0, 1) := by decide +kernel
theorem dX7_wasps_12 : decode cX7_wasps 12 = .ok (.getfield 13, 3) := by decide +kernel
theorem dX7_wasps_15 : decode cX7_wasps 15 = .ok (.iconst 5, 1) := by decide +kernel
theorem dX7_wasps_16 : decode cX7_wasps 16 = .ok (.iload_n 1, 1) := by decide +kernel
theorem dX7_wasps_17 : decode cX7_wasps 17 = .ok (.imul, 1) := by decide +kernel
theorem dX7_wasps_18 : decode cX7_wasps 18 = .ok (.iconst 3, 1) := by decide +kernel
theorem dX7_wasps_19 : decode cX7_wasps 19 = .ok (.iadd, 1) := by decide +kernel
theorem dX7_wasps_20 : decode cX7_wasps 20 = .ok (.iaload, 1) := by decide +kernel
theorem dX7_wasps_21 : decode cX7_wasps 21 = .ok (.ifCond .ne 6, 3) := by decide +kernel
theorem dX7_wasps_24 : decode cX7_wasps 24 = .ok (.bipush (-103), 2) := by decide +kernel
theorem dX7_wasps_26 : decode cX7_wasps 26 = .ok (.ireturn, 1) := by decide +kernel
theorem dX7_wasps_27 : decode cX7_wasps 27 = .ok (.aload_n 0, 1) := by decide +kernel
theorem dX7_wasps_28 : decode cX7_wasps 28 = .ok (.getfield 13, 3) := by decide +kernel
theorem dX7_wasps_31 : decode cX7_wasps 31 = .ok (.iconst 5, 1) := by decide +kernel
theorem dX7_wasps_32 : decode cX7_wasps 32 = .ok (.iload_n 1, 1) := by decide +kernel
theorem dX7_wasps_33 : decode cX7_wasps 33 = .ok (.imul, 1) := by decide +kernel
theorem dX7_wasps_34 : decode cX7_wasps 34 = .ok (.iconst 3, 1) := by decide +kernel
theorem dX7_wasps_35 : decode cX7_wasps 35 = .ok (.iadd, 1) := by decide +kernel
theorem dX7_wasps_36 : decode cX7_wasps 36 = .ok (.dup2, 1) := by decide +kernel
theorem dX7_wasps_37 : decode cX7_wasps 37 = .ok (.iaload, 1) := by decide +kernel
theorem dX7_wasps_38 : decode cX7_wasps 38 = .ok (.iconst 1, 1) := by decide +kernel
theorem dX7_wasps_39 : decode cX7_wasps 39 = .ok (.isub, 1) := by decide +kernel
theorem dX7_wasps_40 : decode cX7_wasps 40 = .ok (.iastore, 1) := by decide +kernel
theorem dX7_wasps_41 : decode cX7_wasps 41 = .ok (.aload_n 0, 1) := by decide +kernel
theorem dX7_wasps_42 : decode cX7_wasps 42 = .ok (.dup, 1) := by decide +kernel
theorem dX7_wasps_43 : decode cX7_wasps 43 = .ok (.getfield 75, 3) := by decide +kernel
theorem dX7_wasps_46 : decode cX7_wasps 46 = .ok (.iconst 1, 1) := by decide +kernel
theorem dX7_wasps_47 : decode cX7_wasps 47 = .ok (.iadd, 1) := by decide +kernel
theorem dX7_wasps_48 : decode cX7_wasps 48 = .ok (.putfield 75, 3) := by decide +kernel
theorem dX7_wasps_51 : decode cX7_wasps 51 = .ok (.aload_n 0, 1) := by decide +kernel
theorem dX7_wasps_52 : decode cX7_wasps 52 = .ok (.getfield 13, 3) := by decide +kernel
theorem dX7_wasps_55 : decode cX7_wasps 55 = .ok (.iconst 5, 1) := by decide +kernel
theorem dX7_wasps_56 : decode cX7_wasps 56 = .ok (.iload_n 1, 1) := by decide +kernel
theorem dX7_wasps_57 : decode cX7_wasps 57 = .ok (.imul, 1) := by decide +kernel
theorem dX7_wasps_58 : decode cX7_wasps 58 = .ok (.iconst 3, 1) := by decide +kernel
theorem dX7_wasps_59 : decode cX7_wasps 59 = .ok (.iadd, 1) := by decide +kernel
theorem dX7_wasps_60 : decode cX7_wasps 60 = .ok (.iaload, 1) := by decide +kernel
theorem dX7_wasps_61 : decode cX7_wasps 61 = .ok (.ireturn, 1) := by decide +kernel
theorem dX7_noneEaten_0 : decode cX7_noneEaten 0 = .ok (.iconst 0, 1) := by decide +kernel
theorem dX7_noneEaten_1 : decode cX7_noneEaten 1 = .ok (.istore_n 1, 1) := by decide +kernel
theorem dX7_noneEaten_2 : decode cX7_noneEaten 2 = .ok (.iload_n 1, 1) := by decide +kernel
theorem dX7_noneEaten_3 : decode cX7_noneEaten 3 = .ok (.aload_n 0, 1) := by decide +kernel
theorem dX7_noneEaten_4 : decode cX7_noneEaten 4 = .ok (.getfield 63, 3) := by decide +kernel
theorem dX7_noneEaten_7 : decode cX7_noneEaten 7 = .ok (.if_icmp .ge 20, 3) := by decide +kernel
theorem dX7_noneEaten_10 : decode cX7_noneEaten 10 = .ok (.aload_n 0, 1) := by decide +kernel
theorem dX7_noneEaten_11 : decode cX7_noneEaten 11 = .ok (.getfield 13, 3) := by decide +kernel
theorem dX7_noneEaten_14 : decode cX7_noneEaten 14 = .ok (.iconst 5, 1) := by decide +kernel
theorem dX7_noneEaten_15 : decode cX7_noneEaten 15 = .ok (.iload_n 1, 1) := by decide +kernel
theorem dX7_noneEaten_16 : decode cX7_noneEaten 16 = .ok (.imul, 1) := by decide +kernel
theorem dX7_noneEaten_17 : decode cX7_noneEaten 17 = .ok (.iconst 4, 1) := by decide +kernel
theorem dX7_noneEaten_18 : decode cX7_noneEaten 18 = .ok (.iadd, 1) := by decide +kernel
theorem dX7_noneEaten_19 : decode cX7_noneEaten 19 = .ok (.iconst 0, 1) := by decide +kernel
theorem dX7_noneEaten_20 : decode cX7_noneEaten 20 = .ok (.iastore, 1) := by decide +kernel
theorem dX7_noneEaten_21 : decode cX7_noneEaten 21 = .ok (.iinc 1 1, 3) := by decide +kernel
theorem dX7_noneEaten_24 : decode cX7_noneEaten 24 = .ok (.goto (-22), 3) := by decide +kernel
theorem dX7_noneEaten_27 : decode cX7_noneEaten 27 = .ok (.return_, 1) := by decide +kernel
set_option maxRecDepth 20000 in
theorem ggX7_year_X7_lacks : GoodIn wsX7_year wsX7_lacks := goodIn_r _ [6, 7, 13, 14, 15, 16, 17, 18, 19, 20, 21, 22, 23, 24, 25, 26, 27, 28, 29, 30, 31, 32, 33, 34, 35, 36, 37] (by decide +kernel) (by decide +kernel)
set_option maxRecDepth 20000 in
theorem gX7_year_X7_lacks : GoodIn wsX7_year (wsV RX7 109 RX7 yX7_lacks wsX7_lacks) := goodIn_app (goodIn_of _ (by decide +kernel)) ggX7_year_X7_lacks
set_option maxRecDepth 20000 in
theorem ggX7_year_X7_noneEaten : GoodIn wsX7_year wsX7_noneEaten := goodIn_r _ [11, 7, 12, 13, 14, 15, 16, 17, 18, 19, 20, 21, 22, 23, 24, 25, 26, 27, 28, 29, 30, 31, 32, 33, 34, 35, 36, 37] (by decide +kernel) (by decide +kernel)
set_option maxRecDepth 20000 in
theorem gX7_year_X7_noneEaten : GoodIn wsX7_year (wsV RX7 113 RX7 yX7_noneEaten wsX7_noneEaten) := goodIn_app (goodIn_of _ (by decide +kernel)) ggX7_year_X7_noneEaten
theorem dX7_year_0 : decode cX7_year 0 = .ok (.aload_n 0, 1) := by decide +kernel
theorem dX7_year_1 : decode cX7_year 1 = .ok (.invokevirtual 109, 3) := by decide +kernel
theorem dX7_year_4 : decode cX7_year 4 = .ok (.ifCond .eq 6, 3) := by decide +kernel
theorem dX7_year_7 : decode cX7_year 7 = .ok (.bipush (-103), 2) := by decide +kernel
theorem dX7_year_9 : decode cX7_year 9 = .ok (.ireturn, 1) := by decide +kernel
theorem dX7_year_10 : decode cX7_year 10 = .ok (.aload_n 0, 1) := by decide +kernel
theorem dX7_year_11 : decode cX7_year 11 = .ok (.getfield 66, 3) := by decide +kernel
theorem dX7_year_14 : decode cX7_year 14 = .ok (.bipush 99, 2) := by decide +kernel
theorem dX7_year_16 : decode cX7_year 16 = .ok (.if_icmp .ne 6, 3) := by decide +kernel
theorem dX7_year_19 : decode cX7_year 19 = .ok (.bipush (-104), 2) := by decide +kernel
theorem dX7_year_21 : decode cX7_year 21 = .ok (.ireturn, 1) := by decide +kernel
theorem dX7_year_22 : decode cX7_year 22 = .ok (.aload_n 0, 1) := by decide +kernel
theorem dX7_year_23 : decode cX7_year 23 = .ok (.dup, 1) := by decide +kernel
theorem dX7_year_24 : decode cX7_year 24 = .ok (.getfield 66, 3) := by decide +kernel
theorem dX7_year_27 : decode cX7_year 27 = .ok (.iconst 1, 1) := by decide +kernel
theorem dX7_year_28 : decode cX7_year 28 = .ok (.iadd, 1) := by decide +kernel
theorem dX7_year_29 : decode cX7_year 29 = .ok (.putfield 66, 3) := by decide +kernel
theorem dX7_year_32 : decode cX7_year 32 = .ok (.aload_n 0, 1) := by decide +kernel
theorem dX7_year_33 : decode cX7_year 33 = .ok (.invokevirtual 113, 3) := by decide +kernel
theorem dX7_year_36 : decode cX7_year 36 = .ok (.aload_n 0, 1) := by decide +kernel
theorem dX7_year_37 : decode cX7_year 37 = .ok (.getfield 66, 3) := by decide +kernel
theorem dX7_year_40 : decode cX7_year 40 = .ok (.ireturn, 1) := by decide +kernel
theorem dX7_spoonsAll_0 : decode cX7_spoonsAll 0 = .ok (.iconst 0, 1) := by decide +kernel
theorem dX7_spoonsAll_1 : decode cX7_spoonsAll 1 = .ok (.istore_n 1, 1) := by decide +kernel
theorem dX7_spoonsAll_2 : decode cX7_spoonsAll 2 = .ok (.iconst 0, 1) := by decide +kernel
theorem dX7_spoonsAll_3 : decode cX7_spoonsAll 3 = .ok (.istore_n 2, 1) := by decide +kernel
theorem dX7_spoonsAll_4 : decode cX7_spoonsAll 4 = .ok (.iload_n 2, 1) := by decide +kernel
theorem dX7_spoonsAll_5 : decode cX7_spoonsAll 5 = .ok (.aload_n 0, 1) := by decide +kernel
theorem dX7_spoonsAll_6 : decode cX7_spoonsAll 6 = .ok (.getfield 63, 3) := by decide +kernel
theorem dX7_spoonsAll_9 : decode cX7_spoonsAll 9 = .ok (.if_icmp .ge 22, 3) := by decide +kernel
theorem dX7_spoonsAll_12 : decode cX7_spoonsAll 12 = .ok (.iload_n 1, 1) := by decide +kernel
theorem dX7_spoonsAll_13 : decode cX7_spoonsAll 13 = .ok (.aload_n 0, 1) := by decide +kernel
theorem dX7_spoonsAll_14 : decode cX7_spoonsAll 14 = .ok (.getfield 13, 3) := by decide +kernel
theorem dX7_spoonsAll_17 : decode cX7_spoonsAll 17 = .ok (.iconst 5, 1) := by decide +kernel
theorem dX7_spoonsAll_18 : decode cX7_spoonsAll 18 = .ok (.iload_n 2, 1) := by decide +kernel
theorem dX7_spoonsAll_19 : decode cX7_spoonsAll 19 = .ok (.imul, 1) := by decide +kernel
theorem dX7_spoonsAll_20 : decode cX7_spoonsAll 20 = .ok (.iconst 3, 1) := by decide +kernel
theorem dX7_spoonsAll_21 : decode cX7_spoonsAll 21 = .ok (.iadd, 1) := by decide +kernel
theorem dX7_spoonsAll_22 : decode cX7_spoonsAll 22 = .ok (.iaload, 1) := by decide +kernel
theorem dX7_spoonsAll_23 : decode cX7_spoonsAll 23 = .ok (.iadd, 1) := by decide +kernel
theorem dX7_spoonsAll_24 : decode cX7_spoonsAll 24 = .ok (.istore_n 1, 1) := by decide +kernel
theorem dX7_spoonsAll_25 : decode cX7_spoonsAll 25 = .ok (.iinc 2 1, 3) := by decide +kernel
theorem dX7_spoonsAll_28 : decode cX7_spoonsAll 28 = .ok (.goto (-24), 3) := by decide +kernel
theorem dX7_spoonsAll_31 : decode cX7_spoonsAll 31 = .ok (.iload_n 1, 1) := by decide +kernel
theorem dX7_spoonsAll_32 : decode cX7_spoonsAll 32 = .ok (.ireturn, 1) := by decide +kernel
set_option maxRecDepth 20000 in
theorem ggX7_worthOf_X7_nextNow : GoodIn wsX7_worthOf wsX7_nextNow := goodIn_r _ [7, 8, 1, 9, 10, 11, 6, 12, 13, 14, 15, 16, 17, 18, 19, 20, 21, 22, 23, 24, 25, 26, 27, 28, 29, 30, 31, 32, 33, 34, 35, 36, 37, 38, 39, 40, 41] (by decide +kernel) (by decide +kernel)
set_option maxRecDepth 20000 in
theorem gX7_worthOf_X7_nextNow : GoodIn wsX7_worthOf (wsV RX7 92 RX7 yX7_nextNow wsX7_nextNow) := goodIn_app (goodIn_of _ (by decide +kernel)) ggX7_worthOf_X7_nextNow
theorem dX7_worthOf_0 : decode cX7_worthOf 0 = .ok (.iload_n 2, 1) := by decide +kernel
theorem dX7_worthOf_1 : decode cX7_worthOf 1 = .ok (.aload_n 0, 1) := by decide +kernel
theorem dX7_worthOf_2 : decode cX7_worthOf 2 = .ok (.getfield 13, 3) := by decide +kernel
theorem dX7_worthOf_5 : decode cX7_worthOf 5 = .ok (.iconst 5, 1) := by decide +kernel
theorem dX7_worthOf_6 : decode cX7_worthOf 6 = .ok (.iload_n 1, 1) := by decide +kernel
theorem dX7_worthOf_7 : decode cX7_worthOf 7 = .ok (.imul, 1) := by decide +kernel
theorem dX7_worthOf_8 : decode cX7_worthOf 8 = .ok (.iconst 3, 1) := by decide +kernel
theorem dX7_worthOf_9 : decode cX7_worthOf 9 = .ok (.iadd, 1) := by decide +kernel
theorem dX7_worthOf_10 : decode cX7_worthOf 10 = .ok (.iaload, 1) := by decide +kernel
theorem dX7_worthOf_11 : decode cX7_worthOf 11 = .ok (.if_icmp .le 8, 3) := by decide +kernel
theorem dX7_worthOf_14 : decode cX7_worthOf 14 = .ok (.ldc 91, 2) := by decide +kernel
theorem dX7_worthOf_16 : decode cX7_worthOf 16 = .ok (.goto 18, 3) := by decide +kernel
theorem dX7_worthOf_19 : decode cX7_worthOf 19 = .ok (.iload_n 2, 1) := by decide +kernel
theorem dX7_worthOf_20 : decode cX7_worthOf 20 = .ok (.aload_n 0, 1) := by decide +kernel
theorem dX7_worthOf_21 : decode cX7_worthOf 21 = .ok (.iload_n 1, 1) := by decide +kernel
theorem dX7_worthOf_22 : decode cX7_worthOf 22 = .ok (.invokevirtual 92, 3) := by decide +kernel
theorem dX7_worthOf_25 : decode cX7_worthOf 25 = .ok (.imul, 1) := by decide +kernel
theorem dX7_worthOf_26 : decode cX7_worthOf 26 = .ok (.iload_n 2, 1) := by decide +kernel
theorem dX7_worthOf_27 : decode cX7_worthOf 27 = .ok (.iload_n 2, 1) := by decide +kernel
theorem dX7_worthOf_28 : decode cX7_worthOf 28 = .ok (.iconst 1, 1) := by decide +kernel
theorem dX7_worthOf_29 : decode cX7_worthOf 29 = .ok (.isub, 1) := by decide +kernel
theorem dX7_worthOf_30 : decode cX7_worthOf 30 = .ok (.imul, 1) := by decide +kernel
theorem dX7_worthOf_31 : decode cX7_worthOf 31 = .ok (.iconst 2, 1) := by decide +kernel
theorem dX7_worthOf_32 : decode cX7_worthOf 32 = .ok (.idiv, 1) := by decide +kernel
theorem dX7_worthOf_33 : decode cX7_worthOf 33 = .ok (.isub, 1) := by decide +kernel
theorem dX7_worthOf_34 : decode cX7_worthOf 34 = .ok (.ireturn, 1) := by decide +kernel
set_option maxRecDepth 20000 in
theorem ggX7_layTable_X7_worthOf : GoodIn wsX7_layTable wsX7_worthOf := goodIn_r _ [8, 9, 3, 10, 11, 12, 7, 13, 14, 15, 16, 17, 18, 19, 20, 21, 22, 23, 24, 25, 26, 27, 28, 29, 30, 31, 32, 33, 34, 35, 36, 37, 38, 39, 40, 41, 42, 43, 44, 45, 46, 47] (by decide +kernel) (by decide +kernel)
set_option maxRecDepth 20000 in
theorem gX7_layTable_X7_worthOf : GoodIn wsX7_layTable (wsV RX7 116 RX7 yX7_worthOf wsX7_worthOf) := goodIn_app (goodIn_of _ (by decide +kernel)) ggX7_layTable_X7_worthOf
theorem dX7_layTable_0 : decode cX7_layTable 0 = .ok (.iconst 0, 1) := by decide +kernel
theorem dX7_layTable_1 : decode cX7_layTable 1 = .ok (.istore_n 1, 1) := by decide +kernel
theorem dX7_layTable_2 : decode cX7_layTable 2 = .ok (.iload_n 1, 1) := by decide +kernel
theorem dX7_layTable_3 : decode cX7_layTable 3 = .ok (.bipush 13, 2) := by decide +kernel
theorem dX7_layTable_5 : decode cX7_layTable 5 = .ok (.if_icmp .ge 33, 3) := by decide +kernel
theorem dX7_layTable_8 : decode cX7_layTable 8 = .ok (.aload_n 0, 1) := by decide +kernel
theorem dX7_layTable_9 : decode cX7_layTable 9 = .ok (.getfield 16, 3) := by decide +kernel
theorem dX7_layTable_12 : decode cX7_layTable 12 = .ok (.bipush 13, 2) := by decide +kernel
theorem dX7_layTable_14 : decode cX7_layTable 14 = .ok (.aload_n 0, 1) := by decide +kernel
theorem dX7_layTable_15 : decode cX7_layTable 15 = .ok (.getfield 63, 3) := by decide +kernel
theorem dX7_layTable_18 : decode cX7_layTable 18 = .ok (.imul, 1) := by decide +kernel
theorem dX7_layTable_19 : decode cX7_layTable 19 = .ok (.iload_n 1, 1) := by decide +kernel
theorem dX7_layTable_20 : decode cX7_layTable 20 = .ok (.iadd, 1) := by decide +kernel
theorem dX7_layTable_21 : decode cX7_layTable 21 = .ok (.iload_n 1, 1) := by decide +kernel
theorem dX7_layTable_22 : decode cX7_layTable 22 = .ok (.ifCond .ne 7, 3) := by decide +kernel
theorem dX7_layTable_25 : decode cX7_layTable 25 = .ok (.iconst 0, 1) := by decide +kernel
theorem dX7_layTable_26 : decode cX7_layTable 26 = .ok (.goto 5, 3) := by decide +kernel
theorem dX7_layTable_29 : decode cX7_layTable 29 = .ok (.ldc 91, 2) := by decide +kernel
theorem dX7_layTable_31 : decode cX7_layTable 31 = .ok (.iastore, 1) := by decide +kernel
theorem dX7_layTable_32 : decode cX7_layTable 32 = .ok (.iinc 1 1, 3) := by decide +kernel
theorem dX7_layTable_35 : decode cX7_layTable 35 = .ok (.goto (-33), 3) := by decide +kernel
theorem dX7_layTable_38 : decode cX7_layTable 38 = .ok (.aload_n 0, 1) := by decide +kernel
theorem dX7_layTable_39 : decode cX7_layTable 39 = .ok (.getfield 63, 3) := by decide +kernel
theorem dX7_layTable_42 : decode cX7_layTable 42 = .ok (.iconst 1, 1) := by decide +kernel
theorem dX7_layTable_43 : decode cX7_layTable 43 = .ok (.isub, 1) := by decide +kernel
theorem dX7_layTable_44 : decode cX7_layTable 44 = .ok (.istore_n 1, 1) := by decide +kernel
theorem dX7_layTable_45 : decode cX7_layTable 45 = .ok (.iload_n 1, 1) := by decide +kernel
theorem dX7_layTable_46 : decode cX7_layTable 46 = .ok (.ifCond .lt 92, 3) := by decide +kernel
theorem dX7_layTable_49 : decode cX7_layTable 49 = .ok (.iconst 0, 1) := by decide +kernel
theorem dX7_layTable_50 : decode cX7_layTable 50 = .ok (.istore_n 2, 1) := by decide +kernel
theorem dX7_layTable_51 : decode cX7_layTable 51 = .ok (.iload_n 2, 1) := by decide +kernel
theorem dX7_layTable_52 : decode cX7_layTable 52 = .ok (.bipush 13, 2) := by decide +kernel
theorem dX7_layTable_54 : decode cX7_layTable 54 = .ok (.if_icmp .ge 78, 3) := by decide +kernel
theorem dX7_layTable_57 : decode cX7_layTable 57 = .ok (.ldc 91, 2) := by decide +kernel
theorem dX7_layTable_59 : decode cX7_layTable 59 = .ok (.istore_n 3, 1) := by decide +kernel
theorem dX7_layTable_60 : decode cX7_layTable 60 = .ok (.iconst 0, 1) := by decide +kernel
theorem dX7_layTable_61 : decode cX7_layTable 61 = .ok (.istore 4, 2) := by decide +kernel
theorem dX7_layTable_63 : decode cX7_layTable 63 = .ok (.iload 4, 2) := by decide +kernel
theorem dX7_layTable_65 : decode cX7_layTable 65 = .ok (.iload_n 2, 1) := by decide +kernel
theorem dX7_layTable_66 : decode cX7_layTable 66 = .ok (.if_icmp .gt 48, 3) := by decide +kernel
theorem dX7_layTable_69 : decode cX7_layTable 69 = .ok (.aload_n 0, 1) := by decide +kernel
theorem dX7_layTable_70 : decode cX7_layTable 70 = .ok (.iload_n 1, 1) := by decide +kernel
theorem dX7_layTable_71 : decode cX7_layTable 71 = .ok (.iload 4, 2) := by decide +kernel
theorem dX7_layTable_73 : decode cX7_layTable 73 = .ok (.invokevirtual 116, 3) := by decide +kernel
theorem dX7_layTable_76 : decode cX7_layTable 76 = .ok (.aload_n 0, 1) := by decide +kernel
theorem dX7_layTable_77 : decode cX7_layTable 77 = .ok (.getfield 16, 3) := by decide +kernel
theorem dX7_layTable_80 : decode cX7_layTable 80 = .ok (.bipush 13, 2) := by decide +kernel
theorem dX7_layTable_82 : decode cX7_layTable 82 = .ok (.iload_n 1, 1) := by decide +kernel
theorem dX7_layTable_83 : decode cX7_layTable 83 = .ok (.iconst 1, 1) := by decide +kernel
theorem dX7_layTable_84 : decode cX7_layTable 84 = .ok (.iadd, 1) := by decide +kernel
theorem dX7_layTable_85 : decode cX7_layTable 85 = .ok (.imul, 1) := by decide +kernel
theorem dX7_layTable_86 : decode cX7_layTable 86 = .ok (.iload_n 2, 1) := by decide +kernel
theorem dX7_layTable_87 : decode cX7_layTable 87 = .ok (.iadd, 1) := by decide +kernel
theorem dX7_layTable_88 : decode cX7_layTable 88 = .ok (.iload 4, 2) := by decide +kernel
theorem dX7_layTable_90 : decode cX7_layTable 90 = .ok (.isub, 1) := by decide +kernel
theorem dX7_layTable_91 : decode cX7_layTable 91 = .ok (.iaload, 1) := by decide +kernel
theorem dX7_layTable_92 : decode cX7_layTable 92 = .ok (.iadd, 1) := by decide +kernel
theorem dX7_layTable_93 : decode cX7_layTable 93 = .ok (.istore 5, 2) := by decide +kernel
theorem dX7_layTable_95 : decode cX7_layTable 95 = .ok (.iload 5, 2) := by decide +kernel
theorem dX7_layTable_97 : decode cX7_layTable 97 = .ok (.iload_n 3, 1) := by decide +kernel
theorem dX7_layTable_98 : decode cX7_layTable 98 = .ok (.if_icmp .le 8, 3) := by decide +kernel
theorem dX7_layTable_101 : decode cX7_layTable 101 = .ok (.iload 5, 2) := by decide +kernel
theorem dX7_layTable_103 : decode cX7_layTable 103 = .ok (.goto 4, 3) := by decide +kernel
theorem dX7_layTable_106 : decode cX7_layTable 106 = .ok (.iload_n 3, 1) := by decide +kernel
theorem dX7_layTable_107 : decode cX7_layTable 107 = .ok (.istore_n 3, 1) := by decide +kernel
theorem dX7_layTable_108 : decode cX7_layTable 108 = .ok (.iinc 4 1, 3) := by decide +kernel
theorem dX7_layTable_111 : decode cX7_layTable 111 = .ok (.goto (-48), 3) := by decide +kernel
theorem dX7_layTable_114 : decode cX7_layTable 114 = .ok (.aload_n 0, 1) := by decide +kernel
theorem dX7_layTable_115 : decode cX7_layTable 115 = .ok (.getfield 16, 3) := by decide +kernel
theorem dX7_layTable_118 : decode cX7_layTable 118 = .ok (.bipush 13, 2) := by decide +kernel
theorem dX7_layTable_120 : decode cX7_layTable 120 = .ok (.iload_n 1, 1) := by decide +kernel
theorem dX7_layTable_121 : decode cX7_layTable 121 = .ok (.imul, 1) := by decide +kernel
theorem dX7_layTable_122 : decode cX7_layTable 122 = .ok (.iload_n 2, 1) := by decide +kernel
theorem dX7_layTable_123 : decode cX7_layTable 123 = .ok (.iadd, 1) := by decide +kernel
theorem dX7_layTable_124 : decode cX7_layTable 124 = .ok (.iload_n 3, 1) := by decide +kernel
theorem dX7_layTable_125 : decode cX7_layTable 125 = .ok (.iastore, 1) := by decide +kernel
theorem dX7_layTable_126 : decode cX7_layTable 126 = .ok (.iinc 2 1, 3) := by decide +kernel
theorem dX7_layTable_129 : decode cX7_layTable 129 = .ok (.goto (-78), 3) := by decide +kernel
theorem dX7_layTable_132 : decode cX7_layTable 132 = .ok (.iinc 1 (-1), 3) := by decide +kernel
theorem dX7_layTable_135 : decode cX7_layTable 135 = .ok (.goto (-90), 3) := by decide +kernel
theorem dX7_layTable_138 : decode cX7_layTable 138 = .ok (.return_, 1) := by decide +kernel
set_option maxRecDepth 20000 in
theorem ggX7_bestOf_X7_spoonsAll : GoodIn wsX7_bestOf wsX7_spoonsAll := goodIn_r _ [8, 1, 9, 32, 33, 34, 35, 36, 37, 38, 39, 40, 41, 42, 43, 44, 45, 46, 47, 48, 49, 50, 51, 52, 53, 54, 55, 56] (by decide +kernel) (by decide +kernel)
set_option maxRecDepth 20000 in
theorem gX7_bestOf_X7_spoonsAll : GoodIn wsX7_bestOf (wsV RX7 119 RX7 yX7_spoonsAll wsX7_spoonsAll) := goodIn_app (goodIn_of _ (by decide +kernel)) ggX7_bestOf_X7_spoonsAll
set_option maxRecDepth 20000 in
theorem ggX7_bestOf_X7_layTable : GoodIn wsX7_bestOf wsX7_layTable := goodIn_r _ [13, 2, 1, 14, 15, 16, 17, 7, 18, 9, 19, 20, 21, 22, 23, 24, 25, 26, 27, 28, 29, 30, 31, 32, 33, 34, 35, 36, 37, 38, 39, 40, 41, 42, 43, 44, 45, 46, 47, 48, 49, 50, 51, 52, 53, 54, 55, 56] (by decide +kernel) (by decide +kernel)
set_option maxRecDepth 20000 in
theorem gX7_bestOf_X7_layTable : GoodIn wsX7_bestOf (wsV RX7 122 RX7 yX7_layTable wsX7_layTable) := goodIn_app (goodIn_of _ (by decide +kernel)) ggX7_bestOf_X7_layTable
set_option maxRecDepth 20000 in
theorem ggX7_bestOf_X7_worthOf : GoodIn wsX7_bestOf wsX7_worthOf := goodIn_r _ [18, 9, 14, 19, 20, 21, 7, 22, 23, 24, 25, 26, 27, 28, 29, 30, 31, 32, 33, 34, 35, 36, 37, 38, 39, 40, 41, 42, 43, 44, 45, 46, 47, 48, 49, 50, 51, 52, 53, 54, 55, 56] (by decide +kernel) (by decide +kernel)
set_option maxRecDepth 20000 in
theorem gX7_bestOf_X7_worthOf : GoodIn wsX7_bestOf (wsV RX7 116 RX7 yX7_worthOf wsX7_worthOf) := goodIn_app (goodIn_of _ (by decide +kernel)) ggX7_bestOf_X7_worthOf
theorem dX7_bestOf_0 : decode cX7_bestOf 0 = .ok (.iload_n 1, 1) := by decide +kernel
theorem dX7_bestOf_1 : decode cX7_bestOf 1 = .ok (.aload_n 0, 1) := by decide +kernel
theorem dX7_bestOf_2 : decode cX7_bestOf 2 = .ok (.invokevirtual 119, 3) := by decide +kernel
theorem dX7_bestOf_5 : decode cX7_bestOf 5 = .ok (.if_icmp .le 5, 3) := by decide +kernel
theorem dX7_bestOf_8 : decode cX7_bestOf 8 = .ok (.iconst (-1), 1) := by decide +kernel
theorem dX7_bestOf_9 : decode cX7_bestOf 9 = .ok (.ireturn, 1) := by decide +kernel
theorem dX7_bestOf_10 : decode cX7_bestOf 10 = .ok (.aload_n 0, 1) := by decide +kernel
theorem dX7_bestOf_11 : decode cX7_bestOf 11 = .ok (.invokevirtual 122, 3) := by decide +kernel
theorem dX7_bestOf_14 : decode cX7_bestOf 14 = .ok (.iload_n 1, 1) := by decide +kernel
theorem dX7_bestOf_15 : decode cX7_bestOf 15 = .ok (.istore_n 3, 1) := by decide +kernel
theorem dX7_bestOf_16 : decode cX7_bestOf 16 = .ok (.iconst 0, 1) := by decide +kernel
theorem dX7_bestOf_17 : decode cX7_bestOf 17 = .ok (.istore 4, 2) := by decide +kernel
theorem dX7_bestOf_19 : decode cX7_bestOf 19 = .ok (.iload 4, 2) := by decide +kernel
theorem dX7_bestOf_21 : decode cX7_bestOf 21 = .ok (.aload_n 0, 1) := by decide +kernel
theorem dX7_bestOf_22 : decode cX7_bestOf 22 = .ok (.getfield 63, 3) := by decide +kernel
theorem dX7_bestOf_25 : decode cX7_bestOf 25 = .ok (.if_icmp .ge 73, 3) := by decide +kernel
theorem dX7_bestOf_28 : decode cX7_bestOf 28 = .ok (.iconst 0, 1) := by decide +kernel
theorem dX7_bestOf_29 : decode cX7_bestOf 29 = .ok (.istore 5, 2) := by decide +kernel
theorem dX7_bestOf_31 : decode cX7_bestOf 31 = .ok (.aload_n 0, 1) := by decide +kernel
theorem dX7_bestOf_32 : decode cX7_bestOf 32 = .ok (.iload 4, 2) := by decide +kernel
theorem dX7_bestOf_34 : decode cX7_bestOf 34 = .ok (.iload 5, 2) := by decide +kernel
theorem dX7_bestOf_36 : decode cX7_bestOf 36 = .ok (.invokevirtual 116, 3) := by decide +kernel
theorem dX7_bestOf_39 : decode cX7_bestOf 39 = .ok (.aload_n 0, 1) := by decide +kernel
theorem dX7_bestOf_40 : decode cX7_bestOf 40 = .ok (.getfield 16, 3) := by decide +kernel
theorem dX7_bestOf_43 : decode cX7_bestOf 43 = .ok (.bipush 13, 2) := by decide +kernel
theorem dX7_bestOf_45 : decode cX7_bestOf 45 = .ok (.iload 4, 2) := by decide +kernel
theorem dX7_bestOf_47 : decode cX7_bestOf 47 = .ok (.iconst 1, 1) := by decide +kernel
theorem dX7_bestOf_48 : decode cX7_bestOf 48 = .ok (.iadd, 1) := by decide +kernel
theorem dX7_bestOf_49 : decode cX7_bestOf 49 = .ok (.imul, 1) := by decide +kernel
theorem dX7_bestOf_50 : decode cX7_bestOf 50 = .ok (.iload_n 3, 1) := by decide +kernel
theorem dX7_bestOf_51 : decode cX7_bestOf 51 = .ok (.iadd, 1) := by decide +kernel
theorem dX7_bestOf_52 : decode cX7_bestOf 52 = .ok (.iload 5, 2) := by decide +kernel
theorem dX7_bestOf_54 : decode cX7_bestOf 54 = .ok (.isub, 1) := by decide +kernel
theorem dX7_bestOf_55 : decode cX7_bestOf 55 = .ok (.iaload, 1) := by decide +kernel
theorem dX7_bestOf_56 : decode cX7_bestOf 56 = .ok (.iadd, 1) := by decide +kernel
theorem dX7_bestOf_57 : decode cX7_bestOf 57 = .ok (.aload_n 0, 1) := by decide +kernel
theorem dX7_bestOf_58 : decode cX7_bestOf 58 = .ok (.getfield 16, 3) := by decide +kernel
theorem dX7_bestOf_61 : decode cX7_bestOf 61 = .ok (.bipush 13, 2) := by decide +kernel
theorem dX7_bestOf_63 : decode cX7_bestOf 63 = .ok (.iload 4, 2) := by decide +kernel
theorem dX7_bestOf_65 : decode cX7_bestOf 65 = .ok (.imul, 1) := by decide +kernel
theorem dX7_bestOf_66 : decode cX7_bestOf 66 = .ok (.iload_n 3, 1) := by decide +kernel
theorem dX7_bestOf_67 : decode cX7_bestOf 67 = .ok (.iadd, 1) := by decide +kernel
theorem dX7_bestOf_68 : decode cX7_bestOf 68 = .ok (.iaload, 1) := by decide +kernel
theorem dX7_bestOf_69 : decode cX7_bestOf 69 = .ok (.if_icmp .eq 9, 3) := by decide +kernel
theorem dX7_bestOf_72 : decode cX7_bestOf 72 = .ok (.iinc 5 1, 3) := by decide +kernel
theorem dX7_bestOf_75 : decode cX7_bestOf 75 = .ok (.goto (-44), 3) := by decide +kernel
theorem dX7_bestOf_78 : decode cX7_bestOf 78 = .ok (.aload_n 0, 1) := by decide +kernel
theorem dX7_bestOf_79 : decode cX7_bestOf 79 = .ok (.getfield 19, 3) := by decide +kernel
theorem dX7_bestOf_82 : decode cX7_bestOf 82 = .ok (.iload 4, 2) := by decide +kernel
theorem dX7_bestOf_84 : decode cX7_bestOf 84 = .ok (.iload 5, 2) := by decide +kernel
theorem dX7_bestOf_86 : decode cX7_bestOf 86 = .ok (.iastore, 1) := by decide +kernel
theorem dX7_bestOf_87 : decode cX7_bestOf 87 = .ok (.iload_n 3, 1) := by decide +kernel
theorem dX7_bestOf_88 : decode cX7_bestOf 88 = .ok (.iload 5, 2) := by decide +kernel
theorem dX7_bestOf_90 : decode cX7_bestOf 90 = .ok (.isub, 1) := by decide +kernel
theorem dX7_bestOf_91 : decode cX7_bestOf 91 = .ok (.istore_n 3, 1) := by decide +kernel
theorem dX7_bestOf_92 : decode cX7_bestOf 92 = .ok (.iinc 4 1, 3) := by decide +kernel
theorem dX7_bestOf_95 : decode cX7_bestOf 95 = .ok (.goto (-76), 3) := by decide +kernel
theorem dX7_bestOf_98 : decode cX7_bestOf 98 = .ok (.iload_n 2, 1) := by decide +kernel
theorem dX7_bestOf_99 : decode cX7_bestOf 99 = .ok (.ifCond .ne 16, 3) := by decide +kernel
theorem dX7_bestOf_102 : decode cX7_bestOf 102 = .ok (.aload_n 0, 1) := by decide +kernel
theorem dX7_bestOf_103 : decode cX7_bestOf 103 = .ok (.getfield 16, 3) := by decide +kernel
theorem dX7_bestOf_106 : decode cX7_bestOf 106 = .ok (.iload_n 1, 1) := by decide +kernel
theorem dX7_bestOf_107 : decode cX7_bestOf 107 = .ok (.iaload, 1) := by decide +kernel
theorem dX7_bestOf_108 : decode cX7_bestOf 108 = .ok (.sipush 1000, 3) := by decide +kernel
theorem dX7_bestOf_111 : decode cX7_bestOf 111 = .ok (.iadd, 1) := by decide +kernel
theorem dX7_bestOf_112 : decode cX7_bestOf 112 = .ok (.goto 27, 3) := by decide +kernel
theorem dX7_bestOf_115 : decode cX7_bestOf 115 = .ok (.iload_n 2, 1) := by decide +kernel
theorem dX7_bestOf_116 : decode cX7_bestOf 116 = .ok (.bipush 10, 2) := by decide +kernel
theorem dX7_bestOf_118 : decode cX7_bestOf 118 = .ok (.isub, 1) := by decide +kernel
theorem dX7_bestOf_119 : decode cX7_bestOf 119 = .ok (.aload_n 0, 1) := by decide +kernel
theorem dX7_bestOf_120 : decode cX7_bestOf 120 = .ok (.getfield 63, 3) := by decide +kernel
theorem dX7_bestOf_123 : decode cX7_bestOf 123 = .ok (.if_icmp .ge 15, 3) := by decide +kernel
theorem dX7_bestOf_126 : decode cX7_bestOf 126 = .ok (.aload_n 0, 1) := by decide +kernel
theorem dX7_bestOf_127 : decode cX7_bestOf 127 = .ok (.getfield 19, 3) := by decide +kernel
theorem dX7_bestOf_130 : decode cX7_bestOf 130 = .ok (.iload_n 2, 1) := by decide +kernel
theorem dX7_bestOf_131 : decode cX7_bestOf 131 = .ok (.bipush 10, 2) := by decide +kernel
theorem dX7_bestOf_133 : decode cX7_bestOf 133 = .ok (.isub, 1) := by decide +kernel
theorem dX7_bestOf_134 : decode cX7_bestOf 134 = .ok (.iaload, 1) := by decide +kernel
theorem dX7_bestOf_135 : decode cX7_bestOf 135 = .ok (.goto 4, 3) := by decide +kernel
theorem dX7_bestOf_138 : decode cX7_bestOf 138 = .ok (.iconst (-1), 1) := by decide +kernel
theorem dX7_bestOf_139 : decode cX7_bestOf 139 = .ok (.ireturn, 1) := by decide +kernel
set_option maxRecDepth 20000 in
theorem ggX7_best_X7_in : GoodIn wsX7_best wsX7_in := goodIn_r _ [8] (by decide +kernel) (by decide +kernel)
set_option maxRecDepth 20000 in
theorem gX7_best_X7_in : GoodIn wsX7_best (va_wsS RX7 40 yX7_in wsX7_in) := goodIn_app (goodIn_of _ (by decide +kernel)) ggX7_best_X7_in
set_option maxRecDepth 20000 in
theorem ggX7_best_X7_lacks : GoodIn wsX7_best wsX7_lacks := goodIn_r _ [12, 13, 47, 48, 49, 50, 51, 52, 53, 54, 55, 56, 57, 58, 59, 60, 61, 62, 63, 64, 65, 66, 67, 68, 69, 70, 71] (by decide +kernel) (by decide +kernel)
set_option maxRecDepth 20000 in
theorem gX7_best_X7_lacks : GoodIn wsX7_best (wsV RX7 109 RX7 yX7_lacks wsX7_lacks) := goodIn_app (goodIn_of _ (by decide +kernel)) ggX7_best_X7_lacks
set_option maxRecDepth 20000 in
theorem ggX7_best_X7_bestOf : GoodIn wsX7_best wsX7_bestOf := goodIn_r _ [17, 13, 18, 19, 20, 21, 22, 7, 23, 24, 25, 26, 27, 28, 29, 30, 31, 32, 33, 34, 35, 36, 37, 38, 39, 40, 41, 42, 43, 44, 45, 46, 47, 48, 49, 50, 51, 52, 53, 54, 55, 56, 57, 58, 59, 60, 61, 62, 63, 64, 65, 66, 67, 68, 69, 70, 71] (by decide +kernel) (by decide +kernel)
set_option maxRecDepth 20000 in
theorem gX7_best_X7_bestOf : GoodIn wsX7_best (wsV RX7 134 RX7 yX7_bestOf wsX7_bestOf) := goodIn_app (goodIn_of _ (by decide +kernel)) ggX7_best_X7_bestOf
theorem dX7_best_0 : decode cX7_best 0 = .ok (.iload_n 1, 1) := by decide +kernel
theorem dX7_best_1 : decode cX7_best 1 = .ok (.i2l, 1) := by decide +kernel
theorem dX7_best_2 : decode cX7_best 2 = .ok (.lconst 0, 1) := by decide +kernel
theorem dX7_best_3 : decode cX7_best 3 = .ok (.ldc2_w 125, 3) := by decide +kernel
theorem dX7_best_6 : decode cX7_best 6 = .ok (.invokestatic 40, 3) := by decide +kernel
theorem dX7_best_9 : decode cX7_best 9 = .ok (.ifCond .eq 21, 3) := by decide +kernel
theorem dX7_best_12 : decode cX7_best 12 = .ok (.iload_n 2, 1) := by decide +kernel
theorem dX7_best_13 : decode cX7_best 13 = .ok (.ifCond .eq 20, 3) := by decide +kernel
theorem dX7_best_16 : decode cX7_best 16 = .ok (.iload_n 2, 1) := by decide +kernel
theorem dX7_best_17 : decode cX7_best 17 = .ok (.i2l, 1) := by decide +kernel
theorem dX7_best_18 : decode cX7_best 18 = .ok (.ldc2_w 127, 3) := by decide +kernel
theorem dX7_best_21 : decode cX7_best 21 = .ok (.ldc2_w 129, 3) := by decide +kernel
theorem dX7_best_24 : decode cX7_best 24 = .ok (.invokestatic 40, 3) := by decide +kernel
theorem dX7_best_27 : decode cX7_best 27 = .ok (.ifCond .ne 6, 3) := by decide +kernel
theorem dX7_best_30 : decode cX7_best 30 = .ok (.bipush (-102), 2) := by decide +kernel
theorem dX7_best_32 : decode cX7_best 32 = .ok (.ireturn, 1) := by decide +kernel
theorem dX7_best_33 : decode cX7_best 33 = .ok (.aload_n 0, 1) := by decide +kernel
theorem dX7_best_34 : decode cX7_best 34 = .ok (.invokevirtual 109, 3) := by decide +kernel
theorem dX7_best_37 : decode cX7_best 37 = .ok (.ifCond .ne 12, 3) := by decide +kernel
theorem dX7_best_40 : decode cX7_best 40 = .ok (.aload_n 0, 1) := by decide +kernel
theorem dX7_best_41 : decode cX7_best 41 = .ok (.getfield 131, 3) := by decide +kernel
theorem dX7_best_44 : decode cX7_best 44 = .ok (.bipush 40, 2) := by decide +kernel
theorem dX7_best_46 : decode cX7_best 46 = .ok (.if_icmp .ne 6, 3) := by decide +kernel
theorem dX7_best_49 : decode cX7_best 49 = .ok (.bipush (-103), 2) := by decide +kernel
theorem dX7_best_51 : decode cX7_best 51 = .ok (.ireturn, 1) := by decide +kernel
theorem dX7_best_52 : decode cX7_best 52 = .ok (.aload_n 0, 1) := by decide +kernel
theorem dX7_best_53 : decode cX7_best 53 = .ok (.dup, 1) := by decide +kernel
theorem dX7_best_54 : decode cX7_best 54 = .ok (.getfield 131, 3) := by decide +kernel
theorem dX7_best_57 : decode cX7_best 57 = .ok (.iconst 1, 1) := by decide +kernel
theorem dX7_best_58 : decode cX7_best 58 = .ok (.iadd, 1) := by decide +kernel
theorem dX7_best_59 : decode cX7_best 59 = .ok (.putfield 131, 3) := by decide +kernel
theorem dX7_best_62 : decode cX7_best 62 = .ok (.aload_n 0, 1) := by decide +kernel
theorem dX7_best_63 : decode cX7_best 63 = .ok (.iload_n 1, 1) := by decide +kernel
theorem dX7_best_64 : decode cX7_best 64 = .ok (.iload_n 2, 1) := by decide +kernel
theorem dX7_best_65 : decode cX7_best 65 = .ok (.invokevirtual 134, 3) := by decide +kernel
theorem dX7_best_68 : decode cX7_best 68 = .ok (.ireturn, 1) := by decide +kernel
set_option maxRecDepth 20000 in
theorem ggX7_taste_X7_in : GoodIn wsX7_taste wsX7_in := goodIn_r _ [9] (by decide +kernel) (by decide +kernel)
set_option maxRecDepth 20000 in
theorem gX7_taste_X7_in : GoodIn wsX7_taste (va_wsS RX7 40 yX7_in wsX7_in) := goodIn_app (goodIn_of _ (by decide +kernel)) ggX7_taste_X7_in
theorem dX7_taste_0 : decode cX7_taste 0 = .ok (.iload_n 1, 1) := by decide +kernel
theorem dX7_taste_1 : decode cX7_taste 1 = .ok (.i2l, 1) := by decide +kernel
theorem dX7_taste_2 : decode cX7_taste 2 = .ok (.lconst 0, 1) := by decide +kernel
theorem dX7_taste_3 : decode cX7_taste 3 = .ok (.ldc2_w 107, 3) := by decide +kernel
theorem dX7_taste_6 : decode cX7_taste 6 = .ok (.invokestatic 40, 3) := by decide +kernel
theorem dX7_taste_9 : decode cX7_taste 9 = .ok (.ifCond .eq 17, 3) := by decide +kernel
theorem dX7_taste_12 : decode cX7_taste 12 = .ok (.iload_n 2, 1) := by decide +kernel
theorem dX7_taste_13 : decode cX7_taste 13 = .ok (.i2l, 1) := by decide +kernel
theorem dX7_taste_14 : decode cX7_taste 14 = .ok (.ldc2_w 137, 3) := by decide +kernel
theorem dX7_taste_17 : decode cX7_taste 17 = .ok (.ldc2_w 139, 3) := by decide +kernel
theorem dX7_taste_20 : decode cX7_taste 20 = .ok (.invokestatic 40, 3) := by decide +kernel
theorem dX7_taste_23 : decode cX7_taste 23 = .ok (.ifCond .ne 6, 3) := by decide +kernel
theorem dX7_taste_26 : decode cX7_taste 26 = .ok (.bipush (-102), 2) := by decide +kernel
theorem dX7_taste_28 : decode cX7_taste 28 = .ok (.ireturn, 1) := by decide +kernel
theorem dX7_taste_29 : decode cX7_taste 29 = .ok (.aload_n 0, 1) := by decide +kernel
theorem dX7_taste_30 : decode cX7_taste 30 = .ok (.getfield 78, 3) := by decide +kernel
theorem dX7_taste_33 : decode cX7_taste 33 = .ok (.bipush 6, 2) := by decide +kernel
theorem dX7_taste_35 : decode cX7_taste 35 = .ok (.if_icmp .ne 6, 3) := by decide +kernel
theorem dX7_taste_38 : decode cX7_taste 38 = .ok (.bipush (-104), 2) := by decide +kernel
theorem dX7_taste_40 : decode cX7_taste 40 = .ok (.ireturn, 1) := by decide +kernel
theorem dX7_taste_41 : decode cX7_taste 41 = .ok (.aload_n 0, 1) := by decide +kernel
theorem dX7_taste_42 : decode cX7_taste 42 = .ok (.getfield 22, 3) := by decide +kernel
theorem dX7_taste_45 : decode cX7_taste 45 = .ok (.iconst 2, 1) := by decide +kernel
theorem dX7_taste_46 : decode cX7_taste 46 = .ok (.aload_n 0, 1) := by decide +kernel
theorem dX7_taste_47 : decode cX7_taste 47 = .ok (.getfield 78, 3) := by decide +kernel
theorem dX7_taste_50 : decode cX7_taste 50 = .ok (.imul, 1) := by decide +kernel
theorem dX7_taste_51 : decode cX7_taste 51 = .ok (.iload_n 1, 1) := by decide +kernel
theorem dX7_taste_52 : decode cX7_taste 52 = .ok (.iastore, 1) := by decide +kernel
theorem dX7_taste_53 : decode cX7_taste 53 = .ok (.aload_n 0, 1) := by decide +kernel
theorem dX7_taste_54 : decode cX7_taste 54 = .ok (.getfield 22, 3) := by decide +kernel
theorem dX7_taste_57 : decode cX7_taste 57 = .ok (.iconst 2, 1) := by decide +kernel
theorem dX7_taste_58 : decode cX7_taste 58 = .ok (.aload_n 0, 1) := by decide +kernel
theorem dX7_taste_59 : decode cX7_taste 59 = .ok (.getfield 78, 3) := by decide +kernel
theorem dX7_taste_62 : decode cX7_taste 62 = .ok (.imul, 1) := by decide +kernel
theorem dX7_taste_63 : decode cX7_taste 63 = .ok (.iconst 1, 1) := by decide +kernel
theorem dX7_taste_64 : decode cX7_taste 64 = .ok (.iadd, 1) := by decide +kernel
theorem dX7_taste_65 : decode cX7_taste 65 = .ok (.iload_n 2, 1) := by decide +kernel
theorem dX7_taste_66 : decode cX7_taste 66 = .ok (.iastore, 1) := by decide +kernel
theorem dX7_taste_67 : decode cX7_taste 67 = .ok (.aload_n 0, 1) := by decide +kernel
theorem dX7_taste_68 : decode cX7_taste 68 = .ok (.dup, 1) := by decide +kernel
theorem dX7_taste_69 : decode cX7_taste 69 = .ok (.getfield 78, 3) := by decide +kernel
theorem dX7_taste_72 : decode cX7_taste 72 = .ok (.iconst 1, 1) := by decide +kernel
theorem dX7_taste_73 : decode cX7_taste 73 = .ok (.iadd, 1) := by decide +kernel
theorem dX7_taste_74 : decode cX7_taste 74 = .ok (.putfield 78, 3) := by decide +kernel
theorem dX7_taste_77 : decode cX7_taste 77 = .ok (.aload_n 0, 1) := by decide +kernel
theorem dX7_taste_78 : decode cX7_taste 78 = .ok (.getfield 78, 3) := by decide +kernel
theorem dX7_taste_81 : decode cX7_taste 81 = .ok (.ireturn, 1) := by decide +kernel
theorem dX7_forget_0 : decode cX7_forget 0 = .ok (.aload_n 0, 1) := by decide +kernel
theorem dX7_forget_1 : decode cX7_forget 1 = .ok (.getfield 78, 3) := by decide +kernel
theorem dX7_forget_4 : decode cX7_forget 4 = .ok (.istore_n 1, 1) := by decide +kernel
theorem dX7_forget_5 : decode cX7_forget 5 = .ok (.aload_n 0, 1) := by decide +kernel
theorem dX7_forget_6 : decode cX7_forget 6 = .ok (.iconst 0, 1) := by decide +kernel
theorem dX7_forget_7 : decode cX7_forget 7 = .ok (.putfield 78, 3) := by decide +kernel
theorem dX7_forget_10 : decode cX7_forget 10 = .ok (.iload_n 1, 1) := by decide +kernel
theorem dX7_forget_11 : decode cX7_forget 11 = .ok (.ireturn, 1) := by decide +kernel
set_option maxRecDepth 20000 in
theorem ggX7_whichOf_X7_firstIn : GoodIn wsX7_whichOf wsX7_firstIn := goodIn_r _ [8, 9, 10, 11, 12, 7, 13, 14, 15, 16, 17, 18, 19, 20, 21, 22, 23, 24, 25, 26, 27, 28, 29, 30, 31, 32, 33, 34, 35, 36, 37, 38] (by decide +kernel) (by decide +kernel)
set_option maxRecDepth 20000 in
theorem gX7_whichOf_X7_firstIn : GoodIn wsX7_whichOf (wsV RX7 88 RX7 yX7_firstIn wsX7_firstIn) := goodIn_app (goodIn_of _ (by decide +kernel)) ggX7_whichOf_X7_firstIn
theorem dX7_whichOf_0 : decode cX7_whichOf 0 = .ok (.iconst 0, 1) := by decide +kernel
theorem dX7_whichOf_1 : decode cX7_whichOf 1 = .ok (.istore_n 1, 1) := by decide +kernel
theorem dX7_whichOf_2 : decode cX7_whichOf 2 = .ok (.iconst 0, 1) := by decide +kernel
theorem dX7_whichOf_3 : decode cX7_whichOf 3 = .ok (.istore_n 2, 1) := by decide +kernel
theorem dX7_whichOf_4 : decode cX7_whichOf 4 = .ok (.iload_n 2, 1) := by decide +kernel
theorem dX7_whichOf_5 : decode cX7_whichOf 5 = .ok (.aload_n 0, 1) := by decide +kernel
theorem dX7_whichOf_6 : decode cX7_whichOf 6 = .ok (.getfield 63, 3) := by decide +kernel
theorem dX7_whichOf_9 : decode cX7_whichOf 9 = .ok (.if_icmp .ge 81, 3) := by decide +kernel
theorem dX7_whichOf_12 : decode cX7_whichOf 12 = .ok (.iconst 1, 1) := by decide +kernel
theorem dX7_whichOf_13 : decode cX7_whichOf 13 = .ok (.istore_n 3, 1) := by decide +kernel
theorem dX7_whichOf_14 : decode cX7_whichOf 14 = .ok (.iconst 0, 1) := by decide +kernel
theorem dX7_whichOf_15 : decode cX7_whichOf 15 = .ok (.istore 4, 2) := by decide +kernel
theorem dX7_whichOf_17 : decode cX7_whichOf 17 = .ok (.iload 4, 2) := by decide +kernel
theorem dX7_whichOf_19 : decode cX7_whichOf 19 = .ok (.aload_n 0, 1) := by decide +kernel
theorem dX7_whichOf_20 : decode cX7_whichOf 20 = .ok (.getfield 78, 3) := by decide +kernel
theorem dX7_whichOf_23 : decode cX7_whichOf 23 = .ok (.if_icmp .ge 47, 3) := by decide +kernel
theorem dX7_whichOf_26 : decode cX7_whichOf 26 = .ok (.iload_n 3, 1) := by decide +kernel
theorem dX7_whichOf_27 : decode cX7_whichOf 27 = .ok (.ifCond .eq 35, 3) := by decide +kernel
theorem dX7_whichOf_30 : decode cX7_whichOf 30 = .ok (.aload_n 0, 1) := by decide +kernel
theorem dX7_whichOf_31 : decode cX7_whichOf 31 = .ok (.iload_n 2, 1) := by decide +kernel
theorem dX7_whichOf_32 : decode cX7_whichOf 32 = .ok (.aload_n 0, 1) := by decide +kernel
theorem dX7_whichOf_33 : decode cX7_whichOf 33 = .ok (.getfield 22, 3) := by decide +kernel
theorem dX7_whichOf_36 : decode cX7_whichOf 36 = .ok (.iconst 2, 1) := by decide +kernel
theorem dX7_whichOf_37 : decode cX7_whichOf 37 = .ok (.iload 4, 2) := by decide +kernel
theorem dX7_whichOf_39 : decode cX7_whichOf 39 = .ok (.imul, 1) := by decide +kernel
theorem dX7_whichOf_40 : decode cX7_whichOf 40 = .ok (.iaload, 1) := by decide +kernel
theorem dX7_whichOf_41 : decode cX7_whichOf 41 = .ok (.invokevirtual 88, 3) := by decide +kernel
theorem dX7_whichOf_44 : decode cX7_whichOf 44 = .ok (.aload_n 0, 1) := by decide +kernel
theorem dX7_whichOf_45 : decode cX7_whichOf 45 = .ok (.getfield 22, 3) := by decide +kernel
theorem dX7_whichOf_48 : decode cX7_whichOf 48 = .ok (.iconst 2, 1) := by decide +kernel
theorem dX7_whichOf_49 : decode cX7_whichOf 49 = .ok (.iload 4, 2) := by decide +kernel
theorem dX7_whichOf_51 : decode cX7_whichOf 51 = .ok (.imul, 1) := by decide +kernel
theorem dX7_whichOf_52 : decode cX7_whichOf 52 = .ok (.iconst 1, 1) := by decide +kernel
theorem dX7_whichOf_53 : decode cX7_whichOf 53 = .ok (.iadd, 1) := by decide +kernel
theorem dX7_whichOf_54 : decode cX7_whichOf 54 = .ok (.iaload, 1) := by decide +kernel
theorem dX7_whichOf_55 : decode cX7_whichOf 55 = .ok (.if_icmp .ne 7, 3) := by decide +kernel
theorem dX7_whichOf_58 : decode cX7_whichOf 58 = .ok (.iconst 1, 1) := by decide +kernel
theorem dX7_whichOf_59 : decode cX7_whichOf 59 = .ok (.goto 4, 3) := by decide +kernel
theorem dX7_whichOf_62 : decode cX7_whichOf 62 = .ok (.iconst 0, 1) := by decide +kernel
theorem dX7_whichOf_63 : decode cX7_whichOf 63 = .ok (.istore_n 3, 1) := by decide +kernel
theorem dX7_whichOf_64 : decode cX7_whichOf 64 = .ok (.iinc 4 1, 3) := by decide +kernel
theorem dX7_whichOf_67 : decode cX7_whichOf 67 = .ok (.goto (-50), 3) := by decide +kernel
theorem dX7_whichOf_70 : decode cX7_whichOf 70 = .ok (.iload_n 1, 1) := by decide +kernel
theorem dX7_whichOf_71 : decode cX7_whichOf 71 = .ok (.iload_n 3, 1) := by decide +kernel
theorem dX7_whichOf_72 : decode cX7_whichOf 72 = .ok (.ifCond .eq 9, 3) := by decide +kernel
theorem dX7_whichOf_75 : decode cX7_whichOf 75 = .ok (.iconst 1, 1) := by decide +kernel
theorem dX7_whichOf_76 : decode cX7_whichOf 76 = .ok (.iload_n 2, 1) := by decide +kernel
theorem dX7_whichOf_77 : decode cX7_whichOf 77 = .ok (.ishl, 1) := by decide +kernel
theorem dX7_whichOf_78 : decode cX7_whichOf 78 = .ok (.goto 4, 3) := by decide +kernel
theorem dX7_whichOf_81 : decode cX7_whichOf 81 = .ok (.iconst 0, 1) := by decide +kernel
theorem dX7_whichOf_82 : decode cX7_whichOf 82 = .ok (.ior, 1) := by decide +kernel
theorem dX7_whichOf_83 : decode cX7_whichOf 83 = .ok (.istore_n 1, 1) := by decide +kernel
theorem dX7_whichOf_84 : decode cX7_whichOf 84 = .ok (.iinc 2 1, 3) := by decide +kernel
theorem dX7_whichOf_87 : decode cX7_whichOf 87 = .ok (.goto (-83), 3) := by decide +kernel
theorem dX7_whichOf_90 : decode cX7_whichOf 90 = .ok (.iload_n 1, 1) := by decide +kernel
theorem dX7_whichOf_91 : decode cX7_whichOf 91 = .ok (.ireturn, 1) := by decide +kernel
set_option maxRecDepth 20000 in
theorem ggX7_which_X7_lacks : GoodIn wsX7_which wsX7_lacks := goodIn_r _ [5, 6, 22, 23, 24, 25, 26, 27, 28, 29, 30, 31, 32, 33, 34, 35, 36, 37, 38, 39, 40, 41, 42, 43, 44, 45, 46] (by decide +kernel) (by decide +kernel)
set_option maxRecDepth 20000 in
theorem gX7_which_X7_lacks : GoodIn wsX7_which (wsV RX7 109 RX7 yX7_lacks wsX7_lacks) := goodIn_app (goodIn_of _ (by decide +kernel)) ggX7_which_X7_lacks
set_option maxRecDepth 20000 in
theorem ggX7_which_X7_whichOf : GoodIn wsX7_which wsX7_whichOf := goodIn_r _ [10, 6, 11, 12, 13, 14, 15, 4, 16, 17, 18, 19, 20, 21, 22, 23, 24, 25, 26, 27, 28, 29, 30, 31, 32, 33, 34, 35, 36, 37, 38, 39, 40, 41, 42, 43, 44, 45, 46] (by decide +kernel) (by decide +kernel)
set_option maxRecDepth 20000 in
theorem gX7_which_X7_whichOf : GoodIn wsX7_which (wsV RX7 141 RX7 yX7_whichOf wsX7_whichOf) := goodIn_app (goodIn_of _ (by decide +kernel)) ggX7_which_X7_whichOf
theorem dX7_which_0 : decode cX7_which 0 = .ok (.aload_n 0, 1) := by decide +kernel
theorem dX7_which_1 : decode cX7_which 1 = .ok (.invokevirtual 109, 3) := by decide +kernel
theorem dX7_which_4 : decode cX7_which 4 = .ok (.ifCond .eq 8, 3) := by decide +kernel
theorem dX7_which_7 : decode cX7_which 7 = .ok (.bipush (-103), 2) := by decide +kernel
theorem dX7_which_9 : decode cX7_which 9 = .ok (.goto 7, 3) := by decide +kernel
theorem dX7_which_12 : decode cX7_which 12 = .ok (.aload_n 0, 1) := by decide +kernel
theorem dX7_which_13 : decode cX7_which 13 = .ok (.invokevirtual 141, 3) := by decide +kernel
theorem dX7_which_16 : decode cX7_which 16 = .ok (.ireturn, 1) := by decide +kernel
set_option maxRecDepth 20000 in
theorem ggX7_likeIn_X7_firstIn : GoodIn wsX7_likeIn wsX7_firstIn := goodIn_r _ [6, 7, 8, 9, 10, 5, 11, 12, 13, 14, 15, 16, 17, 18, 19, 20, 21, 22, 23, 24, 25, 26, 27, 28, 29, 30, 31, 32, 33, 34, 35, 36] (by decide +kernel) (by decide +kernel)
set_option maxRecDepth 20000 in
theorem gX7_likeIn_X7_firstIn : GoodIn wsX7_likeIn (wsV RX7 88 RX7 yX7_firstIn wsX7_firstIn) := goodIn_app (goodIn_of _ (by decide +kernel)) ggX7_likeIn_X7_firstIn
theorem dX7_likeIn_0 : decode cX7_likeIn 0 = .ok (.iconst 0, 1) := by decide +kernel
theorem dX7_likeIn_1 : decode cX7_likeIn 1 = .ok (.istore 4, 2) := by decide +kernel
theorem dX7_likeIn_3 : decode cX7_likeIn 3 = .ok (.iconst 0, 1) := by decide +kernel
theorem dX7_likeIn_4 : decode cX7_likeIn 4 = .ok (.istore 5, 2) := by decide +kernel
theorem dX7_likeIn_6 : decode cX7_likeIn 6 = .ok (.iload 5, 2) := by decide +kernel
theorem dX7_likeIn_8 : decode cX7_likeIn 8 = .ok (.aload_n 0, 1) := by decide +kernel
theorem dX7_likeIn_9 : decode cX7_likeIn 9 = .ok (.getfield 63, 3) := by decide +kernel
theorem dX7_likeIn_12 : decode cX7_likeIn 12 = .ok (.if_icmp .ge 45, 3) := by decide +kernel
theorem dX7_likeIn_15 : decode cX7_likeIn 15 = .ok (.iload 4, 2) := by decide +kernel
theorem dX7_likeIn_17 : decode cX7_likeIn 17 = .ok (.iload_n 1, 1) := by decide +kernel
theorem dX7_likeIn_18 : decode cX7_likeIn 18 = .ok (.iload 5, 2) := by decide +kernel
theorem dX7_likeIn_20 : decode cX7_likeIn 20 = .ok (.ishr, 1) := by decide +kernel
theorem dX7_likeIn_21 : decode cX7_likeIn 21 = .ok (.iconst 1, 1) := by decide +kernel
theorem dX7_likeIn_22 : decode cX7_likeIn 22 = .ok (.iand, 1) := by decide +kernel
theorem dX7_likeIn_23 : decode cX7_likeIn 23 = .ok (.iconst 1, 1) := by decide +kernel
theorem dX7_likeIn_24 : decode cX7_likeIn 24 = .ok (.if_icmp .ne 23, 3) := by decide +kernel
theorem dX7_likeIn_27 : decode cX7_likeIn 27 = .ok (.aload_n 0, 1) := by decide +kernel
theorem dX7_likeIn_28 : decode cX7_likeIn 28 = .ok (.iload 5, 2) := by decide +kernel
theorem dX7_likeIn_30 : decode cX7_likeIn 30 = .ok (.iload_n 3, 1) := by decide +kernel
theorem dX7_likeIn_31 : decode cX7_likeIn 31 = .ok (.invokevirtual 88, 3) := by decide +kernel
theorem dX7_likeIn_34 : decode cX7_likeIn 34 = .ok (.aload_n 0, 1) := by decide +kernel
theorem dX7_likeIn_35 : decode cX7_likeIn 35 = .ok (.iload_n 2, 1) := by decide +kernel
theorem dX7_likeIn_36 : decode cX7_likeIn 36 = .ok (.iload_n 3, 1) := by decide +kernel
theorem dX7_likeIn_37 : decode cX7_likeIn 37 = .ok (.invokevirtual 88, 3) := by decide +kernel
theorem dX7_likeIn_40 : decode cX7_likeIn 40 = .ok (.if_icmp .ne 7, 3) := by decide +kernel
theorem dX7_likeIn_43 : decode cX7_likeIn 43 = .ok (.iconst 1, 1) := by decide +kernel
theorem dX7_likeIn_44 : decode cX7_likeIn 44 = .ok (.goto 4, 3) := by decide +kernel
theorem dX7_likeIn_47 : decode cX7_likeIn 47 = .ok (.iconst 0, 1) := by decide +kernel
theorem dX7_likeIn_48 : decode cX7_likeIn 48 = .ok (.iadd, 1) := by decide +kernel
theorem dX7_likeIn_49 : decode cX7_likeIn 49 = .ok (.istore 4, 2) := by decide +kernel
theorem dX7_likeIn_51 : decode cX7_likeIn 51 = .ok (.iinc 5 1, 3) := by decide +kernel
theorem dX7_likeIn_54 : decode cX7_likeIn 54 = .ok (.goto (-48), 3) := by decide +kernel
theorem dX7_likeIn_57 : decode cX7_likeIn 57 = .ok (.iload 4, 2) := by decide +kernel
theorem dX7_likeIn_59 : decode cX7_likeIn 59 = .ok (.ireturn, 1) := by decide +kernel
set_option maxRecDepth 20000 in
theorem ggX7_tryOf_X7_whichOf : GoodIn wsX7_tryOf wsX7_whichOf := goodIn_r _ [7, 1, 8, 9, 10, 11, 12, 6, 13, 14, 15, 16, 17, 18, 23, 24, 25, 26, 27, 28, 29, 30, 31, 32, 33, 34, 35, 36, 37, 38, 39, 40, 41, 42, 43, 44, 45, 46, 47] (by decide +kernel) (by decide +kernel)
set_option maxRecDepth 20000 in
theorem gX7_tryOf_X7_whichOf : GoodIn wsX7_tryOf (wsV RX7 141 RX7 yX7_whichOf wsX7_whichOf) := goodIn_app (goodIn_of _ (by decide +kernel)) ggX7_tryOf_X7_whichOf
set_option maxRecDepth 20000 in
theorem ggX7_tryOf_X7_likeIn : GoodIn wsX7_tryOf wsX7_likeIn := goodIn_r _ [22, 1, 10, 11, 12, 6, 13, 14, 15, 16, 17, 18, 23, 24, 25, 26, 27, 28, 29, 30, 31, 32, 33, 34, 35, 36, 37, 38, 39, 40, 41, 42, 43, 44, 45, 46, 47] (by decide +kernel) (by decide +kernel)
set_option maxRecDepth 20000 in
theorem gX7_tryOf_X7_likeIn : GoodIn wsX7_tryOf (wsV RX7 144 RX7 yX7_likeIn wsX7_likeIn) := goodIn_app (goodIn_of _ (by decide +kernel)) ggX7_tryOf_X7_likeIn
theorem dX7_tryOf_0 : decode cX7_tryOf 0 = .ok (.aload_n 0, 1) := by decide +kernel
theorem dX7_tryOf_1 : decode cX7_tryOf 1 = .ok (.invokevirtual 141, 3) := by decide +kernel
theorem dX7_tryOf_4 : decode cX7_tryOf 4 = .ok (.istore_n 1, 1) := by decide +kernel
theorem dX7_tryOf_5 : decode cX7_tryOf 5 = .ok (.iconst (-1), 1) := by decide +kernel
theorem dX7_tryOf_6 : decode cX7_tryOf 6 = .ok (.istore_n 2, 1) := by decide +kernel
theorem dX7_tryOf_7 : decode cX7_tryOf 7 = .ok (.bipush 7, 2) := by decide +kernel
theorem dX7_tryOf_9 : decode cX7_tryOf 9 = .ok (.istore_n 3, 1) := by decide +kernel
theorem dX7_tryOf_10 : decode cX7_tryOf 10 = .ok (.iconst 0, 1) := by decide +kernel
theorem dX7_tryOf_11 : decode cX7_tryOf 11 = .ok (.istore 4, 2) := by decide +kernel
theorem dX7_tryOf_13 : decode cX7_tryOf 13 = .ok (.iload 4, 2) := by decide +kernel
theorem dX7_tryOf_15 : decode cX7_tryOf 15 = .ok (.bipush 10, 2) := by decide +kernel
theorem dX7_tryOf_17 : decode cX7_tryOf 17 = .ok (.if_icmp .ge 106, 3) := by decide +kernel
theorem dX7_tryOf_20 : decode cX7_tryOf 20 = .ok (.iload_n 1, 1) := by decide +kernel
theorem dX7_tryOf_21 : decode cX7_tryOf 21 = .ok (.ifCond .eq 102, 3) := by decide +kernel
theorem dX7_tryOf_24 : decode cX7_tryOf 24 = .ok (.iconst 0, 1) := by decide +kernel
theorem dX7_tryOf_25 : decode cX7_tryOf 25 = .ok (.istore 5, 2) := by decide +kernel
theorem dX7_tryOf_27 : decode cX7_tryOf 27 = .ok (.iconst 0, 1) := by decide +kernel
theorem dX7_tryOf_28 : decode cX7_tryOf 28 = .ok (.istore 6, 2) := by decide +kernel
theorem dX7_tryOf_30 : decode cX7_tryOf 30 = .ok (.iload 6, 2) := by decide +kernel
theorem dX7_tryOf_32 : decode cX7_tryOf 32 = .ok (.aload_n 0, 1) := by decide +kernel
theorem dX7_tryOf_33 : decode cX7_tryOf 33 = .ok (.getfield 63, 3) := by decide +kernel
theorem dX7_tryOf_36 : decode cX7_tryOf 36 = .ok (.if_icmp .ge 55, 3) := by decide +kernel
theorem dX7_tryOf_39 : decode cX7_tryOf 39 = .ok (.iload_n 1, 1) := by decide +kernel
theorem dX7_tryOf_40 : decode cX7_tryOf 40 = .ok (.iload 6, 2) := by decide +kernel
theorem dX7_tryOf_42 : decode cX7_tryOf 42 = .ok (.ishr, 1) := by decide +kernel
theorem dX7_tryOf_43 : decode cX7_tryOf 43 = .ok (.iconst 1, 1) := by decide +kernel
theorem dX7_tryOf_44 : decode cX7_tryOf 44 = .ok (.iand, 1) := by decide +kernel
theorem dX7_tryOf_45 : decode cX7_tryOf 45 = .ok (.iconst 1, 1) := by decide +kernel
theorem dX7_tryOf_46 : decode cX7_tryOf 46 = .ok (.if_icmp .ne 20, 3) := by decide +kernel
theorem dX7_tryOf_49 : decode cX7_tryOf 49 = .ok (.aload_n 0, 1) := by decide +kernel
theorem dX7_tryOf_50 : decode cX7_tryOf 50 = .ok (.iload_n 1, 1) := by decide +kernel
theorem dX7_tryOf_51 : decode cX7_tryOf 51 = .ok (.iload 6, 2) := by decide +kernel
theorem dX7_tryOf_53 : decode cX7_tryOf 53 = .ok (.aload_n 0, 1) := by decide +kernel
theorem dX7_tryOf_54 : decode cX7_tryOf 54 = .ok (.getfield 66, 3) := by decide +kernel
theorem dX7_tryOf_57 : decode cX7_tryOf 57 = .ok (.iload 4, 2) := by decide +kernel
theorem dX7_tryOf_59 : decode cX7_tryOf 59 = .ok (.iadd, 1) := by decide +kernel
theorem dX7_tryOf_60 : decode cX7_tryOf 60 = .ok (.invokevirtual 144, 3) := by decide +kernel
theorem dX7_tryOf_63 : decode cX7_tryOf 63 = .ok (.goto 4, 3) := by decide +kernel
theorem dX7_tryOf_66 : decode cX7_tryOf 66 = .ok (.iconst 0, 1) := by decide +kernel
theorem dX7_tryOf_67 : decode cX7_tryOf 67 = .ok (.istore 7, 2) := by decide +kernel
theorem dX7_tryOf_69 : decode cX7_tryOf 69 = .ok (.iload 7, 2) := by decide +kernel
theorem dX7_tryOf_71 : decode cX7_tryOf 71 = .ok (.iload 5, 2) := by decide +kernel
theorem dX7_tryOf_73 : decode cX7_tryOf 73 = .ok (.if_icmp .le 8, 3) := by decide +kernel
theorem dX7_tryOf_76 : decode cX7_tryOf 76 = .ok (.iload 7, 2) := by decide +kernel
theorem dX7_tryOf_78 : decode cX7_tryOf 78 = .ok (.goto 5, 3) := by decide +kernel
theorem dX7_tryOf_81 : decode cX7_tryOf 81 = .ok (.iload 5, 2) := by decide +kernel
theorem dX7_tryOf_83 : decode cX7_tryOf 83 = .ok (.istore 5, 2) := by decide +kernel
theorem dX7_tryOf_85 : decode cX7_tryOf 85 = .ok (.iinc 6 1, 3) := by decide +kernel
theorem dX7_tryOf_88 : decode cX7_tryOf 88 = .ok (.goto (-58), 3) := by decide +kernel
theorem dX7_tryOf_91 : decode cX7_tryOf 91 = .ok (.iload 5, 2) := by decide +kernel
theorem dX7_tryOf_93 : decode cX7_tryOf 93 = .ok (.iload_n 3, 1) := by decide +kernel
theorem dX7_tryOf_94 : decode cX7_tryOf 94 = .ok (.if_icmp .ge 8, 3) := by decide +kernel
theorem dX7_tryOf_97 : decode cX7_tryOf 97 = .ok (.iload 4, 2) := by decide +kernel
theorem dX7_tryOf_99 : decode cX7_tryOf 99 = .ok (.goto 4, 3) := by decide +kernel
theorem dX7_tryOf_102 : decode cX7_tryOf 102 = .ok (.iload_n 2, 1) := by decide +kernel
theorem dX7_tryOf_103 : decode cX7_tryOf 103 = .ok (.istore_n 2, 1) := by decide +kernel
theorem dX7_tryOf_104 : decode cX7_tryOf 104 = .ok (.iload 5, 2) := by decide +kernel
theorem dX7_tryOf_106 : decode cX7_tryOf 106 = .ok (.iload_n 3, 1) := by decide +kernel
theorem dX7_tryOf_107 : decode cX7_tryOf 107 = .ok (.if_icmp .ge 8, 3) := by decide +kernel
theorem dX7_tryOf_110 : decode cX7_tryOf 110 = .ok (.iload 5, 2) := by decide +kernel
theorem dX7_tryOf_112 : decode cX7_tryOf 112 = .ok (.goto 4, 3) := by decide +kernel
theorem dX7_tryOf_115 : decode cX7_tryOf 115 = .ok (.iload_n 3, 1) := by decide +kernel
theorem dX7_tryOf_116 : decode cX7_tryOf 116 = .ok (.istore_n 3, 1) := by decide +kernel
theorem dX7_tryOf_117 : decode cX7_tryOf 117 = .ok (.iinc 4 1, 3) := by decide +kernel
theorem dX7_tryOf_120 : decode cX7_tryOf 120 = .ok (.goto (-107), 3) := by decide +kernel
theorem dX7_tryOf_123 : decode cX7_tryOf 123 = .ok (.iload_n 2, 1) := by decide +kernel
theorem dX7_tryOf_124 : decode cX7_tryOf 124 = .ok (.ireturn, 1) := by decide +kernel
set_option maxRecDepth 20000 in
theorem ggX7_tasteNext_X7_lacks : GoodIn wsX7_tasteNext wsX7_lacks := goodIn_r _ [5, 6, 31, 32, 33, 34, 35, 36, 37, 38, 39, 40, 41, 42, 43, 44, 45, 46, 47, 48, 49, 50, 51, 52, 53, 54, 55] (by decide +kernel) (by decide +kernel)
set_option maxRecDepth 20000 in
theorem gX7_tasteNext_X7_lacks : GoodIn wsX7_tasteNext (wsV RX7 109 RX7 yX7_lacks wsX7_lacks) := goodIn_app (goodIn_of _ (by decide +kernel)) ggX7_tasteNext_X7_lacks
set_option maxRecDepth 20000 in
theorem ggX7_tasteNext_X7_tryOf : GoodIn wsX7_tasteNext wsX7_tryOf := goodIn_r _ [10, 6, 11, 12, 13, 14, 4, 15, 16, 17, 18, 19, 20, 21, 22, 23, 24, 25, 26, 27, 28, 29, 30, 31, 32, 33, 34, 35, 36, 37, 38, 39, 40, 41, 42, 43, 44, 45, 46, 47, 48, 49, 50, 51, 52, 53, 54, 55] (by decide +kernel) (by decide +kernel)
set_option maxRecDepth 20000 in
theorem gX7_tasteNext_X7_tryOf : GoodIn wsX7_tasteNext (wsV RX7 148 RX7 yX7_tryOf wsX7_tryOf) := goodIn_app (goodIn_of _ (by decide +kernel)) ggX7_tasteNext_X7_tryOf
theorem dX7_tasteNext_0 : decode cX7_tasteNext 0 = .ok (.aload_n 0, 1) := by decide +kernel
theorem dX7_tasteNext_1 : decode cX7_tasteNext 1 = .ok (.invokevirtual 109, 3) := by decide +kernel
theorem dX7_tasteNext_4 : decode cX7_tasteNext 4 = .ok (.ifCond .eq 8, 3) := by decide +kernel
theorem dX7_tasteNext_7 : decode cX7_tasteNext 7 = .ok (.bipush (-103), 2) := by decide +kernel
theorem dX7_tasteNext_9 : decode cX7_tasteNext 9 = .ok (.goto 7, 3) := by decide +kernel
theorem dX7_tasteNext_12 : decode cX7_tasteNext 12 = .ok (.aload_n 0, 1) := by decide +kernel
theorem dX7_tasteNext_13 : decode cX7_tasteNext 13 = .ok (.invokevirtual 148, 3) := by decide +kernel
theorem dX7_tasteNext_16 : decode cX7_tasteNext 16 = .ok (.ireturn, 1) := by decide +kernel
theorem dX7_draw_0 : decode cX7_draw 0 = .ok (.aload_n 0, 1) := by decide +kernel
theorem dX7_draw_1 : decode cX7_draw 1 = .ok (.ldc2_w 151, 3) := by decide +kernel
theorem dX7_draw_4 : decode cX7_draw 4 = .ok (.aload_n 0, 1) := by decide +kernel
theorem dX7_draw_5 : decode cX7_draw 5 = .ok (.getfield 153, 3) := by decide +kernel
theorem dX7_draw_8 : decode cX7_draw 8 = .ok (.i2l, 1) := by decide +kernel
theorem dX7_draw_9 : decode cX7_draw 9 = .ok (.lmul, 1) := by decide +kernel
theorem dX7_draw_10 : decode cX7_draw 10 = .ok (.ldc2_w 156, 3) := by decide +kernel
theorem dX7_draw_13 : decode cX7_draw 13 = .ok (.ladd, 1) := by decide +kernel
theorem dX7_draw_14 : decode cX7_draw 14 = .ok (.ldc2_w 158, 3) := by decide +kernel
theorem dX7_draw_17 : decode cX7_draw 17 = .ok (.land, 1) := by decide +kernel
theorem dX7_draw_18 : decode cX7_draw 18 = .ok (.l2i, 1) := by decide +kernel
theorem dX7_draw_19 : decode cX7_draw 19 = .ok (.putfield 153, 3) := by decide +kernel
theorem dX7_draw_22 : decode cX7_draw 22 = .ok (.aload_n 0, 1) := by decide +kernel
theorem dX7_draw_23 : decode cX7_draw 23 = .ok (.getfield 153, 3) := by decide +kernel
theorem dX7_draw_26 : decode cX7_draw 26 = .ok (.ldc 160, 2) := by decide +kernel
theorem dX7_draw_28 : decode cX7_draw 28 = .ok (.idiv, 1) := by decide +kernel
theorem dX7_draw_29 : decode cX7_draw 29 = .ok (.iload_n 1, 1) := by decide +kernel
theorem dX7_draw_30 : decode cX7_draw 30 = .ok (.irem, 1) := by decide +kernel
theorem dX7_draw_31 : decode cX7_draw 31 = .ok (.ireturn, 1) := by decide +kernel
set_option maxRecDepth 20000 in
theorem ggX7_times_X7_in : GoodIn wsX7_times wsX7_in := goodIn_r _ [12] (by decide +kernel) (by decide +kernel)
set_option maxRecDepth 20000 in
theorem gX7_times_X7_in : GoodIn wsX7_times (va_wsS RX7 40 yX7_in wsX7_in) := goodIn_app (goodIn_of _ (by decide +kernel)) ggX7_times_X7_in
set_option maxRecDepth 20000 in
theorem ggX7_times_X7_lacks : GoodIn wsX7_times wsX7_lacks := goodIn_r _ [16, 8, 48, 49, 50, 51, 52, 53, 54, 55, 56, 57, 58, 59, 60, 61, 62, 63, 64, 65, 66, 67, 68, 69, 70, 71, 72] (by decide +kernel) (by decide +kernel)
set_option maxRecDepth 20000 in
theorem gX7_times_X7_lacks : GoodIn wsX7_times (wsV RX7 109 RX7 yX7_lacks wsX7_lacks) := goodIn_app (goodIn_of _ (by decide +kernel)) ggX7_times_X7_lacks
set_option maxRecDepth 20000 in
theorem ggX7_times_X7_copy : GoodIn wsX7_times wsX7_copy := goodIn_r _ [19] (by decide +kernel) (by decide +kernel)
set_option maxRecDepth 20000 in
theorem gX7_times_X7_copy : GoodIn wsX7_times (va_wsS RX7 165 yX7_copy wsX7_copy) := goodIn_app (goodIn_of _ (by decide +kernel)) ggX7_times_X7_copy
set_option maxRecDepth 20000 in
theorem ggX7_times_X7_draw : GoodIn wsX7_times wsX7_draw := goodIn_r _ [23, 24, 6, 25, 26, 27, 48, 49, 50, 51, 52, 53, 54, 55, 56, 57, 58, 59, 60, 61, 62, 63, 64, 65, 66, 67, 68, 69, 70, 71, 72] (by decide +kernel) (by decide +kernel)
set_option maxRecDepth 20000 in
theorem gX7_times_X7_draw : GoodIn wsX7_times (wsV RX7 169 RX7 yX7_draw wsX7_draw) := goodIn_app (goodIn_of _ (by decide +kernel)) ggX7_times_X7_draw
set_option maxRecDepth 20000 in
theorem ggX7_times_X7_nextNow : GoodIn wsX7_times wsX7_nextNow := goodIn_r _ [31, 5, 3, 32, 33, 34, 11, 35, 36, 37, 38, 39, 48, 49, 50, 51, 52, 53, 54, 55, 56, 57, 58, 59, 60, 61, 62, 63, 64, 65, 66, 67, 68, 69, 70, 71, 72] (by decide +kernel) (by decide +kernel)
set_option maxRecDepth 20000 in
theorem gX7_times_X7_nextNow : GoodIn wsX7_times (wsV RX7 92 RX7 yX7_nextNow wsX7_nextNow) := goodIn_app (goodIn_of _ (by decide +kernel)) ggX7_times_X7_nextNow
set_option maxRecDepth 20000 in
theorem ggX7_times_X7_noneEaten : GoodIn wsX7_times wsX7_noneEaten := goodIn_r _ [43, 8, 3, 48, 49, 50, 51, 52, 53, 54, 55, 56, 57, 58, 59, 60, 61, 62, 63, 64, 65, 66, 67, 68, 69, 70, 71, 72] (by decide +kernel) (by decide +kernel)
set_option maxRecDepth 20000 in
theorem gX7_times_X7_noneEaten : GoodIn wsX7_times (wsV RX7 113 RX7 yX7_noneEaten wsX7_noneEaten) := goodIn_app (goodIn_of _ (by decide +kernel)) ggX7_times_X7_noneEaten
set_option maxRecDepth 20000 in
theorem ggX7_times_X7_spoonsAll : GoodIn wsX7_times wsX7_spoonsAll := goodIn_r _ [47, 8, 3, 48, 49, 50, 51, 52, 53, 54, 55, 56, 57, 58, 59, 60, 61, 62, 63, 64, 65, 66, 67, 68, 69, 70, 71, 72] (by decide +kernel) (by decide +kernel)
set_option maxRecDepth 20000 in
theorem gX7_times_X7_spoonsAll : GoodIn wsX7_times (wsV RX7 119 RX7 yX7_spoonsAll wsX7_spoonsAll) := goodIn_app (goodIn_of _ (by decide +kernel)) ggX7_times_X7_spoonsAll
theorem dX7_times_0 : decode cX7_times 0 = .ok (.iload_n 1, 1) := by decide +kernel
theorem dX7_times_1 : decode cX7_times 1 = .ok (.i2l, 1) := by decide +kernel
theorem dX7_times_2 : decode cX7_times 2 = .ok (.lconst 1, 1) := by decide +kernel
theorem dX7_times_3 : decode cX7_times 3 = .ok (.ldc2_w 161, 3) := by decide +kernel
theorem dX7_times_6 : decode cX7_times 6 = .ok (.invokestatic 40, 3) := by decide +kernel
theorem dX7_times_9 : decode cX7_times 9 = .ok (.ifCond .eq 19, 3) := by decide +kernel
theorem dX7_times_12 : decode cX7_times 12 = .ok (.iload_n 2, 1) := by decide +kernel
theorem dX7_times_13 : decode cX7_times 13 = .ok (.ifCond .lt 15, 3) := by decide +kernel
theorem dX7_times_16 : decode cX7_times 16 = .ok (.iload_n 3, 1) := by decide +kernel
theorem dX7_times_17 : decode cX7_times 17 = .ok (.i2l, 1) := by decide +kernel
theorem dX7_times_18 : decode cX7_times 18 = .ok (.lconst 0, 1) := by decide +kernel
theorem dX7_times_19 : decode cX7_times 19 = .ok (.ldc2_w 163, 3) := by decide +kernel
theorem dX7_times_22 : decode cX7_times 22 = .ok (.invokestatic 40, 3) := by decide +kernel
theorem dX7_times_25 : decode cX7_times 25 = .ok (.ifCond .ne 6, 3) := by decide +kernel
theorem dX7_times_28 : decode cX7_times 28 = .ok (.bipush (-102), 2) := by decide +kernel
theorem dX7_times_30 : decode cX7_times 30 = .ok (.ireturn, 1) := by decide +kernel
theorem dX7_times_31 : decode cX7_times 31 = .ok (.aload_n 0, 1) := by decide +kernel
theorem dX7_times_32 : decode cX7_times 32 = .ok (.invokevirtual 109, 3) := by decide +kernel
theorem dX7_times_35 : decode cX7_times 35 = .ok (.ifCond .eq 6, 3) := by decide +kernel
theorem dX7_times_38 : decode cX7_times 38 = .ok (.bipush (-103), 2) := by decide +kernel
theorem dX7_times_40 : decode cX7_times 40 = .ok (.ireturn, 1) := by decide +kernel
theorem dX7_times_41 : decode cX7_times 41 = .ok (.aload_n 0, 1) := by decide +kernel
theorem dX7_times_42 : decode cX7_times 42 = .ok (.getfield 13, 3) := by decide +kernel
theorem dX7_times_45 : decode cX7_times 45 = .ok (.aload_n 0, 1) := by decide +kernel
theorem dX7_times_46 : decode cX7_times 46 = .ok (.getfield 25, 3) := by decide +kernel
theorem dX7_times_49 : decode cX7_times 49 = .ok (.invokestatic 165, 3) := by decide +kernel
theorem dX7_times_52 : decode cX7_times 52 = .ok (.aload_n 0, 1) := by decide +kernel
theorem dX7_times_53 : decode cX7_times 53 = .ok (.getfield 66, 3) := by decide +kernel
theorem dX7_times_56 : decode cX7_times 56 = .ok (.istore 4, 2) := by decide +kernel
theorem dX7_times_58 : decode cX7_times 58 = .ok (.aload_n 0, 1) := by decide +kernel
theorem dX7_times_59 : decode cX7_times 59 = .ok (.iload_n 2, 1) := by decide +kernel
theorem dX7_times_60 : decode cX7_times 60 = .ok (.putfield 153, 3) := by decide +kernel
theorem dX7_times_63 : decode cX7_times 63 = .ok (.aload_n 0, 1) := by decide +kernel
theorem dX7_times_64 : decode cX7_times 64 = .ok (.getfield 69, 3) := by decide +kernel
theorem dX7_times_67 : decode cX7_times 67 = .ok (.istore 5, 2) := by decide +kernel
theorem dX7_times_69 : decode cX7_times 69 = .ok (.iconst 0, 1) := by decide +kernel
theorem dX7_times_70 : decode cX7_times 70 = .ok (.istore 6, 2) := by decide +kernel
theorem dX7_times_72 : decode cX7_times 72 = .ok (.iload 6, 2) := by decide +kernel
theorem dX7_times_74 : decode cX7_times 74 = .ok (.iload_n 1, 1) := by decide +kernel
theorem dX7_times_75 : decode cX7_times 75 = .ok (.if_icmp .ge 131, 3) := by decide +kernel
theorem dX7_times_78 : decode cX7_times 78 = .ok (.aload_n 0, 1) := by decide +kernel
theorem dX7_times_79 : decode cX7_times 79 = .ok (.aload_n 0, 1) := by decide +kernel
theorem dX7_times_80 : decode cX7_times 80 = .ok (.getfield 63, 3) := by decide +kernel
theorem dX7_times_83 : decode cX7_times 83 = .ok (.invokevirtual 169, 3) := by decide +kernel
theorem dX7_times_86 : decode cX7_times 86 = .ok (.istore 7, 2) := by decide +kernel
theorem dX7_times_88 : decode cX7_times 88 = .ok (.aload_n 0, 1) := by decide +kernel
theorem dX7_times_89 : decode cX7_times 89 = .ok (.getfield 13, 3) := by decide +kernel
theorem dX7_times_92 : decode cX7_times 92 = .ok (.iconst 5, 1) := by decide +kernel
theorem dX7_times_93 : decode cX7_times 93 = .ok (.iload 7, 2) := by decide +kernel
theorem dX7_times_95 : decode cX7_times 95 = .ok (.imul, 1) := by decide +kernel
theorem dX7_times_96 : decode cX7_times 96 = .ok (.iconst 3, 1) := by decide +kernel
theorem dX7_times_97 : decode cX7_times 97 = .ok (.iadd, 1) := by decide +kernel
theorem dX7_times_98 : decode cX7_times 98 = .ok (.dup2, 1) := by decide +kernel
theorem dX7_times_99 : decode cX7_times 99 = .ok (.iaload, 1) := by decide +kernel
theorem dX7_times_100 : decode cX7_times 100 = .ok (.aload_n 0, 1) := by decide +kernel
theorem dX7_times_101 : decode cX7_times 101 = .ok (.getfield 13, 3) := by decide +kernel
theorem dX7_times_104 : decode cX7_times 104 = .ok (.iconst 5, 1) := by decide +kernel
theorem dX7_times_105 : decode cX7_times 105 = .ok (.iload 7, 2) := by decide +kernel
theorem dX7_times_107 : decode cX7_times 107 = .ok (.imul, 1) := by decide +kernel
theorem dX7_times_108 : decode cX7_times 108 = .ok (.iconst 3, 1) := by decide +kernel
theorem dX7_times_109 : decode cX7_times 109 = .ok (.iadd, 1) := by decide +kernel
theorem dX7_times_110 : decode cX7_times 110 = .ok (.iaload, 1) := by decide +kernel
theorem dX7_times_111 : decode cX7_times 111 = .ok (.ifCond .le 7, 3) := by decide +kernel
theorem dX7_times_114 : decode cX7_times 114 = .ok (.iconst 1, 1) := by decide +kernel
theorem dX7_times_115 : decode cX7_times 115 = .ok (.goto 4, 3) := by decide +kernel
theorem dX7_times_118 : decode cX7_times 118 = .ok (.iconst 0, 1) := by decide +kernel
theorem dX7_times_119 : decode cX7_times 119 = .ok (.isub, 1) := by decide +kernel
theorem dX7_times_120 : decode cX7_times 120 = .ok (.iastore, 1) := by decide +kernel
theorem dX7_times_121 : decode cX7_times 121 = .ok (.aload_n 0, 1) := by decide +kernel
theorem dX7_times_122 : decode cX7_times 122 = .ok (.aload_n 0, 1) := by decide +kernel
theorem dX7_times_123 : decode cX7_times 123 = .ok (.getfield 63, 3) := by decide +kernel
theorem dX7_times_126 : decode cX7_times 126 = .ok (.invokevirtual 169, 3) := by decide +kernel
theorem dX7_times_129 : decode cX7_times 129 = .ok (.istore 8, 2) := by decide +kernel
theorem dX7_times_131 : decode cX7_times 131 = .ok (.aload_n 0, 1) := by decide +kernel
theorem dX7_times_132 : decode cX7_times 132 = .ok (.getfield 13, 3) := by decide +kernel
theorem dX7_times_135 : decode cX7_times 135 = .ok (.iconst 5, 1) := by decide +kernel
theorem dX7_times_136 : decode cX7_times 136 = .ok (.iload 8, 2) := by decide +kernel
theorem dX7_times_138 : decode cX7_times 138 = .ok (.imul, 1) := by decide +kernel
theorem dX7_times_139 : decode cX7_times 139 = .ok (.iconst 3, 1) := by decide +kernel
theorem dX7_times_140 : decode cX7_times 140 = .ok (.iadd, 1) := by decide +kernel
theorem dX7_times_141 : decode cX7_times 141 = .ok (.iaload, 1) := by decide +kernel
theorem dX7_times_142 : decode cX7_times 142 = .ok (.ifCond .le 44, 3) := by decide +kernel
theorem dX7_times_145 : decode cX7_times 145 = .ok (.iload 5, 2) := by decide +kernel
theorem dX7_times_147 : decode cX7_times 147 = .ok (.aload_n 0, 1) := by decide +kernel
theorem dX7_times_148 : decode cX7_times 148 = .ok (.iload 8, 2) := by decide +kernel
theorem dX7_times_150 : decode cX7_times 150 = .ok (.invokevirtual 92, 3) := by decide +kernel
theorem dX7_times_153 : decode cX7_times 153 = .ok (.iadd, 1) := by decide +kernel
theorem dX7_times_154 : decode cX7_times 154 = .ok (.istore 5, 2) := by decide +kernel
theorem dX7_times_156 : decode cX7_times 156 = .ok (.aload_n 0, 1) := by decide +kernel
theorem dX7_times_157 : decode cX7_times 157 = .ok (.getfield 13, 3) := by decide +kernel
theorem dX7_times_160 : decode cX7_times 160 = .ok (.iconst 5, 1) := by decide +kernel
theorem dX7_times_161 : decode cX7_times 161 = .ok (.iload 8, 2) := by decide +kernel
theorem dX7_times_163 : decode cX7_times 163 = .ok (.imul, 1) := by decide +kernel
theorem dX7_times_164 : decode cX7_times 164 = .ok (.iconst 3, 1) := by decide +kernel
theorem dX7_times_165 : decode cX7_times 165 = .ok (.iadd, 1) := by decide +kernel
theorem dX7_times_166 : decode cX7_times 166 = .ok (.dup2, 1) := by decide +kernel
theorem dX7_times_167 : decode cX7_times 167 = .ok (.iaload, 1) := by decide +kernel
theorem dX7_times_168 : decode cX7_times 168 = .ok (.iconst 1, 1) := by decide +kernel
theorem dX7_times_169 : decode cX7_times 169 = .ok (.isub, 1) := by decide +kernel
theorem dX7_times_170 : decode cX7_times 170 = .ok (.iastore, 1) := by decide +kernel
theorem dX7_times_171 : decode cX7_times 171 = .ok (.aload_n 0, 1) := by decide +kernel
theorem dX7_times_172 : decode cX7_times 172 = .ok (.getfield 13, 3) := by decide +kernel
theorem dX7_times_175 : decode cX7_times 175 = .ok (.iconst 5, 1) := by decide +kernel
theorem dX7_times_176 : decode cX7_times 176 = .ok (.iload 8, 2) := by decide +kernel
theorem dX7_times_178 : decode cX7_times 178 = .ok (.imul, 1) := by decide +kernel
theorem dX7_times_179 : decode cX7_times 179 = .ok (.iconst 4, 1) := by decide +kernel
theorem dX7_times_180 : decode cX7_times 180 = .ok (.iadd, 1) := by decide +kernel
theorem dX7_times_181 : decode cX7_times 181 = .ok (.dup2, 1) := by decide +kernel
theorem dX7_times_182 : decode cX7_times 182 = .ok (.iaload, 1) := by decide +kernel
theorem dX7_times_183 : decode cX7_times 183 = .ok (.iconst 1, 1) := by decide +kernel
theorem dX7_times_184 : decode cX7_times 184 = .ok (.iadd, 1) := by decide +kernel
theorem dX7_times_185 : decode cX7_times 185 = .ok (.iastore, 1) := by decide +kernel
theorem dX7_times_186 : decode cX7_times 186 = .ok (.aload_n 0, 1) := by decide +kernel
theorem dX7_times_187 : decode cX7_times 187 = .ok (.dup, 1) := by decide +kernel
theorem dX7_times_188 : decode cX7_times 188 = .ok (.getfield 66, 3) := by decide +kernel
theorem dX7_times_191 : decode cX7_times 191 = .ok (.iconst 1, 1) := by decide +kernel
theorem dX7_times_192 : decode cX7_times 192 = .ok (.iadd, 1) := by decide +kernel
theorem dX7_times_193 : decode cX7_times 193 = .ok (.putfield 66, 3) := by decide +kernel
theorem dX7_times_196 : decode cX7_times 196 = .ok (.aload_n 0, 1) := by decide +kernel
theorem dX7_times_197 : decode cX7_times 197 = .ok (.invokevirtual 113, 3) := by decide +kernel
theorem dX7_times_200 : decode cX7_times 200 = .ok (.iinc 6 1, 3) := by decide +kernel
theorem dX7_times_203 : decode cX7_times 203 = .ok (.goto (-131), 3) := by decide +kernel
theorem dX7_times_206 : decode cX7_times 206 = .ok (.aload_n 0, 1) := by decide +kernel
theorem dX7_times_207 : decode cX7_times 207 = .ok (.invokevirtual 119, 3) := by decide +kernel
theorem dX7_times_210 : decode cX7_times 210 = .ok (.istore 6, 2) := by decide +kernel
theorem dX7_times_212 : decode cX7_times 212 = .ok (.aload_n 0, 1) := by decide +kernel
theorem dX7_times_213 : decode cX7_times 213 = .ok (.getfield 25, 3) := by decide +kernel
theorem dX7_times_216 : decode cX7_times 216 = .ok (.aload_n 0, 1) := by decide +kernel
theorem dX7_times_217 : decode cX7_times 217 = .ok (.getfield 13, 3) := by decide +kernel
theorem dX7_times_220 : decode cX7_times 220 = .ok (.invokestatic 165, 3) := by decide +kernel
theorem dX7_times_223 : decode cX7_times 223 = .ok (.aload_n 0, 1) := by decide +kernel
theorem dX7_times_224 : decode cX7_times 224 = .ok (.iload 4, 2) := by decide +kernel
theorem dX7_times_226 : decode cX7_times 226 = .ok (.putfield 66, 3) := by decide +kernel
theorem dX7_times_229 : decode cX7_times 229 = .ok (.iload_n 3, 1) := by decide +kernel
theorem dX7_times_230 : decode cX7_times 230 = .ok (.ifCond .ne 8, 3) := by decide +kernel
theorem dX7_times_233 : decode cX7_times 233 = .ok (.iload 6, 2) := by decide +kernel
theorem dX7_times_235 : decode cX7_times 235 = .ok (.goto 21, 3) := by decide +kernel
theorem dX7_times_238 : decode cX7_times 238 = .ok (.iload_n 3, 1) := by decide +kernel
theorem dX7_times_239 : decode cX7_times 239 = .ok (.iconst 1, 1) := by decide +kernel
theorem dX7_times_240 : decode cX7_times 240 = .ok (.if_icmp .ne 12, 3) := by decide +kernel
theorem dX7_times_243 : decode cX7_times 243 = .ok (.iload 5, 2) := by decide +kernel
theorem dX7_times_245 : decode cX7_times 245 = .ok (.sipush 2000, 3) := by decide +kernel
theorem dX7_times_248 : decode cX7_times 248 = .ok (.iadd, 1) := by decide +kernel
theorem dX7_times_249 : decode cX7_times 249 = .ok (.goto 7, 3) := by decide +kernel
theorem dX7_times_252 : decode cX7_times 252 = .ok (.aload_n 0, 1) := by decide +kernel
theorem dX7_times_253 : decode cX7_times 253 = .ok (.getfield 153, 3) := by decide +kernel
theorem dX7_times_256 : decode cX7_times 256 = .ok (.ireturn, 1) := by decide +kernel
set_option maxRecDepth 20000 in
theorem ggX7_image_X7_lacks : GoodIn wsX7_image wsX7_lacks := goodIn_r _ [21, 22, 26, 27, 28, 29, 30, 31, 32, 33, 34, 35, 36, 37, 38, 39, 40, 41, 42, 43, 44, 45, 46, 47, 48, 49, 50] (by decide +kernel) (by decide +kernel)
set_option maxRecDepth 20000 in
theorem gX7_image_X7_lacks : GoodIn wsX7_image (wsV RX7 109 RX7 yX7_lacks wsX7_lacks) := goodIn_app (goodIn_of _ (by decide +kernel)) ggX7_image_X7_lacks
set_option maxRecDepth 20000 in
theorem ggX7_image_X7_copy : GoodIn wsX7_image wsX7_copy := goodIn_r _ [25] (by decide +kernel) (by decide +kernel)
set_option maxRecDepth 20000 in
theorem gX7_image_X7_copy : GoodIn wsX7_image (va_wsS RX7 165 yX7_copy wsX7_copy) := goodIn_app (goodIn_of _ (by decide +kernel)) ggX7_image_X7_copy
theorem dX7_image_0 : decode cX7_image 0 = .ok (.aload_n 0, 1) := by decide +kernel
theorem dX7_image_1 : decode cX7_image 1 = .ok (.invokevirtual 109, 3) := by decide +kernel
theorem dX7_image_4 : decode cX7_image 4 = .ok (.ifCond .eq 6, 3) := by decide +kernel
theorem dX7_image_7 : decode cX7_image 7 = .ok (.bipush (-103), 2) := by decide +kernel
theorem dX7_image_9 : decode cX7_image 9 = .ok (.ireturn, 1) := by decide +kernel
theorem dX7_image_10 : decode cX7_image 10 = .ok (.aload_n 0, 1) := by decide +kernel
theorem dX7_image_11 : decode cX7_image 11 = .ok (.getfield 13, 3) := by decide +kernel
theorem dX7_image_14 : decode cX7_image 14 = .ok (.aload_n 0, 1) := by decide +kernel
theorem dX7_image_15 : decode cX7_image 15 = .ok (.getfield 28, 3) := by decide +kernel
theorem dX7_image_18 : decode cX7_image 18 = .ok (.invokestatic 165, 3) := by decide +kernel
theorem dX7_image_21 : decode cX7_image 21 = .ok (.aload_n 0, 1) := by decide +kernel
theorem dX7_image_22 : decode cX7_image 22 = .ok (.getfield 22, 3) := by decide +kernel
theorem dX7_image_25 : decode cX7_image 25 = .ok (.aload_n 0, 1) := by decide +kernel
theorem dX7_image_26 : decode cX7_image 26 = .ok (.getfield 31, 3) := by decide +kernel
theorem dX7_image_29 : decode cX7_image 29 = .ok (.invokestatic 165, 3) := by decide +kernel
theorem dX7_image_32 : decode cX7_image 32 = .ok (.aload_n 0, 1) := by decide +kernel
theorem dX7_image_33 : decode cX7_image 33 = .ok (.aload_n 0, 1) := by decide +kernel
theorem dX7_image_34 : decode cX7_image 34 = .ok (.getfield 66, 3) := by decide +kernel
theorem dX7_image_37 : decode cX7_image 37 = .ok (.putfield 172, 3) := by decide +kernel
theorem dX7_image_40 : decode cX7_image 40 = .ok (.aload_n 0, 1) := by decide +kernel
theorem dX7_image_41 : decode cX7_image 41 = .ok (.aload_n 0, 1) := by decide +kernel
theorem dX7_image_42 : decode cX7_image 42 = .ok (.getfield 69, 3) := by decide +kernel
theorem dX7_image_45 : decode cX7_image 45 = .ok (.putfield 175, 3) := by decide +kernel
theorem dX7_image_48 : decode cX7_image 48 = .ok (.aload_n 0, 1) := by decide +kernel
theorem dX7_image_49 : decode cX7_image 49 = .ok (.aload_n 0, 1) := by decide +kernel
theorem dX7_image_50 : decode cX7_image 50 = .ok (.getfield 72, 3) := by decide +kernel
theorem dX7_image_53 : decode cX7_image 53 = .ok (.putfield 178, 3) := by decide +kernel
theorem dX7_image_56 : decode cX7_image 56 = .ok (.aload_n 0, 1) := by decide +kernel
theorem dX7_image_57 : decode cX7_image 57 = .ok (.aload_n 0, 1) := by decide +kernel
theorem dX7_image_58 : decode cX7_image 58 = .ok (.getfield 75, 3) := by decide +kernel
theorem dX7_image_61 : decode cX7_image 61 = .ok (.putfield 181, 3) := by decide +kernel
theorem dX7_image_64 : decode cX7_image 64 = .ok (.aload_n 0, 1) := by decide +kernel
theorem dX7_image_65 : decode cX7_image 65 = .ok (.aload_n 0, 1) := by decide +kernel
theorem dX7_image_66 : decode cX7_image 66 = .ok (.getfield 78, 3) := by decide +kernel
theorem dX7_image_69 : decode cX7_image 69 = .ok (.putfield 184, 3) := by decide +kernel
theorem dX7_image_72 : decode cX7_image 72 = .ok (.aload_n 0, 1) := by decide +kernel
theorem dX7_image_73 : decode cX7_image 73 = .ok (.aload_n 0, 1) := by decide +kernel
theorem dX7_image_74 : decode cX7_image 74 = .ok (.getfield 81, 3) := by decide +kernel
theorem dX7_image_77 : decode cX7_image 77 = .ok (.putfield 34, 3) := by decide +kernel
theorem dX7_image_80 : decode cX7_image 80 = .ok (.aload_n 0, 1) := by decide +kernel
theorem dX7_image_81 : decode cX7_image 81 = .ok (.getfield 66, 3) := by decide +kernel
theorem dX7_image_84 : decode cX7_image 84 = .ok (.ireturn, 1) := by decide +kernel
set_option maxRecDepth 20000 in
theorem ggX7_restore_X7_copy : GoodIn wsX7_restore wsX7_copy := goodIn_r _ [20] (by decide +kernel) (by decide +kernel)
set_option maxRecDepth 20000 in
theorem gX7_restore_X7_copy : GoodIn wsX7_restore (va_wsS RX7 165 yX7_copy wsX7_copy) := goodIn_app (goodIn_of _ (by decide +kernel)) ggX7_restore_X7_copy
theorem dX7_restore_0 : decode cX7_restore 0 = .ok (.aload_n 0, 1) := by decide +kernel
theorem dX7_restore_1 : decode cX7_restore 1 = .ok (.getfield 34, 3) := by decide +kernel
theorem dX7_restore_4 : decode cX7_restore 4 = .ok (.aload_n 0, 1) := by decide +kernel
theorem dX7_restore_5 : decode cX7_restore 5 = .ok (.getfield 81, 3) := by decide +kernel
theorem dX7_restore_8 : decode cX7_restore 8 = .ok (.if_icmp .eq 6, 3) := by decide +kernel
theorem dX7_restore_11 : decode cX7_restore 11 = .ok (.bipush (-103), 2) := by decide +kernel
theorem dX7_restore_13 : decode cX7_restore 13 = .ok (.ireturn, 1) := by decide +kernel
theorem dX7_restore_14 : decode cX7_restore 14 = .ok (.aload_n 0, 1) := by decide +kernel
theorem dX7_restore_15 : decode cX7_restore 15 = .ok (.getfield 28, 3) := by decide +kernel
theorem dX7_restore_18 : decode cX7_restore 18 = .ok (.aload_n 0, 1) := by decide +kernel
theorem dX7_restore_19 : decode cX7_restore 19 = .ok (.getfield 13, 3) := by decide +kernel
theorem dX7_restore_22 : decode cX7_restore 22 = .ok (.invokestatic 165, 3) := by decide +kernel
theorem dX7_restore_25 : decode cX7_restore 25 = .ok (.aload_n 0, 1) := by decide +kernel
theorem dX7_restore_26 : decode cX7_restore 26 = .ok (.getfield 31, 3) := by decide +kernel
theorem dX7_restore_29 : decode cX7_restore 29 = .ok (.aload_n 0, 1) := by decide +kernel
theorem dX7_restore_30 : decode cX7_restore 30 = .ok (.getfield 22, 3) := by decide +kernel
theorem dX7_restore_33 : decode cX7_restore 33 = .ok (.invokestatic 165, 3) := by decide +kernel
theorem dX7_restore_36 : decode cX7_restore 36 = .ok (.aload_n 0, 1) := by decide +kernel
theorem dX7_restore_37 : decode cX7_restore 37 = .ok (.aload_n 0, 1) := by decide +kernel
theorem dX7_restore_38 : decode cX7_restore 38 = .ok (.getfield 172, 3) := by decide +kernel
theorem dX7_restore_41 : decode cX7_restore 41 = .ok (.putfield 66, 3) := by decide +kernel
theorem dX7_restore_44 : decode cX7_restore 44 = .ok (.aload_n 0, 1) := by decide +kernel
theorem dX7_restore_45 : decode cX7_restore 45 = .ok (.aload_n 0, 1) := by decide +kernel
theorem dX7_restore_46 : decode cX7_restore 46 = .ok (.getfield 175, 3) := by decide +kernel
theorem dX7_restore_49 : decode cX7_restore 49 = .ok (.putfield 69, 3) := by decide +kernel
theorem dX7_restore_52 : decode cX7_restore 52 = .ok (.aload_n 0, 1) := by decide +kernel
theorem dX7_restore_53 : decode cX7_restore 53 = .ok (.aload_n 0, 1) := by decide +kernel
theorem dX7_restore_54 : decode cX7_restore 54 = .ok (.getfield 178, 3) := by decide +kernel
theorem dX7_restore_57 : decode cX7_restore 57 = .ok (.putfield 72, 3) := by decide +kernel
theorem dX7_restore_60 : decode cX7_restore 60 = .ok (.aload_n 0, 1) := by decide +kernel
theorem dX7_restore_61 : decode cX7_restore 61 = .ok (.aload_n 0, 1) := by decide +kernel
theorem dX7_restore_62 : decode cX7_restore 62 = .ok (.getfield 181, 3) := by decide +kernel
theorem dX7_restore_65 : decode cX7_restore 65 = .ok (.putfield 75, 3) := by decide +kernel
theorem dX7_restore_68 : decode cX7_restore 68 = .ok (.aload_n 0, 1) := by decide +kernel
theorem dX7_restore_69 : decode cX7_restore 69 = .ok (.aload_n 0, 1) := by decide +kernel
theorem dX7_restore_70 : decode cX7_restore 70 = .ok (.getfield 184, 3) := by decide +kernel
theorem dX7_restore_73 : decode cX7_restore 73 = .ok (.putfield 78, 3) := by decide +kernel
theorem dX7_restore_76 : decode cX7_restore 76 = .ok (.aload_n 0, 1) := by decide +kernel
theorem dX7_restore_77 : decode cX7_restore 77 = .ok (.getfield 66, 3) := by decide +kernel
theorem dX7_restore_80 : decode cX7_restore 80 = .ok (.ireturn, 1) := by decide +kernel
theorem dX7_emptyMany_0 : decode cX7_emptyMany 0 = .ok (.iconst 0, 1) := by decide +kernel
theorem dX7_emptyMany_1 : decode cX7_emptyMany 1 = .ok (.istore_n 1, 1) := by decide +kernel
theorem dX7_emptyMany_2 : decode cX7_emptyMany 2 = .ok (.iconst 0, 1) := by decide +kernel
theorem dX7_emptyMany_3 : decode cX7_emptyMany 3 = .ok (.istore_n 2, 1) := by decide +kernel
theorem dX7_emptyMany_4 : decode cX7_emptyMany 4 = .ok (.iload_n 2, 1) := by decide +kernel
theorem dX7_emptyMany_5 : decode cX7_emptyMany 5 = .ok (.aload_n 0, 1) := by decide +kernel
theorem dX7_emptyMany_6 : decode cX7_emptyMany 6 = .ok (.getfield 63, 3) := by decide +kernel
theorem dX7_emptyMany_9 : decode cX7_emptyMany 9 = .ok (.if_icmp .ge 30, 3) := by decide +kernel
theorem dX7_emptyMany_12 : decode cX7_emptyMany 12 = .ok (.iload_n 1, 1) := by decide +kernel
theorem dX7_emptyMany_13 : decode cX7_emptyMany 13 = .ok (.aload_n 0, 1) := by decide +kernel
theorem dX7_emptyMany_14 : decode cX7_emptyMany 14 = .ok (.getfield 13, 3) := by decide +kernel
theorem dX7_emptyMany_17 : decode cX7_emptyMany 17 = .ok (.iconst 5, 1) := by decide +kernel
theorem dX7_emptyMany_18 : decode cX7_emptyMany 18 = .ok (.iload_n 2, 1) := by decide +kernel
theorem dX7_emptyMany_19 : decode cX7_emptyMany 19 = .ok (.imul, 1) := by decide +kernel
theorem dX7_emptyMany_20 : decode cX7_emptyMany 20 = .ok (.iconst 3, 1) := by decide +kernel
theorem dX7_emptyMany_21 : decode cX7_emptyMany 21 = .ok (.iadd, 1) := by decide +kernel
theorem dX7_emptyMany_22 : decode cX7_emptyMany 22 = .ok (.iaload, 1) := by decide +kernel
theorem dX7_emptyMany_23 : decode cX7_emptyMany 23 = .ok (.ifCond .ne 7, 3) := by decide +kernel
theorem dX7_emptyMany_26 : decode cX7_emptyMany 26 = .ok (.iconst 1, 1) := by decide +kernel
theorem dX7_emptyMany_27 : decode cX7_emptyMany 27 = .ok (.goto 4, 3) := by decide +kernel
theorem dX7_emptyMany_30 : decode cX7_emptyMany 30 = .ok (.iconst 0, 1) := by decide +kernel
theorem dX7_emptyMany_31 : decode cX7_emptyMany 31 = .ok (.iadd, 1) := by decide +kernel
theorem dX7_emptyMany_32 : decode cX7_emptyMany 32 = .ok (.istore_n 1, 1) := by decide +kernel
theorem dX7_emptyMany_33 : decode cX7_emptyMany 33 = .ok (.iinc 2 1, 3) := by decide +kernel
theorem dX7_emptyMany_36 : decode cX7_emptyMany 36 = .ok (.goto (-32), 3) := by decide +kernel
theorem dX7_emptyMany_39 : decode cX7_emptyMany 39 = .ok (.iload_n 1, 1) := by decide +kernel
theorem dX7_emptyMany_40 : decode cX7_emptyMany 40 = .ok (.ireturn, 1) := by decide +kernel
set_option maxRecDepth 20000 in
theorem ggX7_countOf_X7_spoonsAll : GoodIn wsX7_countOf wsX7_spoonsAll := goodIn_r _ [14, 1, 15, 20, 21, 22, 23, 24, 25, 26, 27, 28, 29, 30, 31, 32, 33, 34, 35, 36, 37, 38, 39, 40, 41, 42, 43, 44] (by decide +kernel) (by decide +kernel)
set_option maxRecDepth 20000 in
theorem gX7_countOf_X7_spoonsAll : GoodIn wsX7_countOf (wsV RX7 119 RX7 yX7_spoonsAll wsX7_spoonsAll) := goodIn_app (goodIn_of _ (by decide +kernel)) ggX7_countOf_X7_spoonsAll
set_option maxRecDepth 20000 in
theorem ggX7_countOf_X7_emptyMany : GoodIn wsX7_countOf wsX7_emptyMany := goodIn_r _ [19, 1, 15, 20, 21, 22, 23, 24, 25, 26, 27, 28, 29, 30, 31, 32, 33, 34, 35, 36, 37, 38, 39, 40, 41, 42, 43, 44] (by decide +kernel) (by decide +kernel)
set_option maxRecDepth 20000 in
theorem gX7_countOf_X7_emptyMany : GoodIn wsX7_countOf (wsV RX7 187 RX7 yX7_emptyMany wsX7_emptyMany) := goodIn_app (goodIn_of _ (by decide +kernel)) ggX7_countOf_X7_emptyMany
theorem dX7_countOf_0 : decode cX7_countOf 0 = .ok (.iload_n 1, 1) := by decide +kernel
theorem dX7_countOf_1 : decode cX7_countOf 1 = .ok (.tableswitch 118 0 10 #[59, 64, 69, 74, 83, 88, 93, 98, 103, 108, 113], 59) := by decide +kernel
theorem dX7_countOf_60 : decode cX7_countOf 60 = .ok (.aload_n 0, 1) := by decide +kernel
theorem dX7_countOf_61 : decode cX7_countOf 61 = .ok (.getfield 63, 3) := by decide +kernel
theorem dX7_countOf_64 : decode cX7_countOf 64 = .ok (.ireturn, 1) := by decide +kernel
theorem dX7_countOf_65 : decode cX7_countOf 65 = .ok (.aload_n 0, 1) := by decide +kernel
theorem dX7_countOf_66 : decode cX7_countOf 66 = .ok (.getfield 66, 3) := by decide +kernel
theorem dX7_countOf_69 : decode cX7_countOf 69 = .ok (.ireturn, 1) := by decide +kernel
theorem dX7_countOf_70 : decode cX7_countOf 70 = .ok (.aload_n 0, 1) := by decide +kernel
theorem dX7_countOf_71 : decode cX7_countOf 71 = .ok (.invokevirtual 119, 3) := by decide +kernel
theorem dX7_countOf_74 : decode cX7_countOf 74 = .ok (.ireturn, 1) := by decide +kernel
theorem dX7_countOf_75 : decode cX7_countOf 75 = .ok (.aload_n 0, 1) := by decide +kernel
theorem dX7_countOf_76 : decode cX7_countOf 76 = .ok (.getfield 69, 3) := by decide +kernel
theorem dX7_countOf_79 : decode cX7_countOf 79 = .ok (.sipush 2000, 3) := by decide +kernel
theorem dX7_countOf_82 : decode cX7_countOf 82 = .ok (.iadd, 1) := by decide +kernel
theorem dX7_countOf_83 : decode cX7_countOf 83 = .ok (.ireturn, 1) := by decide +kernel
theorem dX7_countOf_84 : decode cX7_countOf 84 = .ok (.aload_n 0, 1) := by decide +kernel
theorem dX7_countOf_85 : decode cX7_countOf 85 = .ok (.invokevirtual 187, 3) := by decide +kernel
theorem dX7_countOf_88 : decode cX7_countOf 88 = .ok (.ireturn, 1) := by decide +kernel
theorem dX7_countOf_89 : decode cX7_countOf 89 = .ok (.aload_n 0, 1) := by decide +kernel
theorem dX7_countOf_90 : decode cX7_countOf 90 = .ok (.getfield 72, 3) := by decide +kernel
theorem dX7_countOf_93 : decode cX7_countOf 93 = .ok (.ireturn, 1) := by decide +kernel
theorem dX7_countOf_94 : decode cX7_countOf 94 = .ok (.aload_n 0, 1) := by decide +kernel
theorem dX7_countOf_95 : decode cX7_countOf 95 = .ok (.getfield 75, 3) := by decide +kernel
theorem dX7_countOf_98 : decode cX7_countOf 98 = .ok (.ireturn, 1) := by decide +kernel
theorem dX7_countOf_99 : decode cX7_countOf 99 = .ok (.aload_n 0, 1) := by decide +kernel
theorem dX7_countOf_100 : decode cX7_countOf 100 = .ok (.getfield 78, 3) := by decide +kernel
theorem dX7_countOf_103 : decode cX7_countOf 103 = .ok (.ireturn, 1) := by decide +kernel
theorem dX7_countOf_104 : decode cX7_countOf 104 = .ok (.aload_n 0, 1) := by decide +kernel
theorem dX7_countOf_105 : decode cX7_countOf 105 = .ok (.getfield 44, 3) := by decide +kernel
theorem dX7_countOf_108 : decode cX7_countOf 108 = .ok (.ireturn, 1) := by decide +kernel
theorem dX7_countOf_109 : decode cX7_countOf 109 = .ok (.aload_n 0, 1) := by decide +kernel
theorem dX7_countOf_110 : decode cX7_countOf 110 = .ok (.getfield 81, 3) := by decide +kernel
theorem dX7_countOf_113 : decode cX7_countOf 113 = .ok (.ireturn, 1) := by decide +kernel
theorem dX7_countOf_114 : decode cX7_countOf 114 = .ok (.aload_n 0, 1) := by decide +kernel
theorem dX7_countOf_115 : decode cX7_countOf 115 = .ok (.getfield 131, 3) := by decide +kernel
theorem dX7_countOf_118 : decode cX7_countOf 118 = .ok (.ireturn, 1) := by decide +kernel
theorem dX7_countOf_119 : decode cX7_countOf 119 = .ok (.bipush (-102), 2) := by decide +kernel
theorem dX7_countOf_121 : decode cX7_countOf 121 = .ok (.ireturn, 1) := by decide +kernel
set_option maxRecDepth 20000 in
theorem ggX7_count_X7_countOf : GoodIn wsX7_count wsX7_countOf := goodIn_r _ [5, 6, 7, 8, 9, 10, 11, 12, 13, 14, 15, 16, 17, 4, 18, 19, 20, 21, 22, 23, 24, 25, 26, 27, 28, 29, 30, 31, 32, 33, 34, 35, 36, 37, 38, 39, 40, 41, 42, 43, 44, 45, 46, 47, 48] (by decide +kernel) (by decide +kernel)
set_option maxRecDepth 20000 in
theorem gX7_count_X7_countOf : GoodIn wsX7_count (wsV RX7 190 RX7 yX7_countOf wsX7_countOf) := goodIn_app (goodIn_of _ (by decide +kernel)) ggX7_count_X7_countOf
theorem dX7_count_0 : decode cX7_count 0 = .ok (.aload_n 0, 1) := by decide +kernel
theorem dX7_count_1 : decode cX7_count 1 = .ok (.iload_n 1, 1) := by decide +kernel
theorem dX7_count_2 : decode cX7_count 2 = .ok (.invokevirtual 190, 3) := by decide +kernel
theorem dX7_count_5 : decode cX7_count 5 = .ok (.ireturn, 1) := by decide +kernel
theorem dX7_say_0 : decode cX7_say 0 = .ok (.aload_n 0, 1) := by decide +kernel
theorem dX7_say_1 : decode cX7_say 1 = .ok (.ldc2_w 193, 3) := by decide +kernel
theorem dX7_say_4 : decode cX7_say 4 = .ok (.aload_n 0, 1) := by decide +kernel
theorem dX7_say_5 : decode cX7_say 5 = .ok (.getfield 195, 3) := by decide +kernel
theorem dX7_say_8 : decode cX7_say 8 = .ok (.lmul, 1) := by decide +kernel
theorem dX7_say_9 : decode cX7_say 9 = .ok (.lload_n 1, 1) := by decide +kernel
theorem dX7_say_10 : decode cX7_say 10 = .ok (.ladd, 1) := by decide +kernel
theorem dX7_say_11 : decode cX7_say 11 = .ok (.putfield 195, 3) := by decide +kernel
theorem dX7_say_14 : decode cX7_say 14 = .ok (.return_, 1) := by decide +kernel
set_option maxRecDepth 20000 in
theorem ggX7_digest_X7_tell : GoodIn wsX7_digest wsX7_tell := goodIn_r _ [10, 11, 12, 13, 14, 15, 9, 16, 17, 18, 19, 20, 21, 22, 23, 24, 25, 26, 27, 28, 29, 70, 71, 72, 73, 74, 75, 76, 77, 78, 79, 80, 81, 82, 83, 84, 85, 86, 87, 88, 89, 90, 91, 92, 93, 94] (by decide +kernel) (by decide +kernel)
set_option maxRecDepth 20000 in
theorem gX7_digest_X7_tell : GoodIn wsX7_digest (wsV RX7 102 RX7 yX7_tell wsX7_tell) := goodIn_app (goodIn_of _ (by decide +kernel)) ggX7_digest_X7_tell
set_option maxRecDepth 20000 in
theorem ggX7_digest_X7_say : GoodIn wsX7_digest wsX7_say := goodIn_r _ [33, 34, 2, 70, 71, 72, 73, 74, 75, 76, 77, 78, 79, 80, 81, 82, 83, 84, 85, 86, 87, 88, 89, 90, 91, 92, 93, 94] (by decide +kernel) (by decide +kernel)
set_option maxRecDepth 20000 in
theorem gX7_digest_X7_say : GoodIn wsX7_digest (wsV RX7 201 RX7 yX7_say wsX7_say) := goodIn_app (goodIn_of _ (by decide +kernel)) ggX7_digest_X7_say
set_option maxRecDepth 20000 in
theorem ggX7_digest_X7_firstIn : GoodIn wsX7_digest wsX7_firstIn := goodIn_r _ [24, 11, 13, 14, 15, 9, 16, 70, 71, 72, 73, 74, 75, 76, 77, 78, 79, 80, 81, 82, 83, 84, 85, 86, 87, 88, 89, 90, 91, 92, 93, 94] (by decide +kernel) (by decide +kernel)
set_option maxRecDepth 20000 in
theorem gX7_digest_X7_firstIn : GoodIn wsX7_digest (wsV RX7 88 RX7 yX7_firstIn wsX7_firstIn) := goodIn_app (goodIn_of _ (by decide +kernel)) ggX7_digest_X7_firstIn
set_option maxRecDepth 20000 in
theorem ggX7_digest_X7_lacks : GoodIn wsX7_digest wsX7_lacks := goodIn_r _ [38, 3, 70, 71, 72, 73, 74, 75, 76, 77, 78, 79, 80, 81, 82, 83, 84, 85, 86, 87, 88, 89, 90, 91, 92, 93, 94] (by decide +kernel) (by decide +kernel)
set_option maxRecDepth 20000 in
theorem gX7_digest_X7_lacks : GoodIn wsX7_digest (wsV RX7 109 RX7 yX7_lacks wsX7_lacks) := goodIn_app (goodIn_of _ (by decide +kernel)) ggX7_digest_X7_lacks
set_option maxRecDepth 20000 in
theorem ggX7_digest_X7_whichOf : GoodIn wsX7_digest wsX7_whichOf := goodIn_r _ [42, 3, 43, 44, 21, 22, 23, 9, 24, 11, 13, 14, 15, 16, 70, 71, 72, 73, 74, 75, 76, 77, 78, 79, 80, 81, 82, 83, 84, 85, 86, 87, 88, 89, 90, 91, 92, 93, 94] (by decide +kernel) (by decide +kernel)
set_option maxRecDepth 20000 in
theorem gX7_digest_X7_whichOf : GoodIn wsX7_digest (wsV RX7 141 RX7 yX7_whichOf wsX7_whichOf) := goodIn_app (goodIn_of _ (by decide +kernel)) ggX7_digest_X7_whichOf
set_option maxRecDepth 20000 in
theorem ggX7_digest_X7_tryOf : GoodIn wsX7_digest wsX7_tryOf := goodIn_r _ [48, 3, 12, 39, 40, 41, 9, 42, 43, 44, 21, 22, 23, 24, 11, 13, 14, 15, 16, 49, 50, 51, 52, 70, 71, 72, 73, 74, 75, 76, 77, 78, 79, 80, 81, 82, 83, 84, 85, 86, 87, 88, 89, 90, 91, 92, 93, 94] (by decide +kernel) (by decide +kernel)
set_option maxRecDepth 20000 in
theorem gX7_digest_X7_tryOf : GoodIn wsX7_digest (wsV RX7 148 RX7 yX7_tryOf wsX7_tryOf) := goodIn_app (goodIn_of _ (by decide +kernel)) ggX7_digest_X7_tryOf
set_option maxRecDepth 20000 in
theorem ggX7_digest_X7_countOf : GoodIn wsX7_digest wsX7_countOf := goodIn_r _ [56, 3, 12, 57, 58, 59, 43, 4, 60, 61, 62, 63, 64, 9, 65, 11, 66, 67, 68, 69, 70, 71, 72, 73, 74, 75, 76, 77, 78, 79, 80, 81, 82, 83, 84, 85, 86, 87, 88, 89, 90, 91, 92, 93, 94] (by decide +kernel) (by decide +kernel)
set_option maxRecDepth 20000 in
theorem gX7_digest_X7_countOf : GoodIn wsX7_digest (wsV RX7 190 RX7 yX7_countOf wsX7_countOf) := goodIn_app (goodIn_of _ (by decide +kernel)) ggX7_digest_X7_countOf
theorem dX7_digest_0 : decode cX7_digest 0 = .ok (.aload_n 0, 1) := by decide +kernel
theorem dX7_digest_1 : decode cX7_digest 1 = .ok (.ldc2_w 199, 3) := by decide +kernel
theorem dX7_digest_4 : decode cX7_digest 4 = .ok (.putfield 195, 3) := by decide +kernel
theorem dX7_digest_7 : decode cX7_digest 7 = .ok (.iconst 0, 1) := by decide +kernel
theorem dX7_digest_8 : decode cX7_digest 8 = .ok (.istore_n 1, 1) := by decide +kernel
theorem dX7_digest_9 : decode cX7_digest 9 = .ok (.iload_n 1, 1) := by decide +kernel
theorem dX7_digest_10 : decode cX7_digest 10 = .ok (.aload_n 0, 1) := by decide +kernel
theorem dX7_digest_11 : decode cX7_digest 11 = .ok (.getfield 63, 3) := by decide +kernel
theorem dX7_digest_14 : decode cX7_digest 14 = .ok (.if_icmp .ge 62, 3) := by decide +kernel
theorem dX7_digest_17 : decode cX7_digest 17 = .ok (.iconst 0, 1) := by decide +kernel
theorem dX7_digest_18 : decode cX7_digest 18 = .ok (.istore_n 2, 1) := by decide +kernel
theorem dX7_digest_19 : decode cX7_digest 19 = .ok (.iload_n 2, 1) := by decide +kernel
theorem dX7_digest_20 : decode cX7_digest 20 = .ok (.bipush 8, 2) := by decide +kernel
theorem dX7_digest_22 : decode cX7_digest 22 = .ok (.if_icmp .ge 20, 3) := by decide +kernel
theorem dX7_digest_25 : decode cX7_digest 25 = .ok (.aload_n 0, 1) := by decide +kernel
theorem dX7_digest_26 : decode cX7_digest 26 = .ok (.aload_n 0, 1) := by decide +kernel
theorem dX7_digest_27 : decode cX7_digest 27 = .ok (.iload_n 1, 1) := by decide +kernel
theorem dX7_digest_28 : decode cX7_digest 28 = .ok (.iload_n 2, 1) := by decide +kernel
theorem dX7_digest_29 : decode cX7_digest 29 = .ok (.invokevirtual 102, 3) := by decide +kernel
theorem dX7_digest_32 : decode cX7_digest 32 = .ok (.i2l, 1) := by decide +kernel
theorem dX7_digest_33 : decode cX7_digest 33 = .ok (.invokevirtual 201, 3) := by decide +kernel
theorem dX7_digest_36 : decode cX7_digest 36 = .ok (.iinc 2 1, 3) := by decide +kernel
theorem dX7_digest_39 : decode cX7_digest 39 = .ok (.goto (-20), 3) := by decide +kernel
theorem dX7_digest_42 : decode cX7_digest 42 = .ok (.aload_n 0, 1) := by decide +kernel
theorem dX7_digest_43 : decode cX7_digest 43 = .ok (.aload_n 0, 1) := by decide +kernel
theorem dX7_digest_44 : decode cX7_digest 44 = .ok (.iload_n 1, 1) := by decide +kernel
theorem dX7_digest_45 : decode cX7_digest 45 = .ok (.iconst 1, 1) := by decide +kernel
theorem dX7_digest_46 : decode cX7_digest 46 = .ok (.invokevirtual 88, 3) := by decide +kernel
theorem dX7_digest_49 : decode cX7_digest 49 = .ok (.bipush 100, 2) := by decide +kernel
theorem dX7_digest_51 : decode cX7_digest 51 = .ok (.iadd, 1) := by decide +kernel
theorem dX7_digest_52 : decode cX7_digest 52 = .ok (.i2l, 1) := by decide +kernel
theorem dX7_digest_53 : decode cX7_digest 53 = .ok (.invokevirtual 201, 3) := by decide +kernel
theorem dX7_digest_56 : decode cX7_digest 56 = .ok (.aload_n 0, 1) := by decide +kernel
theorem dX7_digest_57 : decode cX7_digest 57 = .ok (.aload_n 0, 1) := by decide +kernel
theorem dX7_digest_58 : decode cX7_digest 58 = .ok (.iload_n 1, 1) := by decide +kernel
theorem dX7_digest_59 : decode cX7_digest 59 = .ok (.iconst 2, 1) := by decide +kernel
theorem dX7_digest_60 : decode cX7_digest 60 = .ok (.invokevirtual 88, 3) := by decide +kernel
theorem dX7_digest_63 : decode cX7_digest 63 = .ok (.bipush 100, 2) := by decide +kernel
theorem dX7_digest_65 : decode cX7_digest 65 = .ok (.iadd, 1) := by decide +kernel
theorem dX7_digest_66 : decode cX7_digest 66 = .ok (.i2l, 1) := by decide +kernel
theorem dX7_digest_67 : decode cX7_digest 67 = .ok (.invokevirtual 201, 3) := by decide +kernel
theorem dX7_digest_70 : decode cX7_digest 70 = .ok (.iinc 1 1, 3) := by decide +kernel
theorem dX7_digest_73 : decode cX7_digest 73 = .ok (.goto (-64), 3) := by decide +kernel
theorem dX7_digest_76 : decode cX7_digest 76 = .ok (.aload_n 0, 1) := by decide +kernel
theorem dX7_digest_77 : decode cX7_digest 77 = .ok (.invokevirtual 109, 3) := by decide +kernel
theorem dX7_digest_80 : decode cX7_digest 80 = .ok (.ifCond .ne 21, 3) := by decide +kernel
theorem dX7_digest_83 : decode cX7_digest 83 = .ok (.aload_n 0, 1) := by decide +kernel
theorem dX7_digest_84 : decode cX7_digest 84 = .ok (.aload_n 0, 1) := by decide +kernel
theorem dX7_digest_85 : decode cX7_digest 85 = .ok (.invokevirtual 141, 3) := by decide +kernel
theorem dX7_digest_88 : decode cX7_digest 88 = .ok (.i2l, 1) := by decide +kernel
theorem dX7_digest_89 : decode cX7_digest 89 = .ok (.invokevirtual 201, 3) := by decide +kernel
theorem dX7_digest_92 : decode cX7_digest 92 = .ok (.aload_n 0, 1) := by decide +kernel
theorem dX7_digest_93 : decode cX7_digest 93 = .ok (.aload_n 0, 1) := by decide +kernel
theorem dX7_digest_94 : decode cX7_digest 94 = .ok (.invokevirtual 148, 3) := by decide +kernel
theorem dX7_digest_97 : decode cX7_digest 97 = .ok (.i2l, 1) := by decide +kernel
theorem dX7_digest_98 : decode cX7_digest 98 = .ok (.invokevirtual 201, 3) := by decide +kernel
theorem dX7_digest_101 : decode cX7_digest 101 = .ok (.iconst 0, 1) := by decide +kernel
theorem dX7_digest_102 : decode cX7_digest 102 = .ok (.istore_n 1, 1) := by decide +kernel
theorem dX7_digest_103 : decode cX7_digest 103 = .ok (.iload_n 1, 1) := by decide +kernel
theorem dX7_digest_104 : decode cX7_digest 104 = .ok (.aload_n 0, 1) := by decide +kernel
theorem dX7_digest_105 : decode cX7_digest 105 = .ok (.getfield 44, 3) := by decide +kernel
theorem dX7_digest_108 : decode cX7_digest 108 = .ok (.if_icmp .ge 20, 3) := by decide +kernel
theorem dX7_digest_111 : decode cX7_digest 111 = .ok (.aload_n 0, 1) := by decide +kernel
theorem dX7_digest_112 : decode cX7_digest 112 = .ok (.aload_n 0, 1) := by decide +kernel
theorem dX7_digest_113 : decode cX7_digest 113 = .ok (.getfield 7, 3) := by decide +kernel
theorem dX7_digest_116 : decode cX7_digest 116 = .ok (.iload_n 1, 1) := by decide +kernel
theorem dX7_digest_117 : decode cX7_digest 117 = .ok (.iaload, 1) := by decide +kernel
theorem dX7_digest_118 : decode cX7_digest 118 = .ok (.i2l, 1) := by decide +kernel
theorem dX7_digest_119 : decode cX7_digest 119 = .ok (.invokevirtual 201, 3) := by decide +kernel
theorem dX7_digest_122 : decode cX7_digest 122 = .ok (.iinc 1 1, 3) := by decide +kernel
theorem dX7_digest_125 : decode cX7_digest 125 = .ok (.goto (-22), 3) := by decide +kernel
theorem dX7_digest_128 : decode cX7_digest 128 = .ok (.iconst 0, 1) := by decide +kernel
theorem dX7_digest_129 : decode cX7_digest 129 = .ok (.istore_n 1, 1) := by decide +kernel
theorem dX7_digest_130 : decode cX7_digest 130 = .ok (.iload_n 1, 1) := by decide +kernel
theorem dX7_digest_131 : decode cX7_digest 131 = .ok (.bipush 11, 2) := by decide +kernel
theorem dX7_digest_133 : decode cX7_digest 133 = .ok (.if_icmp .ge 19, 3) := by decide +kernel
theorem dX7_digest_136 : decode cX7_digest 136 = .ok (.aload_n 0, 1) := by decide +kernel
theorem dX7_digest_137 : decode cX7_digest 137 = .ok (.aload_n 0, 1) := by decide +kernel
theorem dX7_digest_138 : decode cX7_digest 138 = .ok (.iload_n 1, 1) := by decide +kernel
theorem dX7_digest_139 : decode cX7_digest 139 = .ok (.invokevirtual 190, 3) := by decide +kernel
theorem dX7_digest_142 : decode cX7_digest 142 = .ok (.i2l, 1) := by decide +kernel
theorem dX7_digest_143 : decode cX7_digest 143 = .ok (.invokevirtual 201, 3) := by decide +kernel
theorem dX7_digest_146 : decode cX7_digest 146 = .ok (.iinc 1 1, 3) := by decide +kernel
theorem dX7_digest_149 : decode cX7_digest 149 = .ok (.goto (-19), 3) := by decide +kernel
theorem dX7_digest_152 : decode cX7_digest 152 = .ok (.aload_n 0, 1) := by decide +kernel
theorem dX7_digest_153 : decode cX7_digest 153 = .ok (.getfield 195, 3) := by decide +kernel
theorem dX7_digest_156 : decode cX7_digest 156 = .ok (.lreturn, 1) := by decide +kernel
theorem dJ9_max_7cf53_0 : decode cJ9_max_7cf53 0 = .ok (.iload_n 0, 1) := by decide +kernel
theorem dJ9_max_7cf53_1 : decode cJ9_max_7cf53 1 = .ok (.iload_n 1, 1) := by decide +kernel
theorem dJ9_max_7cf53_2 : decode cJ9_max_7cf53 2 = .ok (.if_icmp .lt 7, 3) := by decide +kernel
theorem dJ9_max_7cf53_5 : decode cJ9_max_7cf53 5 = .ok (.iload_n 0, 1) := by decide +kernel
theorem dJ9_max_7cf53_6 : decode cJ9_max_7cf53 6 = .ok (.goto 4, 3) := by decide +kernel
theorem dJ9_max_7cf53_9 : decode cJ9_max_7cf53 9 = .ok (.iload_n 1, 1) := by decide +kernel
theorem dJ9_max_7cf53_10 : decode cJ9_max_7cf53 10 = .ok (.ireturn, 1) := by decide +kernel
theorem dJ9_min_7cf53_0 : decode cJ9_min_7cf53 0 = .ok (.iload_n 0, 1) := by decide +kernel
theorem dJ9_min_7cf53_1 : decode cJ9_min_7cf53 1 = .ok (.iload_n 1, 1) := by decide +kernel
theorem dJ9_min_7cf53_2 : decode cJ9_min_7cf53 2 = .ok (.if_icmp .gt 7, 3) := by decide +kernel
theorem dJ9_min_7cf53_5 : decode cJ9_min_7cf53 5 = .ok (.iload_n 0, 1) := by decide +kernel
theorem dJ9_min_7cf53_6 : decode cJ9_min_7cf53 6 = .ok (.goto 4, 3) := by decide +kernel
theorem dJ9_min_7cf53_9 : decode cJ9_min_7cf53 9 = .ok (.iload_n 1, 1) := by decide +kernel
theorem dJ9_min_7cf53_10 : decode cJ9_min_7cf53 10 = .ok (.ireturn, 1) := by decide +kernel
set_option maxRecDepth 20000 in
theorem ggL_law_X6_init : GoodIn wsL_law wsX6_init := goodIn_r _ [8, 9, 10, 11, 12, 13, 14, 15, 16, 17, 18, 19, 20, 21, 22, 23, 24, 25, 26, 27, 28, 29, 30, 31, 32, 33, 34, 35, 36, 37, 38, 39, 40, 623, 624, 625, 626, 627, 628, 629, 630, 631, 632, 633, 634, 660, 661, 662, 663, 664, 665, 666, 667, 668] (by decide +kernel) (by decide +kernel)
set_option maxRecDepth 20000 in
theorem gL_law_X6_init : GoodIn wsL_law (wsX6_init) := ggL_law_X6_init
set_option maxRecDepth 20000 in
theorem ggL_law_X7_init : GoodIn wsL_law wsX7_init := goodIn_r _ [43, 44, 10, 11, 12, 45, 46, 47, 48, 49, 50, 51, 52, 53, 635, 636, 637, 638, 639, 640, 641, 642, 643, 644, 645, 646, 647, 648, 649, 650, 651, 652, 653, 654, 655, 656, 657, 658, 659] (by decide +kernel) (by decide +kernel)
set_option maxRecDepth 20000 in
theorem gL_law_X7_init : GoodIn wsL_law (wsX7_init) := ggL_law_X7_init
set_option maxRecDepth 20000 in
theorem ggL_law_X6_letter : GoodIn wsL_law wsX6_letter := goodIn_r _ [57, 14, 13, 623, 624, 625, 626, 627, 628, 629, 630, 631, 632, 633, 634] (by decide +kernel) (by decide +kernel)
set_option maxRecDepth 20000 in
theorem gL_law_X6_letter : GoodIn wsL_law (wsV RL 13 RX6 yX6_letter wsX6_letter) := goodIn_app (goodIn_of _ (by decide +kernel)) ggL_law_X6_letter
set_option maxRecDepth 20000 in
theorem ggL_law_X7_letter : GoodIn wsL_law wsX7_letter := goodIn_r _ [61, 62, 63, 45, 64, 65, 5, 66, 635, 636, 637, 638, 639, 640, 641, 642, 643, 644, 645, 646, 647, 648, 649, 650, 651, 652, 653, 654, 655, 656, 657, 658, 659] (by decide +kernel) (by decide +kernel)
set_option maxRecDepth 20000 in
theorem gL_law_X7_letter : GoodIn wsL_law (wsV RL 17 RX7 yX7_letter wsX7_letter) := goodIn_app (goodIn_of _ (by decide +kernel)) ggL_law_X7_letter
set_option maxRecDepth 20000 in
theorem ggL_law_X6_blank : GoodIn wsL_law wsX6_blank := goodIn_r _ [70, 14, 623, 624, 625, 626, 627, 628, 629, 630, 631, 632, 633, 634] (by decide +kernel) (by decide +kernel)
set_option maxRecDepth 20000 in
theorem gL_law_X6_blank : GoodIn wsL_law (wsV RL 18 RX6 yX6_blank wsX6_blank) := goodIn_app (goodIn_of _ (by decide +kernel)) ggL_law_X6_blank
set_option maxRecDepth 20000 in
theorem ggL_law_X7_blank : GoodIn wsL_law wsX7_blank := goodIn_r _ [74, 63, 635, 636, 637, 638, 639, 640, 641, 642, 643, 644, 645, 646, 647, 648, 649, 650, 651, 652, 653, 654, 655, 656, 657, 658, 659] (by decide +kernel) (by decide +kernel)
set_option maxRecDepth 20000 in
theorem gL_law_X7_blank : GoodIn wsL_law (wsV RL 22 RX7 yX7_blank wsX7_blank) := goodIn_app (goodIn_of _ (by decide +kernel)) ggL_law_X7_blank
set_option maxRecDepth 20000 in
theorem ggL_law_X6_fault : GoodIn wsL_law wsX6_fault := goodIn_r _ [78, 14, 79, 80, 81, 2, 82, 13, 83, 84, 85, 86, 87, 88, 623, 624, 625, 626, 627, 628, 629, 630, 631, 632, 633, 634] (by decide +kernel) (by decide +kernel)
set_option maxRecDepth 20000 in
theorem gL_law_X6_fault : GoodIn wsL_law (wsV RL 23 RX6 yX6_fault wsX6_fault) := goodIn_app (goodIn_of _ (by decide +kernel)) ggL_law_X6_fault
set_option maxRecDepth 20000 in
theorem ggL_law_X7_fault : GoodIn wsL_law wsX7_fault := goodIn_r _ [92, 93, 94, 95, 5, 96, 63, 45, 97, 98, 99, 100, 101, 102, 103, 104, 64, 65, 66, 635, 636, 637, 638, 639, 640, 641, 642, 643, 644, 645, 646, 647, 648, 649, 650, 651, 652, 653, 654, 655, 656, 657, 658, 659] (by decide +kernel) (by decide +kernel)
set_option maxRecDepth 20000 in
theorem gL_law_X7_fault : GoodIn wsL_law (wsV RL 26 RX7 yX7_fault wsX7_fault) := goodIn_app (goodIn_of _ (by decide +kernel)) ggL_law_X7_fault
set_option maxRecDepth 20000 in
theorem ggL_law_X6_larder : GoodIn wsL_law wsX6_larder := goodIn_r _ [108, 14, 17, 16, 21, 24, 25, 109, 110, 111, 2, 112, 113, 76, 77, 78, 79, 80, 81, 82, 13, 83, 84, 85, 86, 87, 88, 114, 115, 116, 117, 118, 119, 120, 121, 122, 123, 124, 125, 126, 127, 128, 129, 15, 130, 131, 132, 133, 134, 135, 136, 137, 138, 10, 11, 139, 140, 141, 142, 143, 144, 145, 146, 147, 148, 149, 150, 151, 152, 153, 154, 155, 156, 157, 158, 159, 160, 161, 162, 163, 164, 165, 166, 167, 20, 168, 32, 33, 34, 35, 36, 37, 38, 623, 624, 625, 626, 627, 628, 629, 630, 631, 632, 633, 634, 669, 670, 671, 672, 673, 674, 675, 676, 677, 678, 679, 680, 681, 682, 683, 660, 661, 662, 663, 664, 665, 666, 667, 668] (by decide +kernel) (by decide +kernel)
set_option maxRecDepth 20000 in
theorem gL_law_X6_larder : GoodIn wsL_law (wsV RL 27 RX6 yX6_larder wsX6_larder) := goodIn_app (goodIn_of _ (by decide +kernel)) ggL_law_X6_larder
set_option maxRecDepth 20000 in
theorem ggL_law_X7_larder : GoodIn wsL_law wsX7_larder := goodIn_r _ [172, 63, 173, 46, 45, 174, 175, 176, 177, 178, 179, 93, 94, 95, 5, 96, 97, 98, 99, 100, 101, 102, 103, 104, 64, 65, 66, 635, 636, 637, 638, 639, 640, 641, 642, 643, 644, 645, 646, 647, 648, 649, 650, 651, 652, 653, 654, 655, 656, 657, 658, 659] (by decide +kernel) (by decide +kernel)
set_option maxRecDepth 20000 in
theorem gL_law_X7_larder : GoodIn wsL_law (wsV RL 30 RX7 yX7_larder wsX7_larder) := goodIn_app (goodIn_of _ (by decide +kernel)) ggL_law_X7_larder
set_option maxRecDepth 20000 in
theorem ggL_law_X6_jar : GoodIn wsL_law wsX6_jar := goodIn_r _ [183, 184, 185, 21, 186, 187, 188, 189, 2, 190, 17, 16, 191, 192, 193, 194, 195, 123, 196, 197, 198, 199, 129, 200, 201, 202, 203, 131, 204, 205, 126, 206, 207, 208, 120, 209, 210, 211, 212, 20, 213, 37, 214, 215, 216, 217, 218, 141, 219, 220, 221, 222, 223, 224, 225, 226, 227, 228, 229, 230, 231, 232, 233, 234, 235, 236, 139, 237, 238, 239, 240, 241, 242, 243, 244, 245, 246, 247, 248, 249, 250, 251, 252, 253, 254, 255, 256, 257, 258, 259, 260, 261, 262, 38, 263, 264, 265, 266, 672, 673, 674, 678, 679, 680, 681, 682, 683, 675, 676, 677, 669, 670, 671, 623, 624, 625, 626, 627, 628, 629, 630, 631, 632, 633, 634, 660, 661, 662, 663, 664, 665, 666, 667, 668] (by decide +kernel) (by decide +kernel)
set_option maxRecDepth 20000 in
theorem gL_law_X6_jar : GoodIn wsL_law (wsV RL 31 RX6 yX6_jar wsX6_jar) := goodIn_app (goodIn_of _ (by decide +kernel)) ggL_law_X6_jar
set_option maxRecDepth 20000 in
theorem ggL_law_X7_jar : GoodIn wsL_law wsX7_jar := goodIn_r _ [270, 271, 272, 273, 5, 274, 173, 64, 65, 66, 275, 276, 277, 278, 46, 174, 279, 280, 281, 282, 283, 284, 285, 286, 287, 288, 289, 290, 291, 292, 293, 294, 295, 635, 636, 637, 638, 639, 640, 641, 642, 643, 644, 645, 646, 647, 648, 649, 650, 651, 652, 653, 654, 655, 656, 657, 658, 659] (by decide +kernel) (by decide +kernel)
set_option maxRecDepth 20000 in
theorem gL_law_X7_jar : GoodIn wsL_law (wsV RL 35 RX7 yX7_jar wsX7_jar) := goodIn_app (goodIn_of _ (by decide +kernel)) ggL_law_X7_jar
set_option maxRecDepth 20000 in
theorem ggL_law_X6_as : GoodIn wsL_law wsX6_as := goodIn_r _ [299, 187, 188, 189, 2, 190, 17, 16, 300, 301, 302, 303, 304, 305, 306, 623, 624, 625, 626, 627, 628, 629, 630, 631, 632, 633, 634] (by decide +kernel) (by decide +kernel)
set_option maxRecDepth 20000 in
theorem gL_law_X6_as : GoodIn wsL_law (wsV RL 36 RX6 yX6_as wsX6_as) := goodIn_app (goodIn_of _ (by decide +kernel)) ggL_law_X6_as
set_option maxRecDepth 20000 in
theorem ggL_law_X7_as : GoodIn wsL_law wsX7_as := goodIn_r _ [310, 311, 46, 271, 272, 273, 5, 274, 173, 64, 65, 66, 635, 636, 637, 638, 639, 640, 641, 642, 643, 644, 645, 646, 647, 648, 649, 650, 651, 652, 653, 654, 655, 656, 657, 658, 659] (by decide +kernel) (by decide +kernel)
set_option maxRecDepth 20000 in
theorem gL_law_X7_as : GoodIn wsL_law (wsV RL 39 RX7 yX7_as wsX7_as) := goodIn_app (goodIn_of _ (by decide +kernel)) ggL_law_X7_as
set_option maxRecDepth 20000 in
theorem ggL_law_X6_worth : GoodIn wsL_law wsX6_worth := goodIn_r _ [315, 187, 188, 189, 2, 190, 17, 16, 316, 317, 318, 228, 229, 230, 231, 232, 233, 234, 235, 131, 236, 139, 237, 215, 216, 217, 218, 141, 219, 238, 221, 222, 223, 239, 240, 241, 129, 242, 243, 244, 245, 246, 247, 248, 249, 250, 251, 126, 252, 253, 254, 255, 256, 257, 258, 623, 624, 625, 626, 627, 628, 629, 630, 631, 632, 633, 634, 672, 673, 674, 678, 679, 680, 681, 682, 683, 675, 676, 677, 669, 670, 671] (by decide +kernel) (by decide +kernel)
set_option maxRecDepth 20000 in
theorem gL_law_X6_worth : GoodIn wsL_law (wsV RL 40 RX6 yX6_worth wsX6_worth) := goodIn_app (goodIn_of _ (by decide +kernel)) ggL_law_X6_worth
set_option maxRecDepth 20000 in
theorem ggL_law_X7_worth : GoodIn wsL_law wsX7_worth := goodIn_r _ [322, 323, 271, 272, 273, 5, 274, 173, 64, 65, 66, 287, 288, 289, 290, 46, 279, 280, 281, 282, 635, 636, 637, 638, 639, 640, 641, 642, 643, 644, 645, 646, 647, 648, 649, 650, 651, 652, 653, 654, 655, 656, 657, 658, 659] (by decide +kernel) (by decide +kernel)
set_option maxRecDepth 20000 in
theorem gL_law_X7_worth : GoodIn wsL_law (wsV RL 43 RX7 yX7_worth wsX7_worth) := goodIn_app (goodIn_of _ (by decide +kernel)) ggL_law_X7_worth
set_option maxRecDepth 20000 in
theorem ggL_law_X6_eat : GoodIn wsL_law wsX6_eat := goodIn_r _ [327, 21, 187, 188, 189, 2, 190, 17, 16, 224, 225, 226, 227, 186, 228, 229, 230, 231, 232, 233, 234, 235, 131, 236, 139, 237, 215, 216, 217, 218, 141, 219, 238, 221, 222, 223, 239, 240, 241, 129, 242, 243, 244, 245, 246, 247, 248, 249, 250, 251, 126, 252, 253, 254, 255, 256, 257, 258, 259, 260, 261, 20, 262, 38, 328, 329, 330, 331, 37, 33, 35, 332, 211, 212, 213, 623, 624, 625, 626, 627, 628, 629, 630, 631, 632, 633, 634, 660, 661, 662, 663, 664, 665, 666, 667, 668, 672, 673, 674, 678, 679, 680, 681, 682, 683, 675, 676, 677, 669, 670, 671] (by decide +kernel) (by decide +kernel)
set_option maxRecDepth 20000 in
theorem gL_law_X6_eat : GoodIn wsL_law (wsV RL 44 RX6 yX6_eat wsX6_eat) := goodIn_app (goodIn_of _ (by decide +kernel)) ggL_law_X6_eat
set_option maxRecDepth 20000 in
theorem ggL_law_X7_eat : GoodIn wsL_law wsX7_eat := goodIn_r _ [336, 46, 175, 176, 271, 272, 273, 5, 274, 173, 64, 65, 66, 283, 284, 285, 286, 174, 287, 288, 289, 290, 279, 280, 281, 282, 635, 636, 637, 638, 639, 640, 641, 642, 643, 644, 645, 646, 647, 648, 649, 650, 651, 652, 653, 654, 655, 656, 657, 658, 659] (by decide +kernel) (by decide +kernel)
set_option maxRecDepth 20000 in
theorem gL_law_X7_eat : GoodIn wsL_law (wsV RL 47 RX7 yX7_eat wsX7_eat) := goodIn_app (goodIn_of _ (by decide +kernel)) ggL_law_X7_eat
set_option maxRecDepth 20000 in
theorem ggL_law_X6_wasps : GoodIn wsL_law wsX6_wasps := goodIn_r _ [340, 21, 187, 188, 189, 2, 190, 17, 16, 341, 342, 343, 20, 344, 37, 34, 332, 211, 212, 213, 210, 623, 624, 625, 626, 627, 628, 629, 630, 631, 632, 633, 634, 660, 661, 662, 663, 664, 665, 666, 667, 668] (by decide +kernel) (by decide +kernel)
set_option maxRecDepth 20000 in
theorem gL_law_X6_wasps : GoodIn wsL_law (wsV RL 48 RX6 yX6_wasps wsX6_wasps) := goodIn_app (goodIn_of _ (by decide +kernel)) ggL_law_X6_wasps
set_option maxRecDepth 20000 in
theorem ggL_law_X7_wasps : GoodIn wsL_law wsX7_wasps := goodIn_r _ [348, 46, 177, 271, 272, 273, 5, 274, 173, 64, 65, 66, 635, 636, 637, 638, 639, 640, 641, 642, 643, 644, 645, 646, 647, 648, 649, 650, 651, 652, 653, 654, 655, 656, 657, 658, 659] (by decide +kernel) (by decide +kernel)
set_option maxRecDepth 20000 in
theorem gL_law_X7_wasps : GoodIn wsL_law (wsV RL 51 RX7 yX7_wasps wsX7_wasps) := goodIn_app (goodIn_of _ (by decide +kernel)) ggL_law_X7_wasps
set_option maxRecDepth 20000 in
theorem ggL_law_X6_year : GoodIn wsL_law wsX6_year := goodIn_r _ [352, 21, 186, 353, 354, 355, 2, 356, 17, 357, 358, 359, 20, 360, 32, 38, 623, 624, 625, 626, 627, 628, 629, 630, 631, 632, 633, 634, 660, 661, 662, 663, 664, 665, 666, 667, 668] (by decide +kernel) (by decide +kernel)
set_option maxRecDepth 20000 in
theorem gL_law_X6_year : GoodIn wsL_law (wsV RL 52 RX6 yX6_year wsX6_year) := goodIn_app (goodIn_of _ (by decide +kernel)) ggL_law_X6_year
set_option maxRecDepth 20000 in
theorem ggL_law_X7_year : GoodIn wsL_law wsX7_year := goodIn_r _ [364, 174, 365, 366, 367, 5, 368, 173, 369, 370, 371, 372, 46, 635, 636, 637, 638, 639, 640, 641, 642, 643, 644, 645, 646, 647, 648, 649, 650, 651, 652, 653, 654, 655, 656, 657, 658, 659] (by decide +kernel) (by decide +kernel)
set_option maxRecDepth 20000 in
theorem gL_law_X7_year : GoodIn wsL_law (wsV RL 55 RX7 yX7_year wsX7_year) := goodIn_app (goodIn_of _ (by decide +kernel)) ggL_law_X7_year
set_option maxRecDepth 20000 in
theorem ggL_law_X6_best : GoodIn wsL_law wsX6_best := goodIn_r _ [376, 26, 377, 353, 354, 355, 2, 356, 17, 378, 379, 380, 381, 382, 383, 157, 384, 28, 385, 386, 387, 388, 27, 389, 390, 391, 224, 225, 226, 227, 21, 186, 228, 229, 230, 231, 187, 188, 189, 190, 16, 232, 233, 234, 235, 131, 236, 139, 237, 215, 216, 217, 218, 141, 219, 238, 221, 222, 223, 239, 240, 241, 129, 242, 243, 244, 245, 246, 247, 248, 249, 250, 251, 126, 252, 253, 254, 255, 256, 257, 258, 259, 260, 261, 20, 262, 38, 392, 393, 394, 395, 396, 156, 158, 397, 398, 399, 400, 401, 402, 403, 404, 210, 211, 212, 213, 37, 405, 406, 407, 408, 409, 410, 411, 412, 623, 624, 625, 626, 627, 628, 629, 630, 631, 632, 633, 634, 660, 661, 662, 663, 664, 665, 666, 667, 668, 672, 673, 674, 678, 679, 680, 681, 682, 683, 675, 676, 677, 669, 670, 671] (by decide +kernel) (by decide +kernel)
set_option maxRecDepth 20000 in
theorem gL_law_X6_best : GoodIn wsL_law (wsV RL 56 RX6 yX6_best wsX6_best) := goodIn_app (goodIn_of _ (by decide +kernel)) ggL_law_X6_best
set_option maxRecDepth 20000 in
theorem ggL_law_X7_best : GoodIn wsL_law wsX7_best := goodIn_r _ [416, 417, 418, 419, 420, 64, 65, 5, 66, 365, 366, 367, 368, 173, 421, 422, 423, 424, 47, 48, 425, 426, 427, 428, 46, 429, 430, 431, 432, 295, 433, 434, 435, 436, 283, 284, 285, 286, 174, 287, 288, 289, 290, 279, 280, 281, 282, 635, 636, 637, 638, 639, 640, 641, 642, 643, 644, 645, 646, 647, 648, 649, 650, 651, 652, 653, 654, 655, 656, 657, 658, 659] (by decide +kernel) (by decide +kernel)
set_option maxRecDepth 20000 in
theorem gL_law_X7_best : GoodIn wsL_law (wsV RL 59 RX7 yX7_best wsX7_best) := goodIn_app (goodIn_of _ (by decide +kernel)) ggL_law_X7_best
set_option maxRecDepth 20000 in
theorem ggL_law_X6_taste : GoodIn wsL_law wsX6_taste := goodIn_r _ [440, 21, 441, 316, 317, 2, 318, 442, 443, 444, 20, 445, 36, 39, 40, 623, 624, 625, 626, 627, 628, 629, 630, 631, 632, 633, 634, 660, 661, 662, 663, 664, 665, 666, 667, 668] (by decide +kernel) (by decide +kernel)
set_option maxRecDepth 20000 in
theorem gL_law_X6_taste : GoodIn wsL_law (wsV RL 60 RX6 yX6_taste wsX6_taste) := goodIn_app (goodIn_of _ (by decide +kernel)) ggL_law_X6_taste
set_option maxRecDepth 20000 in
theorem ggL_law_X7_taste : GoodIn wsL_law wsX7_taste := goodIn_r _ [449, 323, 450, 451, 178, 49, 64, 65, 5, 66, 635, 636, 637, 638, 639, 640, 641, 642, 643, 644, 645, 646, 647, 648, 649, 650, 651, 652, 653, 654, 655, 656, 657, 658, 659] (by decide +kernel) (by decide +kernel)
set_option maxRecDepth 20000 in
theorem gL_law_X7_taste : GoodIn wsL_law (wsV RL 63 RX7 yX7_taste wsX7_taste) := goodIn_app (goodIn_of _ (by decide +kernel)) ggL_law_X7_taste
set_option maxRecDepth 20000 in
theorem ggL_law_X6_forget : GoodIn wsL_law wsX6_forget := goodIn_r _ [455, 21, 441, 623, 624, 625, 626, 627, 628, 629, 630, 631, 632, 633, 634, 660, 661, 662, 663, 664, 665, 666, 667, 668] (by decide +kernel) (by decide +kernel)
set_option maxRecDepth 20000 in
theorem gL_law_X6_forget : GoodIn wsL_law (wsV RL 64 RX6 yX6_forget wsX6_forget) := goodIn_app (goodIn_of _ (by decide +kernel)) ggL_law_X6_forget
set_option maxRecDepth 20000 in
theorem ggL_law_X7_forget : GoodIn wsL_law wsX7_forget := goodIn_r _ [459, 178, 635, 636, 637, 638, 639, 640, 641, 642, 643, 644, 645, 646, 647, 648, 649, 650, 651, 652, 653, 654, 655, 656, 657, 658, 659] (by decide +kernel) (by decide +kernel)
set_option maxRecDepth 20000 in
theorem gL_law_X7_forget : GoodIn wsL_law (wsV RL 67 RX7 yX7_forget wsX7_forget) := goodIn_app (goodIn_of _ (by decide +kernel)) ggL_law_X7_forget
set_option maxRecDepth 20000 in
theorem ggL_law_X6_which : GoodIn wsL_law wsX6_which := goodIn_r _ [463, 353, 354, 355, 2, 356, 17, 464, 465, 466, 467, 468, 469, 470, 471, 21, 441, 472, 473, 228, 229, 230, 231, 187, 188, 189, 190, 16, 232, 233, 234, 235, 131, 236, 139, 237, 215, 216, 217, 218, 141, 219, 238, 221, 222, 223, 239, 240, 241, 129, 242, 243, 244, 245, 246, 247, 248, 249, 250, 251, 126, 252, 253, 254, 255, 256, 257, 258, 623, 624, 625, 626, 627, 628, 629, 630, 631, 632, 633, 634, 660, 661, 662, 663, 664, 665, 666, 667, 668, 672, 673, 674, 678, 679, 680, 681, 682, 683, 675, 676, 677, 669, 670, 671] (by decide +kernel) (by decide +kernel)
set_option maxRecDepth 20000 in
theorem gL_law_X6_which : GoodIn wsL_law (wsV RL 68 RX6 yX6_which wsX6_which) := goodIn_app (goodIn_of _ (by decide +kernel)) ggL_law_X6_which
set_option maxRecDepth 20000 in
theorem ggL_law_X7_which : GoodIn wsL_law wsX7_which := goodIn_r _ [477, 365, 366, 367, 5, 368, 173, 478, 479, 480, 481, 178, 49, 287, 288, 289, 290, 46, 279, 280, 281, 282, 635, 636, 637, 638, 639, 640, 641, 642, 643, 644, 645, 646, 647, 648, 649, 650, 651, 652, 653, 654, 655, 656, 657, 658, 659] (by decide +kernel) (by decide +kernel)
set_option maxRecDepth 20000 in
theorem gL_law_X7_which : GoodIn wsL_law (wsV RL 71 RX7 yX7_which wsX7_which) := goodIn_app (goodIn_of _ (by decide +kernel)) ggL_law_X7_which
set_option maxRecDepth 20000 in
theorem ggL_law_X6_tasteNext : GoodIn wsL_law wsX6_tasteNext := goodIn_r _ [485, 21, 186, 353, 354, 355, 2, 356, 17, 464, 465, 466, 467, 468, 469, 470, 471, 441, 472, 473, 228, 229, 230, 231, 187, 188, 189, 190, 16, 232, 233, 234, 235, 131, 236, 139, 237, 215, 216, 217, 218, 141, 219, 238, 221, 222, 223, 239, 240, 241, 129, 242, 243, 244, 245, 246, 247, 248, 249, 250, 251, 126, 252, 253, 254, 255, 256, 257, 258, 486, 487, 488, 489, 396, 156, 157, 158, 490, 491, 492, 493, 494, 495, 496, 623, 624, 625, 626, 627, 628, 629, 630, 631, 632, 633, 634, 660, 661, 662, 663, 664, 665, 666, 667, 668, 672, 673, 674, 678, 679, 680, 681, 682, 683, 675, 676, 677, 669, 670, 671] (by decide +kernel) (by decide +kernel)
set_option maxRecDepth 20000 in
theorem gL_law_X6_tasteNext : GoodIn wsL_law (wsV RL 72 RX6 yX6_tasteNext wsX6_tasteNext) := goodIn_app (goodIn_of _ (by decide +kernel)) ggL_law_X6_tasteNext
set_option maxRecDepth 20000 in
theorem ggL_law_X7_tasteNext : GoodIn wsL_law wsX7_tasteNext := goodIn_r _ [500, 365, 366, 367, 5, 368, 173, 501, 502, 503, 504, 174, 478, 479, 480, 481, 178, 49, 287, 288, 289, 290, 46, 279, 280, 281, 282, 505, 506, 507, 508, 635, 636, 637, 638, 639, 640, 641, 642, 643, 644, 645, 646, 647, 648, 649, 650, 651, 652, 653, 654, 655, 656, 657, 658, 659] (by decide +kernel) (by decide +kernel)
set_option maxRecDepth 20000 in
theorem gL_law_X7_tasteNext : GoodIn wsL_law (wsV RL 75 RX7 yX7_tasteNext wsX7_tasteNext) := goodIn_app (goodIn_of _ (by decide +kernel)) ggL_law_X7_tasteNext
set_option maxRecDepth 20000 in
theorem ggL_law_X6_times : GoodIn wsL_law wsX6_times := goodIn_r _ [512, 23, 513, 353, 354, 355, 2, 356, 17, 514, 515, 516, 517, 21, 186, 518, 519, 520, 20, 521, 32, 33, 34, 35, 36, 37, 38, 39, 40, 522, 523, 524, 525, 526, 527, 528, 529, 530, 531, 532, 341, 342, 343, 344, 332, 211, 212, 213, 228, 229, 230, 231, 187, 188, 189, 190, 16, 232, 233, 234, 235, 131, 236, 139, 237, 215, 216, 217, 218, 141, 219, 238, 221, 222, 223, 239, 240, 241, 129, 242, 243, 244, 245, 246, 247, 248, 249, 250, 251, 126, 252, 253, 254, 255, 256, 257, 258, 259, 260, 261, 262, 328, 329, 330, 331, 357, 358, 359, 360, 533, 534, 535, 536, 623, 624, 625, 626, 627, 628, 629, 630, 631, 632, 633, 634, 660, 661, 662, 663, 664, 665, 666, 667, 668, 672, 673, 674, 678, 679, 680, 681, 682, 683, 675, 676, 677, 669, 670, 671] (by decide +kernel) (by decide +kernel)
set_option maxRecDepth 20000 in
theorem gL_law_X6_times : GoodIn wsL_law (wsV RL 76 RX6 yX6_times wsX6_times) := goodIn_app (goodIn_of _ (by decide +kernel)) ggL_law_X6_times
set_option maxRecDepth 20000 in
theorem ggL_law_X7_times : GoodIn wsL_law wsX7_times := goodIn_r _ [540, 541, 542, 46, 50, 174, 543, 175, 173, 64, 65, 5, 66, 365, 366, 367, 368, 544, 545, 546, 547, 548, 549, 550, 551, 552, 553, 554, 283, 284, 285, 286, 287, 288, 289, 290, 279, 280, 281, 282, 369, 370, 371, 372, 425, 426, 427, 428, 635, 636, 637, 638, 639, 640, 641, 642, 643, 644, 645, 646, 647, 648, 649, 650, 651, 652, 653, 654, 655, 656, 657, 658, 659] (by decide +kernel) (by decide +kernel)
set_option maxRecDepth 20000 in
theorem gL_law_X7_times : GoodIn wsL_law (wsV RL 80 RX7 yX7_times wsX7_times) := goodIn_app (goodIn_of _ (by decide +kernel)) ggL_law_X7_times
set_option maxRecDepth 20000 in
theorem ggL_law_X6_image : GoodIn wsL_law wsX6_image := goodIn_r _ [558, 22, 21, 24, 186, 353, 354, 355, 2, 356, 17, 518, 519, 520, 20, 521, 32, 33, 34, 35, 36, 37, 38, 39, 40, 623, 624, 625, 626, 627, 628, 629, 630, 631, 632, 633, 634, 660, 661, 662, 663, 664, 665, 666, 667, 668] (by decide +kernel) (by decide +kernel)
set_option maxRecDepth 20000 in
theorem gL_law_X6_image : GoodIn wsL_law (wsV RL 81 RX6 yX6_image wsX6_image) := goodIn_app (goodIn_of _ (by decide +kernel)) ggL_law_X6_image
set_option maxRecDepth 20000 in
theorem ggL_law_X7_image : GoodIn wsL_law wsX7_image := goodIn_r _ [562, 46, 51, 49, 52, 174, 563, 175, 564, 176, 565, 177, 566, 178, 567, 179, 53, 365, 366, 367, 5, 368, 173, 544, 545, 546, 635, 636, 637, 638, 639, 640, 641, 642, 643, 644, 645, 646, 647, 648, 649, 650, 651, 652, 653, 654, 655, 656, 657, 658, 659] (by decide +kernel) (by decide +kernel)
set_option maxRecDepth 20000 in
theorem gL_law_X7_image : GoodIn wsL_law (wsV RL 84 RX7 yX7_image wsX7_image) := goodIn_app (goodIn_of _ (by decide +kernel)) ggL_law_X7_image
set_option maxRecDepth 20000 in
theorem ggL_law_X6_restore : GoodIn wsL_law wsX6_restore := goodIn_r _ [571, 24, 21, 22, 186, 518, 519, 520, 20, 521, 32, 33, 34, 35, 36, 37, 38, 39, 40, 623, 624, 625, 626, 627, 628, 629, 630, 631, 632, 633, 634, 660, 661, 662, 663, 664, 665, 666, 667, 668] (by decide +kernel) (by decide +kernel)
set_option maxRecDepth 20000 in
theorem gL_law_X6_restore : GoodIn wsL_law (wsV RL 85 RX6 yX6_restore wsX6_restore) := goodIn_app (goodIn_of _ (by decide +kernel)) ggL_law_X6_restore
set_option maxRecDepth 20000 in
theorem ggL_law_X7_restore : GoodIn wsL_law wsX7_restore := goodIn_r _ [575, 53, 179, 51, 46, 52, 49, 563, 174, 564, 175, 565, 176, 566, 177, 567, 178, 544, 545, 5, 546, 635, 636, 637, 638, 639, 640, 641, 642, 643, 644, 645, 646, 647, 648, 649, 650, 651, 652, 653, 654, 655, 656, 657, 658, 659] (by decide +kernel) (by decide +kernel)
set_option maxRecDepth 20000 in
theorem gL_law_X7_restore : GoodIn wsL_law (wsV RL 88 RX7 yX7_restore wsX7_restore) := goodIn_app (goodIn_of _ (by decide +kernel)) ggL_law_X7_restore
set_option maxRecDepth 20000 in
theorem ggL_law_X6_count : GoodIn wsL_law wsX6_count := goodIn_r _ [579, 17, 21, 186, 513, 580, 581, 441, 14, 25, 26, 533, 534, 535, 20, 536, 37, 582, 583, 584, 2, 585, 210, 211, 212, 213, 623, 624, 625, 626, 627, 628, 629, 630, 631, 632, 633, 634, 660, 661, 662, 663, 664, 665, 666, 667, 668] (by decide +kernel) (by decide +kernel)
set_option maxRecDepth 20000 in
theorem gL_law_X6_count : GoodIn wsL_law (wsV RL 89 RX6 yX6_count wsX6_count) := goodIn_app (goodIn_of _ (by decide +kernel)) ggL_law_X6_count
set_option maxRecDepth 20000 in
theorem ggL_law_X7_count : GoodIn wsL_law wsX7_count := goodIn_r _ [589, 590, 591, 592, 5, 593, 173, 174, 175, 176, 177, 178, 63, 179, 420, 425, 426, 427, 428, 46, 594, 595, 596, 597, 635, 636, 637, 638, 639, 640, 641, 642, 643, 644, 645, 646, 647, 648, 649, 650, 651, 652, 653, 654, 655, 656, 657, 658, 659] (by decide +kernel) (by decide +kernel)
set_option maxRecDepth 20000 in
theorem gL_law_X7_count : GoodIn wsL_law (wsV RL 92 RX7 yX7_count wsX7_count) := goodIn_app (goodIn_of _ (by decide +kernel)) ggL_law_X7_count
set_option maxRecDepth 20000 in
theorem ggL_law_X6_digest : GoodIn wsL_law wsX6_digest := goodIn_r _ [601, 602, 17, 14, 603, 181, 182, 2, 183, 184, 185, 21, 186, 187, 188, 189, 190, 16, 191, 192, 193, 194, 195, 123, 196, 197, 198, 199, 129, 200, 201, 202, 203, 131, 204, 205, 126, 206, 207, 208, 120, 209, 210, 211, 212, 20, 213, 37, 214, 215, 216, 217, 218, 141, 219, 220, 221, 222, 223, 224, 225, 226, 227, 228, 229, 230, 231, 232, 233, 234, 235, 236, 139, 237, 238, 239, 240, 241, 242, 243, 244, 245, 246, 247, 248, 249, 250, 251, 252, 253, 254, 255, 256, 257, 258, 259, 260, 261, 262, 38, 263, 264, 265, 266, 604, 605, 606, 607, 608, 313, 314, 315, 316, 317, 318, 353, 354, 355, 356, 609, 461, 462, 463, 464, 465, 466, 467, 468, 469, 470, 471, 441, 472, 473, 610, 483, 484, 485, 486, 487, 488, 489, 396, 156, 157, 158, 490, 491, 492, 493, 494, 495, 496, 79, 80, 81, 82, 13, 611, 577, 578, 579, 513, 580, 581, 25, 26, 533, 534, 535, 536, 582, 583, 584, 585, 623, 624, 625, 626, 627, 628, 629, 630, 631, 632, 633, 634, 672, 673, 674, 678, 679, 680, 681, 682, 683, 675, 676, 677, 669, 670, 671, 660, 661, 662, 663, 664, 665, 666, 667, 668] (by decide +kernel) (by decide +kernel)
set_option maxRecDepth 20000 in
theorem gL_law_X6_digest : GoodIn wsL_law (wsV RL 93 RX6 yX6_digest wsX6_digest) := goodIn_app (goodIn_of _ (by decide +kernel)) ggL_law_X6_digest
set_option maxRecDepth 20000 in
theorem ggL_law_X7_digest : GoodIn wsL_law wsX7_digest := goodIn_r _ [615, 616, 617, 173, 63, 45, 275, 276, 277, 5, 278, 46, 174, 279, 280, 281, 282, 283, 284, 285, 286, 287, 288, 289, 290, 291, 292, 293, 294, 295, 618, 619, 620, 621, 622, 365, 366, 367, 368, 478, 479, 480, 481, 178, 49, 501, 502, 503, 504, 505, 506, 507, 508, 590, 591, 592, 593, 175, 176, 177, 179, 420, 425, 426, 427, 428, 594, 595, 596, 597, 635, 636, 637, 638, 639, 640, 641, 642, 643, 644, 645, 646, 647, 648, 649, 650, 651, 652, 653, 654, 655, 656, 657, 658, 659] (by decide +kernel) (by decide +kernel)
set_option maxRecDepth 20000 in
theorem gL_law_X7_digest : GoodIn wsL_law (wsV RL 97 RX7 yX7_digest wsX7_digest) := goodIn_app (goodIn_of _ (by decide +kernel)) ggL_law_X7_digest
theorem dL_law_0 : decode cL_law 0 = .ok (.new 7, 3) := by decide +kernel
theorem dL_law_3 : decode cL_law 3 = .ok (.dup, 1) := by decide +kernel
theorem dL_law_4 : decode cL_law 4 = .ok (.invokespecial 9, 3) := by decide +kernel
theorem dL_law_7 : decode cL_law 7 = .ok (.astore_n 1, 1) := by decide +kernel
theorem dL_law_8 : decode cL_law 8 = .ok (.new 10, 3) := by decide +kernel
theorem dL_law_11 : decode cL_law 11 = .ok (.dup, 1) := by decide +kernel
theorem dL_law_12 : decode cL_law 12 = .ok (.invokespecial 12, 3) := by decide +kernel
theorem dL_law_15 : decode cL_law 15 = .ok (.astore_n 2, 1) := by decide +kernel
theorem dL_law_16 : decode cL_law 16 = .ok (.iconst 0, 1) := by decide +kernel
theorem dL_law_17 : decode cL_law 17 = .ok (.istore_n 3, 1) := by decide +kernel
theorem dL_law_18 : decode cL_law 18 = .ok (.iload_n 3, 1) := by decide +kernel
theorem dL_law_19 : decode cL_law 19 = .ok (.aload_n 0, 1) := by decide +kernel
theorem dL_law_20 : decode cL_law 20 = .ok (.arraylength, 1) := by decide +kernel
theorem dL_law_21 : decode cL_law 21 = .ok (.iconst 4, 1) := by decide +kernel
theorem dL_law_22 : decode cL_law 22 = .ok (.isub, 1) := by decide +kernel
theorem dL_law_23 : decode cL_law 23 = .ok (.if_icmp .gt 542, 3) := by decide +kernel
theorem dL_law_26 : decode cL_law 26 = .ok (.aload_n 0, 1) := by decide +kernel
theorem dL_law_27 : decode cL_law 27 = .ok (.iload_n 3, 1) := by decide +kernel
theorem dL_law_28 : decode cL_law 28 = .ok (.iaload, 1) := by decide +kernel
theorem dL_law_29 : decode cL_law 29 = .ok (.bipush 31, 2) := by decide +kernel
theorem dL_law_31 : decode cL_law 31 = .ok (.iand, 1) := by decide +kernel
theorem dL_law_32 : decode cL_law 32 = .ok (.tableswitch 527 0 19 #[96, 119, 132, 145, 158, 191, 224, 257, 280, 303, 316, 349, 382, 395, 408, 421, 464, 477, 490, 513], 96) := by decide +kernel
theorem dL_law_128 : decode cL_law 128 = .ok (.aload_n 1, 1) := by decide +kernel
theorem dL_law_129 : decode cL_law 129 = .ok (.aload_n 0, 1) := by decide +kernel
theorem dL_law_130 : decode cL_law 130 = .ok (.iload_n 3, 1) := by decide +kernel
theorem dL_law_131 : decode cL_law 131 = .ok (.iconst 1, 1) := by decide +kernel
theorem dL_law_132 : decode cL_law 132 = .ok (.iadd, 1) := by decide +kernel
theorem dL_law_133 : decode cL_law 133 = .ok (.iaload, 1) := by decide +kernel
theorem dL_law_134 : decode cL_law 134 = .ok (.invokevirtual 13, 3) := by decide +kernel
theorem dL_law_137 : decode cL_law 137 = .ok (.aload_n 2, 1) := by decide +kernel
theorem dL_law_138 : decode cL_law 138 = .ok (.aload_n 0, 1) := by decide +kernel
theorem dL_law_139 : decode cL_law 139 = .ok (.iload_n 3, 1) := by decide +kernel
theorem dL_law_140 : decode cL_law 140 = .ok (.iconst 1, 1) := by decide +kernel
theorem dL_law_141 : decode cL_law 141 = .ok (.iadd, 1) := by decide +kernel
theorem dL_law_142 : decode cL_law 142 = .ok (.iaload, 1) := by decide +kernel
theorem dL_law_143 : decode cL_law 143 = .ok (.invokevirtual 17, 3) := by decide +kernel
theorem dL_law_146 : decode cL_law 146 = .ok (.if_icmp .eq 413, 3) := by decide +kernel
theorem dL_law_149 : decode cL_law 149 = .ok (.iconst 0, 1) := by decide +kernel
theorem dL_law_150 : decode cL_law 150 = .ok (.ireturn, 1) := by decide +kernel
theorem dL_law_151 : decode cL_law 151 = .ok (.aload_n 1, 1) := by decide +kernel
theorem dL_law_152 : decode cL_law 152 = .ok (.invokevirtual 18, 3) := by decide +kernel
theorem dL_law_155 : decode cL_law 155 = .ok (.aload_n 2, 1) := by decide +kernel
theorem dL_law_156 : decode cL_law 156 = .ok (.invokevirtual 22, 3) := by decide +kernel
theorem dL_law_159 : decode cL_law 159 = .ok (.if_icmp .eq 400, 3) := by decide +kernel
theorem dL_law_162 : decode cL_law 162 = .ok (.iconst 0, 1) := by decide +kernel
theorem dL_law_163 : decode cL_law 163 = .ok (.ireturn, 1) := by decide +kernel
theorem dL_law_164 : decode cL_law 164 = .ok (.aload_n 1, 1) := by decide +kernel
theorem dL_law_165 : decode cL_law 165 = .ok (.invokevirtual 23, 3) := by decide +kernel
theorem dL_law_168 : decode cL_law 168 = .ok (.aload_n 2, 1) := by decide +kernel
theorem dL_law_169 : decode cL_law 169 = .ok (.invokevirtual 26, 3) := by decide +kernel
theorem dL_law_172 : decode cL_law 172 = .ok (.if_icmp .eq 387, 3) := by decide +kernel
theorem dL_law_175 : decode cL_law 175 = .ok (.iconst 0, 1) := by decide +kernel
theorem dL_law_176 : decode cL_law 176 = .ok (.ireturn, 1) := by decide +kernel
theorem dL_law_177 : decode cL_law 177 = .ok (.aload_n 1, 1) := by decide +kernel
theorem dL_law_178 : decode cL_law 178 = .ok (.invokevirtual 27, 3) := by decide +kernel
theorem dL_law_181 : decode cL_law 181 = .ok (.aload_n 2, 1) := by decide +kernel
theorem dL_law_182 : decode cL_law 182 = .ok (.invokevirtual 30, 3) := by decide +kernel
theorem dL_law_185 : decode cL_law 185 = .ok (.if_icmp .eq 374, 3) := by decide +kernel
theorem dL_law_188 : decode cL_law 188 = .ok (.iconst 0, 1) := by decide +kernel
theorem dL_law_189 : decode cL_law 189 = .ok (.ireturn, 1) := by decide +kernel
theorem dL_law_190 : decode cL_law 190 = .ok (.aload_n 1, 1) := by decide +kernel
theorem dL_law_191 : decode cL_law 191 = .ok (.aload_n 0, 1) := by decide +kernel
theorem dL_law_192 : decode cL_law 192 = .ok (.iload_n 3, 1) := by decide +kernel
theorem dL_law_193 : decode cL_law 193 = .ok (.iconst 1, 1) := by decide +kernel
theorem dL_law_194 : decode cL_law 194 = .ok (.iadd, 1) := by decide +kernel
theorem dL_law_195 : decode cL_law 195 = .ok (.iaload, 1) := by decide +kernel
theorem dL_law_196 : decode cL_law 196 = .ok (.aload_n 0, 1) := by decide +kernel
theorem dL_law_197 : decode cL_law 197 = .ok (.iload_n 3, 1) := by decide +kernel
theorem dL_law_198 : decode cL_law 198 = .ok (.iconst 2, 1) := by decide +kernel
theorem dL_law_199 : decode cL_law 199 = .ok (.iadd, 1) := by decide +kernel
theorem dL_law_200 : decode cL_law 200 = .ok (.iaload, 1) := by decide +kernel
theorem dL_law_201 : decode cL_law 201 = .ok (.invokevirtual 31, 3) := by decide +kernel
theorem dL_law_204 : decode cL_law 204 = .ok (.aload_n 2, 1) := by decide +kernel
theorem dL_law_205 : decode cL_law 205 = .ok (.aload_n 0, 1) := by decide +kernel
theorem dL_law_206 : decode cL_law 206 = .ok (.iload_n 3, 1) := by decide +kernel
theorem dL_law_207 : decode cL_law 207 = .ok (.iconst 1, 1) := by decide +kernel
theorem dL_law_208 : decode cL_law 208 = .ok (.iadd, 1) := by decide +kernel
theorem dL_law_209 : decode cL_law 209 = .ok (.iaload, 1) := by decide +kernel
theorem dL_law_210 : decode cL_law 210 = .ok (.aload_n 0, 1) := by decide +kernel
theorem dL_law_211 : decode cL_law 211 = .ok (.iload_n 3, 1) := by decide +kernel
theorem dL_law_212 : decode cL_law 212 = .ok (.iconst 2, 1) := by decide +kernel
theorem dL_law_213 : decode cL_law 213 = .ok (.iadd, 1) := by decide +kernel
theorem dL_law_214 : decode cL_law 214 = .ok (.iaload, 1) := by decide +kernel
theorem dL_law_215 : decode cL_law 215 = .ok (.invokevirtual 35, 3) := by decide +kernel
theorem dL_law_218 : decode cL_law 218 = .ok (.if_icmp .eq 341, 3) := by decide +kernel
theorem dL_law_221 : decode cL_law 221 = .ok (.iconst 0, 1) := by decide +kernel
theorem dL_law_222 : decode cL_law 222 = .ok (.ireturn, 1) := by decide +kernel
theorem dL_law_223 : decode cL_law 223 = .ok (.aload_n 1, 1) := by decide +kernel
theorem dL_law_224 : decode cL_law 224 = .ok (.aload_n 0, 1) := by decide +kernel
theorem dL_law_225 : decode cL_law 225 = .ok (.iload_n 3, 1) := by decide +kernel
theorem dL_law_226 : decode cL_law 226 = .ok (.iconst 1, 1) := by decide +kernel
theorem dL_law_227 : decode cL_law 227 = .ok (.iadd, 1) := by decide +kernel
theorem dL_law_228 : decode cL_law 228 = .ok (.iaload, 1) := by decide +kernel
theorem dL_law_229 : decode cL_law 229 = .ok (.aload_n 0, 1) := by decide +kernel
theorem dL_law_230 : decode cL_law 230 = .ok (.iload_n 3, 1) := by decide +kernel
theorem dL_law_231 : decode cL_law 231 = .ok (.iconst 2, 1) := by decide +kernel
theorem dL_law_232 : decode cL_law 232 = .ok (.iadd, 1) := by decide +kernel
theorem dL_law_233 : decode cL_law 233 = .ok (.iaload, 1) := by decide +kernel
theorem dL_law_234 : decode cL_law 234 = .ok (.invokevirtual 36, 3) := by decide +kernel
theorem dL_law_237 : decode cL_law 237 = .ok (.aload_n 2, 1) := by decide +kernel
theorem dL_law_238 : decode cL_law 238 = .ok (.aload_n 0, 1) := by decide +kernel
theorem dL_law_239 : decode cL_law 239 = .ok (.iload_n 3, 1) := by decide +kernel
theorem dL_law_240 : decode cL_law 240 = .ok (.iconst 1, 1) := by decide +kernel
theorem dL_law_241 : decode cL_law 241 = .ok (.iadd, 1) := by decide +kernel
theorem dL_law_242 : decode cL_law 242 = .ok (.iaload, 1) := by decide +kernel
theorem dL_law_243 : decode cL_law 243 = .ok (.aload_n 0, 1) := by decide +kernel
theorem dL_law_244 : decode cL_law 244 = .ok (.iload_n 3, 1) := by decide +kernel
theorem dL_law_245 : decode cL_law 245 = .ok (.iconst 2, 1) := by decide +kernel
theorem dL_law_246 : decode cL_law 246 = .ok (.iadd, 1) := by decide +kernel
theorem dL_law_247 : decode cL_law 247 = .ok (.iaload, 1) := by decide +kernel
theorem dL_law_248 : decode cL_law 248 = .ok (.invokevirtual 39, 3) := by decide +kernel
theorem dL_law_251 : decode cL_law 251 = .ok (.if_icmp .eq 308, 3) := by decide +kernel
theorem dL_law_254 : decode cL_law 254 = .ok (.iconst 0, 1) := by decide +kernel
theorem dL_law_255 : decode cL_law 255 = .ok (.ireturn, 1) := by decide +kernel
theorem dL_law_256 : decode cL_law 256 = .ok (.aload_n 1, 1) := by decide +kernel
theorem dL_law_257 : decode cL_law 257 = .ok (.aload_n 0, 1) := by decide +kernel
theorem dL_law_258 : decode cL_law 258 = .ok (.iload_n 3, 1) := by decide +kernel
theorem dL_law_259 : decode cL_law 259 = .ok (.iconst 1, 1) := by decide +kernel
theorem dL_law_260 : decode cL_law 260 = .ok (.iadd, 1) := by decide +kernel
theorem dL_law_261 : decode cL_law 261 = .ok (.iaload, 1) := by decide +kernel
theorem dL_law_262 : decode cL_law 262 = .ok (.aload_n 0, 1) := by decide +kernel
theorem dL_law_263 : decode cL_law 263 = .ok (.iload_n 3, 1) := by decide +kernel
theorem dL_law_264 : decode cL_law 264 = .ok (.iconst 2, 1) := by decide +kernel
theorem dL_law_265 : decode cL_law 265 = .ok (.iadd, 1) := by decide +kernel
theorem dL_law_266 : decode cL_law 266 = .ok (.iaload, 1) := by decide +kernel
theorem dL_law_267 : decode cL_law 267 = .ok (.invokevirtual 40, 3) := by decide +kernel
theorem dL_law_270 : decode cL_law 270 = .ok (.aload_n 2, 1) := by decide +kernel
theorem dL_law_271 : decode cL_law 271 = .ok (.aload_n 0, 1) := by decide +kernel
theorem dL_law_272 : decode cL_law 272 = .ok (.iload_n 3, 1) := by decide +kernel
theorem dL_law_273 : decode cL_law 273 = .ok (.iconst 1, 1) := by decide +kernel
theorem dL_law_274 : decode cL_law 274 = .ok (.iadd, 1) := by decide +kernel
theorem dL_law_275 : decode cL_law 275 = .ok (.iaload, 1) := by decide +kernel
theorem dL_law_276 : decode cL_law 276 = .ok (.aload_n 0, 1) := by decide +kernel
theorem dL_law_277 : decode cL_law 277 = .ok (.iload_n 3, 1) := by decide +kernel
theorem dL_law_278 : decode cL_law 278 = .ok (.iconst 2, 1) := by decide +kernel
theorem dL_law_279 : decode cL_law 279 = .ok (.iadd, 1) := by decide +kernel
theorem dL_law_280 : decode cL_law 280 = .ok (.iaload, 1) := by decide +kernel
theorem dL_law_281 : decode cL_law 281 = .ok (.invokevirtual 43, 3) := by decide +kernel
theorem dL_law_284 : decode cL_law 284 = .ok (.if_icmp .eq 275, 3) := by decide +kernel
theorem dL_law_287 : decode cL_law 287 = .ok (.iconst 0, 1) := by decide +kernel
theorem dL_law_288 : decode cL_law 288 = .ok (.ireturn, 1) := by decide +kernel
theorem dL_law_289 : decode cL_law 289 = .ok (.aload_n 1, 1) := by decide +kernel
theorem dL_law_290 : decode cL_law 290 = .ok (.aload_n 0, 1) := by decide +kernel
theorem dL_law_291 : decode cL_law 291 = .ok (.iload_n 3, 1) := by decide +kernel
theorem dL_law_292 : decode cL_law 292 = .ok (.iconst 1, 1) := by decide +kernel
theorem dL_law_293 : decode cL_law 293 = .ok (.iadd, 1) := by decide +kernel
theorem dL_law_294 : decode cL_law 294 = .ok (.iaload, 1) := by decide +kernel
theorem dL_law_295 : decode cL_law 295 = .ok (.invokevirtual 44, 3) := by decide +kernel
theorem dL_law_298 : decode cL_law 298 = .ok (.aload_n 2, 1) := by decide +kernel
theorem dL_law_299 : decode cL_law 299 = .ok (.aload_n 0, 1) := by decide +kernel
theorem dL_law_300 : decode cL_law 300 = .ok (.iload_n 3, 1) := by decide +kernel
theorem dL_law_301 : decode cL_law 301 = .ok (.iconst 1, 1) := by decide +kernel
theorem dL_law_302 : decode cL_law 302 = .ok (.iadd, 1) := by decide +kernel
theorem dL_law_303 : decode cL_law 303 = .ok (.iaload, 1) := by decide +kernel
theorem dL_law_304 : decode cL_law 304 = .ok (.invokevirtual 47, 3) := by decide +kernel
theorem dL_law_307 : decode cL_law 307 = .ok (.if_icmp .eq 252, 3) := by decide +kernel
theorem dL_law_310 : decode cL_law 310 = .ok (.iconst 0, 1) := by decide +kernel
theorem dL_law_311 : decode cL_law 311 = .ok (.ireturn, 1) := by decide +kernel
theorem dL_law_312 : decode cL_law 312 = .ok (.aload_n 1, 1) := by decide +kernel
theorem dL_law_313 : decode cL_law 313 = .ok (.aload_n 0, 1) := by decide +kernel
theorem dL_law_314 : decode cL_law 314 = .ok (.iload_n 3, 1) := by decide +kernel
theorem dL_law_315 : decode cL_law 315 = .ok (.iconst 1, 1) := by decide +kernel
theorem dL_law_316 : decode cL_law 316 = .ok (.iadd, 1) := by decide +kernel
theorem dL_law_317 : decode cL_law 317 = .ok (.iaload, 1) := by decide +kernel
theorem dL_law_318 : decode cL_law 318 = .ok (.invokevirtual 48, 3) := by decide +kernel
theorem dL_law_321 : decode cL_law 321 = .ok (.aload_n 2, 1) := by decide +kernel
theorem dL_law_322 : decode cL_law 322 = .ok (.aload_n 0, 1) := by decide +kernel
theorem dL_law_323 : decode cL_law 323 = .ok (.iload_n 3, 1) := by decide +kernel
theorem dL_law_324 : decode cL_law 324 = .ok (.iconst 1, 1) := by decide +kernel
theorem dL_law_325 : decode cL_law 325 = .ok (.iadd, 1) := by decide +kernel
theorem dL_law_326 : decode cL_law 326 = .ok (.iaload, 1) := by decide +kernel
theorem dL_law_327 : decode cL_law 327 = .ok (.invokevirtual 51, 3) := by decide +kernel
theorem dL_law_330 : decode cL_law 330 = .ok (.if_icmp .eq 229, 3) := by decide +kernel
theorem dL_law_333 : decode cL_law 333 = .ok (.iconst 0, 1) := by decide +kernel
theorem dL_law_334 : decode cL_law 334 = .ok (.ireturn, 1) := by decide +kernel
theorem dL_law_335 : decode cL_law 335 = .ok (.aload_n 1, 1) := by decide +kernel
theorem dL_law_336 : decode cL_law 336 = .ok (.invokevirtual 52, 3) := by decide +kernel
theorem dL_law_339 : decode cL_law 339 = .ok (.aload_n 2, 1) := by decide +kernel
theorem dL_law_340 : decode cL_law 340 = .ok (.invokevirtual 55, 3) := by decide +kernel
theorem dL_law_343 : decode cL_law 343 = .ok (.if_icmp .eq 216, 3) := by decide +kernel
theorem dL_law_346 : decode cL_law 346 = .ok (.iconst 0, 1) := by decide +kernel
theorem dL_law_347 : decode cL_law 347 = .ok (.ireturn, 1) := by decide +kernel
theorem dL_law_348 : decode cL_law 348 = .ok (.aload_n 1, 1) := by decide +kernel
theorem dL_law_349 : decode cL_law 349 = .ok (.aload_n 0, 1) := by decide +kernel
theorem dL_law_350 : decode cL_law 350 = .ok (.iload_n 3, 1) := by decide +kernel
theorem dL_law_351 : decode cL_law 351 = .ok (.iconst 1, 1) := by decide +kernel
theorem dL_law_352 : decode cL_law 352 = .ok (.iadd, 1) := by decide +kernel
theorem dL_law_353 : decode cL_law 353 = .ok (.iaload, 1) := by decide +kernel
theorem dL_law_354 : decode cL_law 354 = .ok (.aload_n 0, 1) := by decide +kernel
theorem dL_law_355 : decode cL_law 355 = .ok (.iload_n 3, 1) := by decide +kernel
theorem dL_law_356 : decode cL_law 356 = .ok (.iconst 2, 1) := by decide +kernel
theorem dL_law_357 : decode cL_law 357 = .ok (.iadd, 1) := by decide +kernel
theorem dL_law_358 : decode cL_law 358 = .ok (.iaload, 1) := by decide +kernel
theorem dL_law_359 : decode cL_law 359 = .ok (.invokevirtual 56, 3) := by decide +kernel
theorem dL_law_362 : decode cL_law 362 = .ok (.aload_n 2, 1) := by decide +kernel
theorem dL_law_363 : decode cL_law 363 = .ok (.aload_n 0, 1) := by decide +kernel
theorem dL_law_364 : decode cL_law 364 = .ok (.iload_n 3, 1) := by decide +kernel
theorem dL_law_365 : decode cL_law 365 = .ok (.iconst 1, 1) := by decide +kernel
theorem dL_law_366 : decode cL_law 366 = .ok (.iadd, 1) := by decide +kernel
theorem dL_law_367 : decode cL_law 367 = .ok (.iaload, 1) := by decide +kernel
theorem dL_law_368 : decode cL_law 368 = .ok (.aload_n 0, 1) := by decide +kernel
theorem dL_law_369 : decode cL_law 369 = .ok (.iload_n 3, 1) := by decide +kernel
theorem dL_law_370 : decode cL_law 370 = .ok (.iconst 2, 1) := by decide +kernel
theorem dL_law_371 : decode cL_law 371 = .ok (.iadd, 1) := by decide +kernel
theorem dL_law_372 : decode cL_law 372 = .ok (.iaload, 1) := by decide +kernel
theorem dL_law_373 : decode cL_law 373 = .ok (.invokevirtual 59, 3) := by decide +kernel
theorem dL_law_376 : decode cL_law 376 = .ok (.if_icmp .eq 183, 3) := by decide +kernel
theorem dL_law_379 : decode cL_law 379 = .ok (.iconst 0, 1) := by decide +kernel
theorem dL_law_380 : decode cL_law 380 = .ok (.ireturn, 1) := by decide +kernel
theorem dL_law_381 : decode cL_law 381 = .ok (.aload_n 1, 1) := by decide +kernel
theorem dL_law_382 : decode cL_law 382 = .ok (.aload_n 0, 1) := by decide +kernel
theorem dL_law_383 : decode cL_law 383 = .ok (.iload_n 3, 1) := by decide +kernel
theorem dL_law_384 : decode cL_law 384 = .ok (.iconst 1, 1) := by decide +kernel
theorem dL_law_385 : decode cL_law 385 = .ok (.iadd, 1) := by decide +kernel
theorem dL_law_386 : decode cL_law 386 = .ok (.iaload, 1) := by decide +kernel
theorem dL_law_387 : decode cL_law 387 = .ok (.aload_n 0, 1) := by decide +kernel
theorem dL_law_388 : decode cL_law 388 = .ok (.iload_n 3, 1) := by decide +kernel
theorem dL_law_389 : decode cL_law 389 = .ok (.iconst 2, 1) := by decide +kernel
theorem dL_law_390 : decode cL_law 390 = .ok (.iadd, 1) := by decide +kernel
theorem dL_law_391 : decode cL_law 391 = .ok (.iaload, 1) := by decide +kernel
theorem dL_law_392 : decode cL_law 392 = .ok (.invokevirtual 60, 3) := by decide +kernel
theorem dL_law_395 : decode cL_law 395 = .ok (.aload_n 2, 1) := by decide +kernel
theorem dL_law_396 : decode cL_law 396 = .ok (.aload_n 0, 1) := by decide +kernel
theorem dL_law_397 : decode cL_law 397 = .ok (.iload_n 3, 1) := by decide +kernel
theorem dL_law_398 : decode cL_law 398 = .ok (.iconst 1, 1) := by decide +kernel
theorem dL_law_399 : decode cL_law 399 = .ok (.iadd, 1) := by decide +kernel
theorem dL_law_400 : decode cL_law 400 = .ok (.iaload, 1) := by decide +kernel
theorem dL_law_401 : decode cL_law 401 = .ok (.aload_n 0, 1) := by decide +kernel
theorem dL_law_402 : decode cL_law 402 = .ok (.iload_n 3, 1) := by decide +kernel
theorem dL_law_403 : decode cL_law 403 = .ok (.iconst 2, 1) := by decide +kernel
theorem dL_law_404 : decode cL_law 404 = .ok (.iadd, 1) := by decide +kernel
theorem dL_law_405 : decode cL_law 405 = .ok (.iaload, 1) := by decide +kernel
theorem dL_law_406 : decode cL_law 406 = .ok (.invokevirtual 63, 3) := by decide +kernel
theorem dL_law_409 : decode cL_law 409 = .ok (.if_icmp .eq 150, 3) := by decide +kernel
theorem dL_law_412 : decode cL_law 412 = .ok (.iconst 0, 1) := by decide +kernel
theorem dL_law_413 : decode cL_law 413 = .ok (.ireturn, 1) := by decide +kernel
theorem dL_law_414 : decode cL_law 414 = .ok (.aload_n 1, 1) := by decide +kernel
theorem dL_law_415 : decode cL_law 415 = .ok (.invokevirtual 64, 3) := by decide +kernel
theorem dL_law_418 : decode cL_law 418 = .ok (.aload_n 2, 1) := by decide +kernel
theorem dL_law_419 : decode cL_law 419 = .ok (.invokevirtual 67, 3) := by decide +kernel
theorem dL_law_422 : decode cL_law 422 = .ok (.if_icmp .eq 137, 3) := by decide +kernel
theorem dL_law_425 : decode cL_law 425 = .ok (.iconst 0, 1) := by decide +kernel
theorem dL_law_426 : decode cL_law 426 = .ok (.ireturn, 1) := by decide +kernel
theorem dL_law_427 : decode cL_law 427 = .ok (.aload_n 1, 1) := by decide +kernel
theorem dL_law_428 : decode cL_law 428 = .ok (.invokevirtual 68, 3) := by decide +kernel
theorem dL_law_431 : decode cL_law 431 = .ok (.aload_n 2, 1) := by decide +kernel
theorem dL_law_432 : decode cL_law 432 = .ok (.invokevirtual 71, 3) := by decide +kernel
theorem dL_law_435 : decode cL_law 435 = .ok (.if_icmp .eq 124, 3) := by decide +kernel
theorem dL_law_438 : decode cL_law 438 = .ok (.iconst 0, 1) := by decide +kernel
theorem dL_law_439 : decode cL_law 439 = .ok (.ireturn, 1) := by decide +kernel
theorem dL_law_440 : decode cL_law 440 = .ok (.aload_n 1, 1) := by decide +kernel
theorem dL_law_441 : decode cL_law 441 = .ok (.invokevirtual 72, 3) := by decide +kernel
theorem dL_law_444 : decode cL_law 444 = .ok (.aload_n 2, 1) := by decide +kernel
theorem dL_law_445 : decode cL_law 445 = .ok (.invokevirtual 75, 3) := by decide +kernel
theorem dL_law_448 : decode cL_law 448 = .ok (.if_icmp .eq 111, 3) := by decide +kernel
theorem dL_law_451 : decode cL_law 451 = .ok (.iconst 0, 1) := by decide +kernel
theorem dL_law_452 : decode cL_law 452 = .ok (.ireturn, 1) := by decide +kernel
theorem dL_law_453 : decode cL_law 453 = .ok (.aload_n 1, 1) := by decide +kernel
theorem dL_law_454 : decode cL_law 454 = .ok (.aload_n 0, 1) := by decide +kernel
theorem dL_law_455 : decode cL_law 455 = .ok (.iload_n 3, 1) := by decide +kernel
theorem dL_law_456 : decode cL_law 456 = .ok (.iconst 1, 1) := by decide +kernel
theorem dL_law_457 : decode cL_law 457 = .ok (.iadd, 1) := by decide +kernel
theorem dL_law_458 : decode cL_law 458 = .ok (.iaload, 1) := by decide +kernel
theorem dL_law_459 : decode cL_law 459 = .ok (.aload_n 0, 1) := by decide +kernel
theorem dL_law_460 : decode cL_law 460 = .ok (.iload_n 3, 1) := by decide +kernel
theorem dL_law_461 : decode cL_law 461 = .ok (.iconst 2, 1) := by decide +kernel
theorem dL_law_462 : decode cL_law 462 = .ok (.iadd, 1) := by decide +kernel
theorem dL_law_463 : decode cL_law 463 = .ok (.iaload, 1) := by decide +kernel
theorem dL_law_464 : decode cL_law 464 = .ok (.aload_n 0, 1) := by decide +kernel
theorem dL_law_465 : decode cL_law 465 = .ok (.iload_n 3, 1) := by decide +kernel
theorem dL_law_466 : decode cL_law 466 = .ok (.iconst 3, 1) := by decide +kernel
theorem dL_law_467 : decode cL_law 467 = .ok (.iadd, 1) := by decide +kernel
theorem dL_law_468 : decode cL_law 468 = .ok (.iaload, 1) := by decide +kernel
theorem dL_law_469 : decode cL_law 469 = .ok (.invokevirtual 76, 3) := by decide +kernel
theorem dL_law_472 : decode cL_law 472 = .ok (.aload_n 2, 1) := by decide +kernel
theorem dL_law_473 : decode cL_law 473 = .ok (.aload_n 0, 1) := by decide +kernel
theorem dL_law_474 : decode cL_law 474 = .ok (.iload_n 3, 1) := by decide +kernel
theorem dL_law_475 : decode cL_law 475 = .ok (.iconst 1, 1) := by decide +kernel
theorem dL_law_476 : decode cL_law 476 = .ok (.iadd, 1) := by decide +kernel
theorem dL_law_477 : decode cL_law 477 = .ok (.iaload, 1) := by decide +kernel
theorem dL_law_478 : decode cL_law 478 = .ok (.aload_n 0, 1) := by decide +kernel
theorem dL_law_479 : decode cL_law 479 = .ok (.iload_n 3, 1) := by decide +kernel
theorem dL_law_480 : decode cL_law 480 = .ok (.iconst 2, 1) := by decide +kernel
theorem dL_law_481 : decode cL_law 481 = .ok (.iadd, 1) := by decide +kernel
theorem dL_law_482 : decode cL_law 482 = .ok (.iaload, 1) := by decide +kernel
theorem dL_law_483 : decode cL_law 483 = .ok (.aload_n 0, 1) := by decide +kernel
theorem dL_law_484 : decode cL_law 484 = .ok (.iload_n 3, 1) := by decide +kernel
theorem dL_law_485 : decode cL_law 485 = .ok (.iconst 3, 1) := by decide +kernel
theorem dL_law_486 : decode cL_law 486 = .ok (.iadd, 1) := by decide +kernel
theorem dL_law_487 : decode cL_law 487 = .ok (.iaload, 1) := by decide +kernel
theorem dL_law_488 : decode cL_law 488 = .ok (.invokevirtual 80, 3) := by decide +kernel
theorem dL_law_491 : decode cL_law 491 = .ok (.if_icmp .eq 68, 3) := by decide +kernel
theorem dL_law_494 : decode cL_law 494 = .ok (.iconst 0, 1) := by decide +kernel
theorem dL_law_495 : decode cL_law 495 = .ok (.ireturn, 1) := by decide +kernel
theorem dL_law_496 : decode cL_law 496 = .ok (.aload_n 1, 1) := by decide +kernel
theorem dL_law_497 : decode cL_law 497 = .ok (.invokevirtual 81, 3) := by decide +kernel
theorem dL_law_500 : decode cL_law 500 = .ok (.aload_n 2, 1) := by decide +kernel
theorem dL_law_501 : decode cL_law 501 = .ok (.invokevirtual 84, 3) := by decide +kernel
theorem dL_law_504 : decode cL_law 504 = .ok (.if_icmp .eq 55, 3) := by decide +kernel
theorem dL_law_507 : decode cL_law 507 = .ok (.iconst 0, 1) := by decide +kernel
theorem dL_law_508 : decode cL_law 508 = .ok (.ireturn, 1) := by decide +kernel
theorem dL_law_509 : decode cL_law 509 = .ok (.aload_n 1, 1) := by decide +kernel
theorem dL_law_510 : decode cL_law 510 = .ok (.invokevirtual 85, 3) := by decide +kernel
theorem dL_law_513 : decode cL_law 513 = .ok (.aload_n 2, 1) := by decide +kernel
theorem dL_law_514 : decode cL_law 514 = .ok (.invokevirtual 88, 3) := by decide +kernel
theorem dL_law_517 : decode cL_law 517 = .ok (.if_icmp .eq 42, 3) := by decide +kernel
theorem dL_law_520 : decode cL_law 520 = .ok (.iconst 0, 1) := by decide +kernel
theorem dL_law_521 : decode cL_law 521 = .ok (.ireturn, 1) := by decide +kernel
theorem dL_law_522 : decode cL_law 522 = .ok (.aload_n 1, 1) := by decide +kernel
theorem dL_law_523 : decode cL_law 523 = .ok (.aload_n 0, 1) := by decide +kernel
theorem dL_law_524 : decode cL_law 524 = .ok (.iload_n 3, 1) := by decide +kernel
theorem dL_law_525 : decode cL_law 525 = .ok (.iconst 1, 1) := by decide +kernel
theorem dL_law_526 : decode cL_law 526 = .ok (.iadd, 1) := by decide +kernel
theorem dL_law_527 : decode cL_law 527 = .ok (.iaload, 1) := by decide +kernel
theorem dL_law_528 : decode cL_law 528 = .ok (.invokevirtual 89, 3) := by decide +kernel
theorem dL_law_531 : decode cL_law 531 = .ok (.aload_n 2, 1) := by decide +kernel
theorem dL_law_532 : decode cL_law 532 = .ok (.aload_n 0, 1) := by decide +kernel
theorem dL_law_533 : decode cL_law 533 = .ok (.iload_n 3, 1) := by decide +kernel
theorem dL_law_534 : decode cL_law 534 = .ok (.iconst 1, 1) := by decide +kernel
theorem dL_law_535 : decode cL_law 535 = .ok (.iadd, 1) := by decide +kernel
theorem dL_law_536 : decode cL_law 536 = .ok (.iaload, 1) := by decide +kernel
theorem dL_law_537 : decode cL_law 537 = .ok (.invokevirtual 92, 3) := by decide +kernel
theorem dL_law_540 : decode cL_law 540 = .ok (.if_icmp .eq 19, 3) := by decide +kernel
theorem dL_law_543 : decode cL_law 543 = .ok (.iconst 0, 1) := by decide +kernel
theorem dL_law_544 : decode cL_law 544 = .ok (.ireturn, 1) := by decide +kernel
theorem dL_law_545 : decode cL_law 545 = .ok (.aload_n 1, 1) := by decide +kernel
theorem dL_law_546 : decode cL_law 546 = .ok (.invokevirtual 93, 3) := by decide +kernel
theorem dL_law_549 : decode cL_law 549 = .ok (.aload_n 2, 1) := by decide +kernel
theorem dL_law_550 : decode cL_law 550 = .ok (.invokevirtual 97, 3) := by decide +kernel
theorem dL_law_553 : decode cL_law 553 = .ok (.lcmp, 1) := by decide +kernel
theorem dL_law_554 : decode cL_law 554 = .ok (.ifCond .eq 5, 3) := by decide +kernel
theorem dL_law_557 : decode cL_law 557 = .ok (.iconst 0, 1) := by decide +kernel
theorem dL_law_558 : decode cL_law 558 = .ok (.ireturn, 1) := by decide +kernel
theorem dL_law_559 : decode cL_law 559 = .ok (.iinc 3 4, 3) := by decide +kernel
theorem dL_law_562 : decode cL_law 562 = .ok (.goto (-544), 3) := by decide +kernel
theorem dL_law_565 : decode cL_law 565 = .ok (.iconst 1, 1) := by decide +kernel
theorem dL_law_566 : decode cL_law 566 = .ok (.ireturn, 1) := by decide +kernel
