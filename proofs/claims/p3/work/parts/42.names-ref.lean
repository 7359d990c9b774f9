theorem dX11_thread_68 : decode cX11_thread 68 = .ok (.new 70, 3) := by decide +kernel
theorem dX11_thread_71 : decode cX11_thread 71 = .ok (.dup, 1) := by decide +kernel
theorem dX11_thread_72 : decode cX11_thread 72 = .ok (.iload_n 1, 1) := by decide +kernel
theorem dX11_thread_73 : decode cX11_thread 73 = .ok (.iload_n 2, 1) := by decide +kernel
theorem dX11_thread_74 : decode cX11_thread 74 = .ok (.iload_n 3, 1) := by decide +kernel
theorem dX11_thread_75 : decode cX11_thread 75 = .ok (.invokespecial 95, 3) := by decide +kernel
theorem dX11_thread_78 : decode cX11_thread 78 = .ok (.invokeinterface 87 2, 5) := by decide +kernel
theorem dX11_thread_83 : decode cX11_thread 83 = .ok (.pop, 1) := by decide +kernel
theorem dX11_thread_84 : decode cX11_thread 84 = .ok (.aload_n 0, 1) := by decide +kernel
theorem dX11_thread_85 : decode cX11_thread 85 = .ok (.getfield 16, 3) := by decide +kernel
theorem dX11_thread_88 : decode cX11_thread 88 = .ok (.invokeinterface 46 1, 5) := by decide +kernel
theorem dX11_thread_93 : decode cX11_thread 93 = .ok (.iconst 1, 1) := by decide +kernel
theorem dX11_thread_94 : decode cX11_thread 94 = .ok (.isub, 1) := by decide +kernel
theorem dX11_thread_95 : decode cX11_thread 95 = .ok (.ireturn, 1) := by decide +kernel
set_option maxRecDepth 20000 in
theorem ggX11_feed_X11_isThread : GoodIn wsX11_feed wsX11_isThread := goodIn_r _ [9, 2, 10, 11, 12, 13, 14, 15, 16, 17, 8, 18, 41, 42, 43, 44, 45, 46, 47, 48, 49, 50, 51, 52, 53, 54, 55, 56, 57, 58, 59, 60, 61, 62, 63, 64, 65, 66, 67, 72, 73, 74] (by decide +kernel) (by decide +kernel)
set_option maxRecDepth 20000 in
theorem gX11_feed_X11_isThread : GoodIn wsX11_feed (wsV RX11 98 RX11 yX11_isThread wsX11_isThread) := goodIn_app (goodIn_of _ (by decide +kernel)) ggX11_feed_X11_isThread
set_option maxRecDepth 20000 in
theorem ggX11_feed_X11_in : GoodIn wsX11_feed wsX11_in := goodIn_r _ [18] (by decide +kernel) (by decide +kernel)
set_option maxRecDepth 20000 in
theorem gX11_feed_X11_in : GoodIn wsX11_feed (va_wsS RX11 52 yX11_in wsX11_in) := goodIn_app (goodIn_of _ (by decide +kernel)) ggX11_feed_X11_in
set_option maxRecDepth 20000 in
theorem ggX11_feed_Jx4a65c_get_915e3 : GoodIn wsX11_feed wsJx4a65c_get_915e3 := goodIn_r _ [22, 15, 23, 24, 25, 26, 27, 28, 29, 30, 31, 32, 33, 13, 34, 35, 72, 73, 74] (by decide +kernel) (by decide +kernel)
set_option maxRecDepth 20000 in
theorem gX11_feed_Jx4a65c_get_915e3_f101Jx4a65c : GoodIn wsX11_feed (va_wsF RX11 101 RJx4a65c ⟨"java/util/List", "get", "(I)Ljava/lang/Object;"⟩ yJx4a65c_get_915e3 wsJx4a65c_get_915e3) := goodIn_app (goodIn_of _ (by decide +kernel)) ggX11_feed_Jx4a65c_get_915e3
set_option maxRecDepth 20000 in
theorem ggX11_feed_X11_fails : GoodIn wsX11_feed wsX11_fails := goodIn_r _ [39, 40, 41, 42, 43, 44, 45, 46, 47, 48, 49, 50, 51, 52, 53, 54, 55, 56, 57, 58, 59, 60, 61, 62, 63, 64, 65, 66, 67] (by decide +kernel) (by decide +kernel)
set_option maxRecDepth 20000 in
theorem gX11_feed_X11_fails : GoodIn wsX11_feed (wsV RX11 78 RX11 yX11_fails wsX11_fails) := goodIn_app (goodIn_of _ (by decide +kernel)) ggX11_feed_X11_fails
theorem dX11_feed_0 : decode cX11_feed 0 = .ok (.aload_n 0, 1) := by decide +kernel
theorem dX11_feed_1 : decode cX11_feed 1 = .ok (.aload_n 0, 1) := by decide +kernel
theorem dX11_feed_2 : decode cX11_feed 2 = .ok (.iload_n 1, 1) := by decide +kernel
theorem dX11_feed_3 : decode cX11_feed 3 = .ok (.invokevirtual 98, 3) := by decide +kernel
theorem dX11_feed_6 : decode cX11_feed 6 = .ok (.ifCond .ne 7, 3) := by decide +kernel
theorem dX11_feed_9 : decode cX11_feed 9 = .ok (.iconst 1, 1) := by decide +kernel
theorem dX11_feed_10 : decode cX11_feed 10 = .ok (.goto 45, 3) := by decide +kernel
theorem dX11_feed_13 : decode cX11_feed 13 = .ok (.iload_n 2, 1) := by decide +kernel
theorem dX11_feed_14 : decode cX11_feed 14 = .ok (.iconst 1, 1) := by decide +kernel
theorem dX11_feed_15 : decode cX11_feed 15 = .ok (.ldc 94, 2) := by decide +kernel
theorem dX11_feed_17 : decode cX11_feed 17 = .ok (.invokestatic 52, 3) := by decide +kernel
theorem dX11_feed_20 : decode cX11_feed 20 = .ok (.ifCond .ne 7, 3) := by decide +kernel
theorem dX11_feed_23 : decode cX11_feed 23 = .ok (.iconst 2, 1) := by decide +kernel
theorem dX11_feed_24 : decode cX11_feed 24 = .ok (.goto 31, 3) := by decide +kernel
theorem dX11_feed_27 : decode cX11_feed 27 = .ok (.aload_n 0, 1) := by decide +kernel
theorem dX11_feed_28 : decode cX11_feed 28 = .ok (.getfield 16, 3) := by decide +kernel
theorem dX11_feed_31 : decode cX11_feed 31 = .ok (.iload_n 1, 1) := by decide +kernel
theorem dX11_feed_32 : decode cX11_feed 32 = .ok (.invokeinterface 101 2, 5) := by decide +kernel
theorem dX11_feed_37 : decode cX11_feed 37 = .ok (.checkcast 70, 3) := by decide +kernel
theorem dX11_feed_40 : decode cX11_feed 40 = .ok (.getfield 75, 3) := by decide +kernel
theorem dX11_feed_43 : decode cX11_feed 43 = .ok (.iload_n 2, 1) := by decide +kernel
theorem dX11_feed_44 : decode cX11_feed 44 = .ok (.iadd, 1) := by decide +kernel
theorem dX11_feed_45 : decode cX11_feed 45 = .ok (.ldc 105, 2) := by decide +kernel
theorem dX11_feed_47 : decode cX11_feed 47 = .ok (.if_icmp .le 7, 3) := by decide +kernel
theorem dX11_feed_50 : decode cX11_feed 50 = .ok (.iconst 3, 1) := by decide +kernel
theorem dX11_feed_51 : decode cX11_feed 51 = .ok (.goto 4, 3) := by decide +kernel
theorem dX11_feed_54 : decode cX11_feed 54 = .ok (.iconst 0, 1) := by decide +kernel
theorem dX11_feed_55 : decode cX11_feed 55 = .ok (.invokevirtual 78, 3) := by decide +kernel
theorem dX11_feed_58 : decode cX11_feed 58 = .ok (.ifCond .eq 5, 3) := by decide +kernel
theorem dX11_feed_61 : decode cX11_feed 61 = .ok (.iconst 0, 1) := by decide +kernel
theorem dX11_feed_62 : decode cX11_feed 62 = .ok (.ireturn, 1) := by decide +kernel
theorem dX11_feed_63 : decode cX11_feed 63 = .ok (.aload_n 0, 1) := by decide +kernel
theorem dX11_feed_64 : decode cX11_feed 64 = .ok (.getfield 16, 3) := by decide +kernel
theorem dX11_feed_67 : decode cX11_feed 67 = .ok (.iload_n 1, 1) := by decide +kernel
theorem dX11_feed_68 : decode cX11_feed 68 = .ok (.invokeinterface 101 2, 5) := by decide +kernel
theorem dX11_feed_73 : decode cX11_feed 73 = .ok (.checkcast 70, 3) := by decide +kernel
theorem dX11_feed_76 : decode cX11_feed 76 = .ok (.dup, 1) := by decide +kernel
theorem dX11_feed_77 : decode cX11_feed 77 = .ok (.getfield 75, 3) := by decide +kernel
theorem dX11_feed_80 : decode cX11_feed 80 = .ok (.iload_n 2, 1) := by decide +kernel
theorem dX11_feed_81 : decode cX11_feed 81 = .ok (.iadd, 1) := by decide +kernel
theorem dX11_feed_82 : decode cX11_feed 82 = .ok (.putfield 75, 3) := by decide +kernel
theorem dX11_feed_85 : decode cX11_feed 85 = .ok (.aload_n 0, 1) := by decide +kernel
theorem dX11_feed_86 : decode cX11_feed 86 = .ok (.getfield 16, 3) := by decide +kernel
theorem dX11_feed_89 : decode cX11_feed 89 = .ok (.iload_n 1, 1) := by decide +kernel
theorem dX11_feed_90 : decode cX11_feed 90 = .ok (.invokeinterface 101 2, 5) := by decide +kernel
theorem dX11_feed_95 : decode cX11_feed 95 = .ok (.checkcast 70, 3) := by decide +kernel
theorem dX11_feed_98 : decode cX11_feed 98 = .ok (.getfield 75, 3) := by decide +kernel
theorem dX11_feed_101 : decode cX11_feed 101 = .ok (.ireturn, 1) := by decide +kernel
set_option maxRecDepth 20000 in
theorem ggX11_move_X11_isThread : GoodIn wsX11_move wsX11_isThread := goodIn_r _ [7, 1, 8, 9, 10, 11, 12, 13, 14, 15, 6, 16, 44, 45, 46, 47, 48, 49, 50, 51, 52, 53, 54, 55, 56, 57, 58, 59, 60, 61, 62, 63, 64, 65, 66, 67, 68, 69, 70, 75, 76, 77] (by decide +kernel) (by decide +kernel)
set_option maxRecDepth 20000 in
theorem gX11_move_X11_isThread : GoodIn wsX11_move (wsV RX11 98 RX11 yX11_isThread wsX11_isThread) := goodIn_app (goodIn_of _ (by decide +kernel)) ggX11_move_X11_isThread
set_option maxRecDepth 20000 in
theorem ggX11_move_X11_isCore : GoodIn wsX11_move wsX11_isCore := goodIn_r _ [20, 21, 8, 9, 10, 11, 12, 13, 14, 15, 6, 16, 44, 45, 46, 47, 48, 49, 50, 51, 52, 53, 54, 55, 56, 57, 58, 59, 60, 61, 62, 63, 64, 65, 66, 67, 68, 69, 70, 75, 76, 77] (by decide +kernel) (by decide +kernel)
set_option maxRecDepth 20000 in
theorem gX11_move_X11_isCore : GoodIn wsX11_move (wsV RX11 91 RX11 yX11_isCore wsX11_isCore) := goodIn_app (goodIn_of _ (by decide +kernel)) ggX11_move_X11_isCore
set_option maxRecDepth 20000 in
theorem ggX11_move_Jx4a65c_get_915e3 : GoodIn wsX11_move wsJx4a65c_get_915e3 := goodIn_r _ [25, 13, 26, 27, 28, 29, 30, 31, 32, 33, 34, 35, 36, 11, 37, 38, 75, 76, 77] (by decide +kernel) (by decide +kernel)
set_option maxRecDepth 20000 in
theorem gX11_move_Jx4a65c_get_915e3_f101Jx4a65c : GoodIn wsX11_move (va_wsF RX11 101 RJx4a65c ⟨"java/util/List", "get", "(I)Ljava/lang/Object;"⟩ yJx4a65c_get_915e3 wsJx4a65c_get_915e3) := goodIn_app (goodIn_of _ (by decide +kernel)) ggX11_move_Jx4a65c_get_915e3
set_option maxRecDepth 20000 in
theorem ggX11_move_X11_fails : GoodIn wsX11_move wsX11_fails := goodIn_r _ [42, 43, 44, 45, 46, 47, 48, 49, 50, 51, 52, 53, 54, 55, 56, 57, 58, 59, 60, 61, 62, 63, 64, 65, 66, 67, 68, 69, 70] (by decide +kernel) (by decide +kernel)
set_option maxRecDepth 20000 in
theorem gX11_move_X11_fails : GoodIn wsX11_move (wsV RX11 78 RX11 yX11_fails wsX11_fails) := goodIn_app (goodIn_of _ (by decide +kernel)) ggX11_move_X11_fails
theorem dX11_move_0 : decode cX11_move 0 = .ok (.aload_n 0, 1) := by decide +kernel
theorem dX11_move_1 : decode cX11_move 1 = .ok (.aload_n 0, 1) := by decide +kernel
theorem dX11_move_2 : decode cX11_move 2 = .ok (.iload_n 1, 1) := by decide +kernel
theorem dX11_move_3 : decode cX11_move 3 = .ok (.invokevirtual 98, 3) := by decide +kernel
theorem dX11_move_6 : decode cX11_move 6 = .ok (.ifCond .eq 11, 3) := by decide +kernel
theorem dX11_move_9 : decode cX11_move 9 = .ok (.aload_n 0, 1) := by decide +kernel
theorem dX11_move_10 : decode cX11_move 10 = .ok (.iload_n 2, 1) := by decide +kernel
theorem dX11_move_11 : decode cX11_move 11 = .ok (.invokevirtual 91, 3) := by decide +kernel
theorem dX11_move_14 : decode cX11_move 14 = .ok (.ifCond .ne 7, 3) := by decide +kernel
theorem dX11_move_17 : decode cX11_move 17 = .ok (.iconst 1, 1) := by decide +kernel
theorem dX11_move_18 : decode cX11_move 18 = .ok (.goto 28, 3) := by decide +kernel
theorem dX11_move_21 : decode cX11_move 21 = .ok (.aload_n 0, 1) := by decide +kernel
theorem dX11_move_22 : decode cX11_move 22 = .ok (.getfield 16, 3) := by decide +kernel
theorem dX11_move_25 : decode cX11_move 25 = .ok (.iload_n 1, 1) := by decide +kernel
theorem dX11_move_26 : decode cX11_move 26 = .ok (.invokeinterface 101 2, 5) := by decide +kernel
theorem dX11_move_31 : decode cX11_move 31 = .ok (.checkcast 70, 3) := by decide +kernel
theorem dX11_move_34 : decode cX11_move 34 = .ok (.getfield 72, 3) := by decide +kernel
theorem dX11_move_37 : decode cX11_move 37 = .ok (.iload_n 2, 1) := by decide +kernel
theorem dX11_move_38 : decode cX11_move 38 = .ok (.if_icmp .ne 7, 3) := by decide +kernel
theorem dX11_move_41 : decode cX11_move 41 = .ok (.iconst 2, 1) := by decide +kernel
theorem dX11_move_42 : decode cX11_move 42 = .ok (.goto 4, 3) := by decide +kernel
theorem dX11_move_45 : decode cX11_move 45 = .ok (.iconst 0, 1) := by decide +kernel
theorem dX11_move_46 : decode cX11_move 46 = .ok (.invokevirtual 78, 3) := by decide +kernel
theorem dX11_move_49 : decode cX11_move 49 = .ok (.ifCond .eq 5, 3) := by decide +kernel
theorem dX11_move_52 : decode cX11_move 52 = .ok (.iconst 0, 1) := by decide +kernel
theorem dX11_move_53 : decode cX11_move 53 = .ok (.ireturn, 1) := by decide +kernel
theorem dX11_move_54 : decode cX11_move 54 = .ok (.aload_n 0, 1) := by decide +kernel
theorem dX11_move_55 : decode cX11_move 55 = .ok (.getfield 16, 3) := by decide +kernel
theorem dX11_move_58 : decode cX11_move 58 = .ok (.iload_n 1, 1) := by decide +kernel
theorem dX11_move_59 : decode cX11_move 59 = .ok (.invokeinterface 101 2, 5) := by decide +kernel
theorem dX11_move_64 : decode cX11_move 64 = .ok (.checkcast 70, 3) := by decide +kernel
theorem dX11_move_67 : decode cX11_move 67 = .ok (.getfield 72, 3) := by decide +kernel
theorem dX11_move_70 : decode cX11_move 70 = .ok (.istore_n 3, 1) := by decide +kernel
theorem dX11_move_71 : decode cX11_move 71 = .ok (.aload_n 0, 1) := by decide +kernel
theorem dX11_move_72 : decode cX11_move 72 = .ok (.getfield 16, 3) := by decide +kernel
theorem dX11_move_75 : decode cX11_move 75 = .ok (.iload_n 1, 1) := by decide +kernel
theorem dX11_move_76 : decode cX11_move 76 = .ok (.invokeinterface 101 2, 5) := by decide +kernel
theorem dX11_move_81 : decode cX11_move 81 = .ok (.checkcast 70, 3) := by decide +kernel
theorem dX11_move_84 : decode cX11_move 84 = .ok (.iload_n 2, 1) := by decide +kernel
theorem dX11_move_85 : decode cX11_move 85 = .ok (.putfield 72, 3) := by decide +kernel
theorem dX11_move_88 : decode cX11_move 88 = .ok (.aload_n 0, 1) := by decide +kernel
theorem dX11_move_89 : decode cX11_move 89 = .ok (.getfield 16, 3) := by decide +kernel
theorem dX11_move_92 : decode cX11_move 92 = .ok (.iload_n 1, 1) := by decide +kernel
theorem dX11_move_93 : decode cX11_move 93 = .ok (.invokeinterface 101 2, 5) := by decide +kernel
theorem dX11_move_98 : decode cX11_move 98 = .ok (.checkcast 70, 3) := by decide +kernel
theorem dX11_move_101 : decode cX11_move 101 = .ok (.iconst 5, 1) := by decide +kernel
theorem dX11_move_102 : decode cX11_move 102 = .ok (.putfield 106, 3) := by decide +kernel
theorem dX11_move_105 : decode cX11_move 105 = .ok (.iload_n 3, 1) := by decide +kernel
theorem dX11_move_106 : decode cX11_move 106 = .ok (.ireturn, 1) := by decide +kernel
set_option maxRecDepth 20000 in
theorem ggX11_governor_X11_in : GoodIn wsX11_governor wsX11_in := goodIn_r _ [6] (by decide +kernel) (by decide +kernel)
set_option maxRecDepth 20000 in
theorem gX11_governor_X11_in : GoodIn wsX11_governor (va_wsS RX11 52 yX11_in wsX11_in) := goodIn_app (goodIn_of _ (by decide +kernel)) ggX11_governor_X11_in
set_option maxRecDepth 20000 in
theorem ggX11_governor_X11_isCore : GoodIn wsX11_governor wsX11_isCore := goodIn_r _ [10, 1, 11, 12, 13, 14, 15, 16, 3, 4, 5, 6, 39, 40, 41, 42, 43, 44, 45, 46, 47, 48, 49, 50, 51, 52, 53, 54, 55, 56, 57, 58, 59, 60, 61, 62, 63, 64, 65, 85, 86, 87] (by decide +kernel) (by decide +kernel)
set_option maxRecDepth 20000 in
theorem gX11_governor_X11_isCore : GoodIn wsX11_governor (wsV RX11 91 RX11 yX11_isCore wsX11_isCore) := goodIn_app (goodIn_of _ (by decide +kernel)) ggX11_governor_X11_isCore
set_option maxRecDepth 20000 in
theorem ggX11_governor_X11_fails : GoodIn wsX11_governor wsX11_fails := goodIn_r _ [20, 21, 39, 40, 41, 42, 43, 44, 45, 46, 47, 48, 49, 50, 51, 52, 53, 54, 55, 56, 57, 58, 59, 60, 61, 62, 63, 64, 65] (by decide +kernel) (by decide +kernel)
set_option maxRecDepth 20000 in
theorem gX11_governor_X11_fails : GoodIn wsX11_governor (wsV RX11 78 RX11 yX11_fails wsX11_fails) := goodIn_app (goodIn_of _ (by decide +kernel)) ggX11_governor_X11_fails
set_option maxRecDepth 20000 in
theorem ggX11_governor_Jx4a65c_get_915e3 : GoodIn wsX11_governor wsJx4a65c_get_915e3 := goodIn_r _ [25, 16, 26, 27, 28, 29, 30, 31, 32, 33, 34, 35, 36, 14, 37, 38, 85, 86, 87] (by decide +kernel) (by decide +kernel)
set_option maxRecDepth 20000 in
theorem gX11_governor_Jx4a65c_get_915e3_f101Jx4a65c : GoodIn wsX11_governor (va_wsF RX11 101 RJx4a65c ⟨"java/util/List", "get", "(I)Ljava/lang/Object;"⟩ yJx4a65c_get_915e3 wsJx4a65c_get_915e3) := goodIn_app (goodIn_of _ (by decide +kernel)) ggX11_governor_Jx4a65c_get_915e3
theorem dX11_governor_0 : decode cX11_governor 0 = .ok (.iload_n 2, 1) := by decide +kernel
theorem dX11_governor_1 : decode cX11_governor 1 = .ok (.bipush 108, 2) := by decide +kernel
theorem dX11_governor_3 : decode cX11_governor 3 = .ok (.if_icmp .eq 25, 3) := by decide +kernel
theorem dX11_governor_6 : decode cX11_governor 6 = .ok (.iload_n 2, 1) := by decide +kernel
theorem dX11_governor_7 : decode cX11_governor 7 = .ok (.bipush 119, 2) := by decide +kernel
theorem dX11_governor_9 : decode cX11_governor 9 = .ok (.if_icmp .eq 19, 3) := by decide +kernel
theorem dX11_governor_12 : decode cX11_governor 12 = .ok (.iload_n 2, 1) := by decide +kernel
theorem dX11_governor_13 : decode cX11_governor 13 = .ok (.bipush 102, 2) := by decide +kernel
theorem dX11_governor_15 : decode cX11_governor 15 = .ok (.if_icmp .ne 17, 3) := by decide +kernel
theorem dX11_governor_18 : decode cX11_governor 18 = .ok (.iload_n 3, 1) := by decide +kernel
theorem dX11_governor_19 : decode cX11_governor 19 = .ok (.iconst 0, 1) := by decide +kernel
theorem dX11_governor_20 : decode cX11_governor 20 = .ok (.bipush 7, 2) := by decide +kernel
theorem dX11_governor_22 : decode cX11_governor 22 = .ok (.invokestatic 52, 3) := by decide +kernel
theorem dX11_governor_25 : decode cX11_governor 25 = .ok (.ifCond .eq 7, 3) := by decide +kernel
theorem dX11_governor_28 : decode cX11_governor 28 = .ok (.iconst 1, 1) := by decide +kernel
theorem dX11_governor_29 : decode cX11_governor 29 = .ok (.goto 4, 3) := by decide +kernel
theorem dX11_governor_32 : decode cX11_governor 32 = .ok (.iconst 0, 1) := by decide +kernel
theorem dX11_governor_33 : decode cX11_governor 33 = .ok (.istore 4, 2) := by decide +kernel
theorem dX11_governor_35 : decode cX11_governor 35 = .ok (.aload_n 0, 1) := by decide +kernel
theorem dX11_governor_36 : decode cX11_governor 36 = .ok (.aload_n 0, 1) := by decide +kernel
theorem dX11_governor_37 : decode cX11_governor 37 = .ok (.iload_n 1, 1) := by decide +kernel
theorem dX11_governor_38 : decode cX11_governor 38 = .ok (.invokevirtual 91, 3) := by decide +kernel
theorem dX11_governor_41 : decode cX11_governor 41 = .ok (.ifCond .ne 7, 3) := by decide +kernel
theorem dX11_governor_44 : decode cX11_governor 44 = .ok (.iconst 1, 1) := by decide +kernel
theorem dX11_governor_45 : decode cX11_governor 45 = .ok (.goto 13, 3) := by decide +kernel
theorem dX11_governor_48 : decode cX11_governor 48 = .ok (.iload 4, 2) := by decide +kernel
theorem dX11_governor_50 : decode cX11_governor 50 = .ok (.ifCond .eq 7, 3) := by decide +kernel
theorem dX11_governor_53 : decode cX11_governor 53 = .ok (.iconst 0, 1) := by decide +kernel
theorem dX11_governor_54 : decode cX11_governor 54 = .ok (.goto 4, 3) := by decide +kernel
theorem dX11_governor_57 : decode cX11_governor 57 = .ok (.iconst 2, 1) := by decide +kernel
theorem dX11_governor_58 : decode cX11_governor 58 = .ok (.invokevirtual 78, 3) := by decide +kernel
theorem dX11_governor_61 : decode cX11_governor 61 = .ok (.ifCond .eq 6, 3) := by decide +kernel
theorem dX11_governor_64 : decode cX11_governor 64 = .ok (.bipush 32, 2) := by decide +kernel
theorem dX11_governor_66 : decode cX11_governor 66 = .ok (.ireturn, 1) := by decide +kernel
theorem dX11_governor_67 : decode cX11_governor 67 = .ok (.aload_n 0, 1) := by decide +kernel
theorem dX11_governor_68 : decode cX11_governor 68 = .ok (.getfield 10, 3) := by decide +kernel
theorem dX11_governor_71 : decode cX11_governor 71 = .ok (.iload_n 1, 1) := by decide +kernel
theorem dX11_governor_72 : decode cX11_governor 72 = .ok (.invokeinterface 101 2, 5) := by decide +kernel
theorem dX11_governor_77 : decode cX11_governor 77 = .ok (.checkcast 82, 3) := by decide +kernel
theorem dX11_governor_80 : decode cX11_governor 80 = .ok (.getfield 109, 3) := by decide +kernel
theorem dX11_governor_83 : decode cX11_governor 83 = .ok (.istore 5, 2) := by decide +kernel
theorem dX11_governor_85 : decode cX11_governor 85 = .ok (.aload_n 0, 1) := by decide +kernel
theorem dX11_governor_86 : decode cX11_governor 86 = .ok (.getfield 10, 3) := by decide +kernel
theorem dX11_governor_89 : decode cX11_governor 89 = .ok (.iload_n 1, 1) := by decide +kernel
theorem dX11_governor_90 : decode cX11_governor 90 = .ok (.invokeinterface 101 2, 5) := by decide +kernel
theorem dX11_governor_95 : decode cX11_governor 95 = .ok (.checkcast 82, 3) := by decide +kernel
theorem dX11_governor_98 : decode cX11_governor 98 = .ok (.iload_n 2, 1) := by decide +kernel
theorem dX11_governor_99 : decode cX11_governor 99 = .ok (.putfield 109, 3) := by decide +kernel
theorem dX11_governor_102 : decode cX11_governor 102 = .ok (.aload_n 0, 1) := by decide +kernel
theorem dX11_governor_103 : decode cX11_governor 103 = .ok (.getfield 10, 3) := by decide +kernel
theorem dX11_governor_106 : decode cX11_governor 106 = .ok (.iload_n 1, 1) := by decide +kernel
theorem dX11_governor_107 : decode cX11_governor 107 = .ok (.invokeinterface 101 2, 5) := by decide +kernel
theorem dX11_governor_112 : decode cX11_governor 112 = .ok (.checkcast 82, 3) := by decide +kernel
theorem dX11_governor_115 : decode cX11_governor 115 = .ok (.iload_n 2, 1) := by decide +kernel
theorem dX11_governor_116 : decode cX11_governor 116 = .ok (.bipush 102, 2) := by decide +kernel
theorem dX11_governor_118 : decode cX11_governor 118 = .ok (.if_icmp .ne 7, 3) := by decide +kernel
theorem dX11_governor_121 : decode cX11_governor 121 = .ok (.iload_n 3, 1) := by decide +kernel
theorem dX11_governor_122 : decode cX11_governor 122 = .ok (.goto 4, 3) := by decide +kernel
theorem dX11_governor_125 : decode cX11_governor 125 = .ok (.iconst 0, 1) := by decide +kernel
theorem dX11_governor_126 : decode cX11_governor 126 = .ok (.putfield 112, 3) := by decide +kernel
theorem dX11_governor_129 : decode cX11_governor 129 = .ok (.iload 5, 2) := by decide +kernel
theorem dX11_governor_131 : decode cX11_governor 131 = .ok (.ireturn, 1) := by decide +kernel
set_option maxRecDepth 20000 in
theorem ggX11_work_X11_isThread : GoodIn wsX11_work wsX11_isThread := goodIn_r _ [7, 1, 8, 9, 10, 11, 12, 13, 14, 15, 6, 16, 39, 40, 41, 42, 43, 44, 45, 46, 47, 48, 49, 50, 51, 52, 53, 54, 55, 56, 57, 58, 59, 60, 61, 62, 63, 64, 65, 70, 71, 72] (by decide +kernel) (by decide +kernel)
set_option maxRecDepth 20000 in
theorem gX11_work_X11_isThread : GoodIn wsX11_work (wsV RX11 98 RX11 yX11_isThread wsX11_isThread) := goodIn_app (goodIn_of _ (by decide +kernel)) ggX11_work_X11_isThread
set_option maxRecDepth 20000 in
theorem ggX11_work_X11_fails : GoodIn wsX11_work wsX11_fails := goodIn_r _ [20, 21, 39, 40, 41, 42, 43, 44, 45, 46, 47, 48, 49, 50, 51, 52, 53, 54, 55, 56, 57, 58, 59, 60, 61, 62, 63, 64, 65] (by decide +kernel) (by decide +kernel)
set_option maxRecDepth 20000 in
theorem gX11_work_X11_fails : GoodIn wsX11_work (wsV RX11 78 RX11 yX11_fails wsX11_fails) := goodIn_app (goodIn_of _ (by decide +kernel)) ggX11_work_X11_fails
set_option maxRecDepth 20000 in
theorem ggX11_work_Jx4a65c_get_915e3 : GoodIn wsX11_work wsJx4a65c_get_915e3 := goodIn_r _ [25, 13, 26, 27, 28, 29, 30, 31, 32, 33, 34, 35, 36, 11, 37, 38, 70, 71, 72] (by decide +kernel) (by decide +kernel)
set_option maxRecDepth 20000 in
theorem gX11_work_Jx4a65c_get_915e3_f101Jx4a65c : GoodIn wsX11_work (va_wsF RX11 101 RJx4a65c ⟨"java/util/List", "get", "(I)Ljava/lang/Object;"⟩ yJx4a65c_get_915e3 wsJx4a65c_get_915e3) := goodIn_app (goodIn_of _ (by decide +kernel)) ggX11_work_Jx4a65c_get_915e3
theorem dX11_work_0 : decode cX11_work 0 = .ok (.aload_n 0, 1) := by decide +kernel
theorem dX11_work_1 : decode cX11_work 1 = .ok (.aload_n 0, 1) := by decide +kernel
theorem dX11_work_2 : decode cX11_work 2 = .ok (.iload_n 1, 1) := by decide +kernel
theorem dX11_work_3 : decode cX11_work 3 = .ok (.invokevirtual 98, 3) := by decide +kernel
theorem dX11_work_6 : decode cX11_work 6 = .ok (.ifCond .eq 7, 3) := by decide +kernel
theorem dX11_work_9 : decode cX11_work 9 = .ok (.iconst 0, 1) := by decide +kernel
theorem dX11_work_10 : decode cX11_work 10 = .ok (.goto 4, 3) := by decide +kernel
theorem dX11_work_13 : decode cX11_work 13 = .ok (.iconst 1, 1) := by decide +kernel
theorem dX11_work_14 : decode cX11_work 14 = .ok (.invokevirtual 78, 3) := by decide +kernel
theorem dX11_work_17 : decode cX11_work 17 = .ok (.ifCond .eq 7, 3) := by decide +kernel
theorem dX11_work_20 : decode cX11_work 20 = .ok (.iconst 0, 1) := by decide +kernel
theorem dX11_work_21 : decode cX11_work 21 = .ok (.goto 19, 3) := by decide +kernel
theorem dX11_work_24 : decode cX11_work 24 = .ok (.aload_n 0, 1) := by decide +kernel
theorem dX11_work_25 : decode cX11_work 25 = .ok (.getfield 16, 3) := by decide +kernel
theorem dX11_work_28 : decode cX11_work 28 = .ok (.iload_n 1, 1) := by decide +kernel
theorem dX11_work_29 : decode cX11_work 29 = .ok (.invokeinterface 101 2, 5) := by decide +kernel
theorem dX11_work_34 : decode cX11_work 34 = .ok (.checkcast 70, 3) := by decide +kernel
theorem dX11_work_37 : decode cX11_work 37 = .ok (.getfield 75, 3) := by decide +kernel
theorem dX11_work_40 : decode cX11_work 40 = .ok (.ireturn, 1) := by decide +kernel
set_option maxRecDepth 20000 in
theorem ggX11_isCold_X11_isThread : GoodIn wsX11_isCold wsX11_isThread := goodIn_r _ [7, 1, 8, 9, 10, 11, 12, 13, 14, 15, 6, 16, 39, 40, 41, 42, 43, 44, 45, 46, 47, 48, 49, 50, 51, 52, 53, 54, 55, 56, 57, 58, 59, 60, 61, 62, 63, 64, 65, 70, 71, 72] (by decide +kernel) (by decide +kernel)
set_option maxRecDepth 20000 in
theorem gX11_isCold_X11_isThread : GoodIn wsX11_isCold (wsV RX11 98 RX11 yX11_isThread wsX11_isThread) := goodIn_app (goodIn_of _ (by decide +kernel)) ggX11_isCold_X11_isThread
set_option maxRecDepth 20000 in
theorem ggX11_isCold_X11_fails : GoodIn wsX11_isCold wsX11_fails := goodIn_r _ [20, 21, 39, 40, 41, 42, 43, 44, 45, 46, 47, 48, 49, 50, 51, 52, 53, 54, 55, 56, 57, 58, 59, 60, 61, 62, 63, 64, 65] (by decide +kernel) (by decide +kernel)
set_option maxRecDepth 20000 in
theorem gX11_isCold_X11_fails : GoodIn wsX11_isCold (wsV RX11 78 RX11 yX11_fails wsX11_fails) := goodIn_app (goodIn_of _ (by decide +kernel)) ggX11_isCold_X11_fails
set_option maxRecDepth 20000 in
theorem ggX11_isCold_Jx4a65c_get_915e3 : GoodIn wsX11_isCold wsJx4a65c_get_915e3 := goodIn_r _ [25, 13, 26, 27, 28, 29, 30, 31, 32, 33, 34, 35, 36, 11, 37, 38, 70, 71, 72] (by decide +kernel) (by decide +kernel)
set_option maxRecDepth 20000 in
theorem gX11_isCold_Jx4a65c_get_915e3_f101Jx4a65c : GoodIn wsX11_isCold (va_wsF RX11 101 RJx4a65c ⟨"java/util/List", "get", "(I)Ljava/lang/Object;"⟩ yJx4a65c_get_915e3 wsJx4a65c_get_915e3) := goodIn_app (goodIn_of _ (by decide +kernel)) ggX11_isCold_Jx4a65c_get_915e3
theorem dX11_isCold_0 : decode cX11_isCold 0 = .ok (.aload_n 0, 1) := by decide +kernel
theorem dX11_isCold_1 : decode cX11_isCold 1 = .ok (.aload_n 0, 1) := by decide +kernel
theorem dX11_isCold_2 : decode cX11_isCold 2 = .ok (.iload_n 1, 1) := by decide +kernel
theorem dX11_isCold_3 : decode cX11_isCold 3 = .ok (.invokevirtual 98, 3) := by decide +kernel
theorem dX11_isCold_6 : decode cX11_isCold 6 = .ok (.ifCond .eq 7, 3) := by decide +kernel
theorem dX11_isCold_9 : decode cX11_isCold 9 = .ok (.iconst 0, 1) := by decide +kernel
theorem dX11_isCold_10 : decode cX11_isCold 10 = .ok (.goto 4, 3) := by decide +kernel
theorem dX11_isCold_13 : decode cX11_isCold 13 = .ok (.iconst 1, 1) := by decide +kernel
theorem dX11_isCold_14 : decode cX11_isCold 14 = .ok (.invokevirtual 78, 3) := by decide +kernel
theorem dX11_isCold_17 : decode cX11_isCold 17 = .ok (.ifCond .ne 26, 3) := by decide +kernel
theorem dX11_isCold_20 : decode cX11_isCold 20 = .ok (.aload_n 0, 1) := by decide +kernel
theorem dX11_isCold_21 : decode cX11_isCold 21 = .ok (.getfield 16, 3) := by decide +kernel
theorem dX11_isCold_24 : decode cX11_isCold 24 = .ok (.iload_n 1, 1) := by decide +kernel
theorem dX11_isCold_25 : decode cX11_isCold 25 = .ok (.invokeinterface 101 2, 5) := by decide +kernel
theorem dX11_isCold_30 : decode cX11_isCold 30 = .ok (.checkcast 70, 3) := by decide +kernel
theorem dX11_isCold_33 : decode cX11_isCold 33 = .ok (.getfield 106, 3) := by decide +kernel
theorem dX11_isCold_36 : decode cX11_isCold 36 = .ok (.ifCond .le 7, 3) := by decide +kernel
theorem dX11_isCold_39 : decode cX11_isCold 39 = .ok (.iconst 1, 1) := by decide +kernel
theorem dX11_isCold_40 : decode cX11_isCold 40 = .ok (.goto 4, 3) := by decide +kernel
theorem dX11_isCold_43 : decode cX11_isCold 43 = .ok (.iconst 0, 1) := by decide +kernel
theorem dX11_isCold_44 : decode cX11_isCold 44 = .ok (.ireturn, 1) := by decide +kernel
set_option maxRecDepth 20000 in
theorem ggX11_pass_X11_in : GoodIn wsX11_pass wsX11_in := goodIn_r _ [5] (by decide +kernel) (by decide +kernel)
set_option maxRecDepth 20000 in
theorem gX11_pass_X11_in : GoodIn wsX11_pass (va_wsS RX11 52 yX11_in wsX11_in) := goodIn_app (goodIn_of _ (by decide +kernel)) ggX11_pass_X11_in
set_option maxRecDepth 20000 in
theorem ggX11_pass_X11_fails : GoodIn wsX11_pass wsX11_fails := goodIn_r _ [9, 10, 195, 196, 197, 198, 199, 200, 201, 202, 203, 204, 205, 206, 207, 208, 209, 210, 211, 212, 213, 214, 215, 216, 217, 218, 219, 220, 221] (by decide +kernel) (by decide +kernel)
set_option maxRecDepth 20000 in
theorem gX11_pass_X11_fails : GoodIn wsX11_pass (wsV RX11 78 RX11 yX11_fails wsX11_fails) := goodIn_app (goodIn_of _ (by decide +kernel)) ggX11_pass_X11_fails
set_option maxRecDepth 20000 in
theorem ggX11_pass_X11_tick_c0 : GoodIn wsX11_pass (wsX11_tick.take 30) := goodIn_r _ [14, 1, 15, 16, 17, 18, 19, 20, 21, 22, 23, 24, 25, 26, 27, 28, 29, 30, 31, 32, 33, 34, 35, 36, 37, 38, 39, 40, 41, 42] (by decide +kernel) (by decide +kernel)
set_option maxRecDepth 20000 in
theorem ggX11_pass_X11_tick_c1 : GoodIn wsX11_pass ((wsX11_tick.drop 30).take 30) := goodIn_r _ [43, 44, 45, 46, 47, 48, 49, 50, 51, 52, 53, 54, 55, 56, 4, 57, 58, 59, 60, 61, 62, 63, 64, 65, 66, 67, 68, 69, 70, 71] (by decide +kernel) (by decide +kernel)
set_option maxRecDepth 20000 in
theorem ggX11_pass_X11_tick_c2 : GoodIn wsX11_pass (((wsX11_tick.drop 30).drop 30).take 30) := goodIn_r _ [72, 73, 74, 75, 76, 77, 78, 79, 80, 81, 82, 83, 84, 85, 86, 87, 88, 89, 90, 91, 92, 93, 94, 95, 96, 97, 98, 99, 100, 101] (by decide +kernel) (by decide +kernel)
set_option maxRecDepth 20000 in
theorem ggX11_pass_X11_tick_c3 : GoodIn wsX11_pass ((((wsX11_tick.drop 30).drop 30).drop 30).take 30) := goodIn_r _ [102, 103, 104, 105, 106, 107, 108, 109, 110, 111, 112, 113, 114, 115, 116, 117, 118, 119, 120, 121, 122, 123, 124, 125, 126, 127, 128, 129, 130, 131] (by decide +kernel) (by decide +kernel)
set_option maxRecDepth 20000 in
theorem ggX11_pass_X11_tick_c4 : GoodIn wsX11_pass (((((wsX11_tick.drop 30).drop 30).drop 30).drop 30).take 30) := goodIn_r _ [132, 133, 134, 135, 136, 137, 138, 139, 140, 141, 142, 143, 144, 145, 146, 147, 148, 149, 150, 151, 152, 153, 154, 155, 156, 157, 158, 159, 160, 161] (by decide +kernel) (by decide +kernel)
set_option maxRecDepth 20000 in
theorem ggX11_pass_X11_tick_c5 : GoodIn wsX11_pass ((((((wsX11_tick.drop 30).drop 30).drop 30).drop 30).drop 30).take 30) := goodIn_r _ [162, 163, 164, 165, 166, 167, 168, 169, 170, 171, 172, 173, 174, 175, 176, 177, 178, 179, 180, 181, 182, 183, 184, 185, 186, 187, 188, 189, 190, 191] (by decide +kernel) (by decide +kernel)
set_option maxRecDepth 20000 in
theorem ggX11_pass_X11_tick_c6 : GoodIn wsX11_pass (((((((wsX11_tick.drop 30).drop 30).drop 30).drop 30).drop 30).drop 30).take 30) := goodIn_r _ [192, 193, 194, 195, 196, 197, 198, 199, 200, 201, 202, 203, 204, 205, 206, 207, 208, 209, 210, 211, 212, 213, 214, 215, 216, 217, 218, 219, 220, 221] (by decide +kernel) (by decide +kernel)
set_option maxRecDepth 20000 in
theorem ggX11_pass_X11_tick_c7 : GoodIn wsX11_pass (((((((wsX11_tick.drop 30).drop 30).drop 30).drop 30).drop 30).drop 30).drop 30) := goodIn_r _ [222, 223, 224, 225, 226, 227, 228, 229, 230, 231, 232, 233, 234, 235, 236, 237, 238, 239, 240, 241, 242, 243, 244, 245, 246, 247, 248, 249, 250, 251] (by decide +kernel) (by decide +kernel)
theorem ggX11_pass_X11_tick : GoodIn wsX11_pass wsX11_tick := (goodIn_td 30 ggX11_pass_X11_tick_c0 (goodIn_td 30 ggX11_pass_X11_tick_c1 (goodIn_td 30 ggX11_pass_X11_tick_c2 (goodIn_td 30 ggX11_pass_X11_tick_c3 (goodIn_td 30 ggX11_pass_X11_tick_c4 (goodIn_td 30 ggX11_pass_X11_tick_c5 (goodIn_td 30 ggX11_pass_X11_tick_c6 ggX11_pass_X11_tick_c7)))))))
set_option maxRecDepth 20000 in
theorem gX11_pass_X11_tick : GoodIn wsX11_pass (wsV RX11 118 RX11 yX11_tick wsX11_tick) := goodIn_app (goodIn_of _ (by decide +kernel)) ggX11_pass_X11_tick
theorem dX11_pass_0 : decode cX11_pass 0 = .ok (.aload_n 0, 1) := by decide +kernel
theorem dX11_pass_1 : decode cX11_pass 1 = .ok (.iload_n 1, 1) := by decide +kernel
theorem dX11_pass_2 : decode cX11_pass 2 = .ok (.iconst 1, 1) := by decide +kernel
theorem dX11_pass_3 : decode cX11_pass 3 = .ok (.bipush 100, 2) := by decide +kernel
theorem dX11_pass_5 : decode cX11_pass 5 = .ok (.invokestatic 52, 3) := by decide +kernel
theorem dX11_pass_8 : decode cX11_pass 8 = .ok (.ifCond .ne 7, 3) := by decide +kernel
theorem dX11_pass_11 : decode cX11_pass 11 = .ok (.iconst 1, 1) := by decide +kernel
theorem dX11_pass_12 : decode cX11_pass 12 = .ok (.goto 20, 3) := by decide +kernel
theorem dX11_pass_15 : decode cX11_pass 15 = .ok (.aload_n 0, 1) := by decide +kernel
theorem dX11_pass_16 : decode cX11_pass 16 = .ok (.getfield 115, 3) := by decide +kernel
theorem dX11_pass_19 : decode cX11_pass 19 = .ok (.iload_n 1, 1) := by decide +kernel
theorem dX11_pass_20 : decode cX11_pass 20 = .ok (.iadd, 1) := by decide +kernel
theorem dX11_pass_21 : decode cX11_pass 21 = .ok (.sipush 9999, 3) := by decide +kernel
theorem dX11_pass_24 : decode cX11_pass 24 = .ok (.if_icmp .le 7, 3) := by decide +kernel
theorem dX11_pass_27 : decode cX11_pass 27 = .ok (.iconst 2, 1) := by decide +kernel
theorem dX11_pass_28 : decode cX11_pass 28 = .ok (.goto 4, 3) := by decide +kernel
theorem dX11_pass_31 : decode cX11_pass 31 = .ok (.iconst 0, 1) := by decide +kernel
theorem dX11_pass_32 : decode cX11_pass 32 = .ok (.invokevirtual 78, 3) := by decide +kernel
theorem dX11_pass_35 : decode cX11_pass 35 = .ok (.ifCond .eq 5, 3) := by decide +kernel
theorem dX11_pass_38 : decode cX11_pass 38 = .ok (.iconst 0, 1) := by decide +kernel
theorem dX11_pass_39 : decode cX11_pass 39 = .ok (.ireturn, 1) := by decide +kernel
theorem dX11_pass_40 : decode cX11_pass 40 = .ok (.iconst 0, 1) := by decide +kernel
theorem dX11_pass_41 : decode cX11_pass 41 = .ok (.istore_n 2, 1) := by decide +kernel
theorem dX11_pass_42 : decode cX11_pass 42 = .ok (.iload_n 2, 1) := by decide +kernel
theorem dX11_pass_43 : decode cX11_pass 43 = .ok (.iload_n 1, 1) := by decide +kernel
theorem dX11_pass_44 : decode cX11_pass 44 = .ok (.if_icmp .ge 13, 3) := by decide +kernel
theorem dX11_pass_47 : decode cX11_pass 47 = .ok (.aload_n 0, 1) := by decide +kernel
theorem dX11_pass_48 : decode cX11_pass 48 = .ok (.invokevirtual 118, 3) := by decide +kernel
theorem dX11_pass_51 : decode cX11_pass 51 = .ok (.iinc 2 1, 3) := by decide +kernel
theorem dX11_pass_54 : decode cX11_pass 54 = .ok (.goto (-12), 3) := by decide +kernel
theorem dX11_pass_57 : decode cX11_pass 57 = .ok (.aload_n 0, 1) := by decide +kernel
theorem dX11_pass_58 : decode cX11_pass 58 = .ok (.getfield 115, 3) := by decide +kernel
theorem dX11_pass_61 : decode cX11_pass 61 = .ok (.ireturn, 1) := by decide +kernel
set_option maxRecDepth 20000 in
theorem ggX11_tick_Jx4a65c_size_8abf5 : GoodIn wsX11_tick wsJx4a65c_size_8abf5 := goodIn_r _ [13, 14, 229, 230, 231] (by decide +kernel) (by decide +kernel)
set_option maxRecDepth 20000 in
theorem gX11_tick_Jx4a65c_size_8abf5_f46Jx4a65c : GoodIn wsX11_tick (va_wsF RX11 46 RJx4a65c ⟨"java/util/List", "size", "()I"⟩ yJx4a65c_size_8abf5 wsJx4a65c_size_8abf5) := goodIn_app (goodIn_of _ (by decide +kernel)) ggX11_tick_Jx4a65c_size_8abf5
set_option maxRecDepth 20000 in
theorem ggX11_tick_Jx4a65c_get_915e3 : GoodIn wsX11_tick wsJx4a65c_get_915e3 := goodIn_r _ [18, 14, 19, 20, 21, 22, 23, 24, 25, 26, 27, 28, 29, 12, 30, 31, 229, 230, 231] (by decide +kernel) (by decide +kernel)
set_option maxRecDepth 20000 in
theorem gX11_tick_Jx4a65c_get_915e3_f101Jx4a65c : GoodIn wsX11_tick (va_wsF RX11 101 RJx4a65c ⟨"java/util/List", "get", "(I)Ljava/lang/Object;"⟩ yJx4a65c_get_915e3 wsJx4a65c_get_915e3) := goodIn_app (goodIn_of _ (by decide +kernel)) ggX11_tick_Jx4a65c_get_915e3
set_option maxRecDepth 20000 in
theorem ggX11_tick_X9_degrees : GoodIn wsX11_tick wsX9_degrees := goodIn_r _ [35, 36, 210, 211, 212, 213, 214, 215, 216, 217, 218, 219, 220, 221, 222, 223, 224, 225, 226, 227, 228] (by decide +kernel) (by decide +kernel)
set_option maxRecDepth 20000 in
theorem gX11_tick_X9_degrees_n133 : GoodIn wsX11_tick (wsX9_degrees) := ggX11_tick_X9_degrees
set_option maxRecDepth 20000 in
theorem ggX11_tick_J9_floorMod_7cf53 : GoodIn wsX11_tick wsJ9_floorMod_7cf53 := goodIn_r _ [40] (by decide +kernel) (by decide +kernel)
set_option maxRecDepth 20000 in
theorem gX11_tick_J9_floorMod_7cf53 : GoodIn wsX11_tick (va_wsS RX11 135 yJ9_floorMod_7cf53 wsJ9_floorMod_7cf53) := goodIn_app (goodIn_of _ (by decide +kernel)) ggX11_tick_J9_floorMod_7cf53
set_option maxRecDepth 20000 in
theorem ggX11_tick_X11_sleeps_c0 : GoodIn wsX11_tick (wsX11_sleeps.take 30) := goodIn_r _ [45, 6, 7, 46, 47, 48, 49, 50, 51, 52, 9, 10, 11, 12, 13, 14, 15, 16, 17, 18, 19, 20, 21, 22, 23, 24, 25, 26, 27, 28] (by decide +kernel) (by decide +kernel)
set_option maxRecDepth 20000 in
theorem ggX11_tick_X11_sleeps_c1 : GoodIn wsX11_tick ((wsX11_sleeps.drop 30).take 30) := goodIn_r _ [29, 30, 31, 53, 54, 55, 44, 56, 57, 58, 59, 60, 61, 62, 63, 64, 65, 66, 67, 68, 69, 70, 71, 72, 73, 74, 75, 76, 77, 78] (by decide +kernel) (by decide +kernel)
set_option maxRecDepth 20000 in
theorem ggX11_tick_X11_sleeps_c2 : GoodIn wsX11_tick (((wsX11_sleeps.drop 30).drop 30).take 30) := goodIn_r _ [79, 80, 81, 82, 83, 84, 85, 86, 87, 88, 89, 90, 91, 92, 93, 94, 95, 96, 97, 98, 183, 184, 185, 186, 187, 188, 189, 190, 191, 192] (by decide +kernel) (by decide +kernel)
set_option maxRecDepth 20000 in
theorem ggX11_tick_X11_sleeps_c3 : GoodIn wsX11_tick ((((wsX11_sleeps.drop 30).drop 30).drop 30).take 30) := goodIn_r _ [193, 194, 195, 196, 197, 198, 199, 200, 201, 202, 203, 204, 205, 206, 207, 208, 209, 210, 211, 212, 213, 214, 215, 216, 217, 218, 219, 220, 221, 222] (by decide +kernel) (by decide +kernel)
set_option maxRecDepth 20000 in
theorem ggX11_tick_X11_sleeps_c4 : GoodIn wsX11_tick ((((wsX11_sleeps.drop 30).drop 30).drop 30).drop 30) := goodIn_r _ [223, 224, 225, 226, 227, 228, 229, 230, 231, 232, 233, 234, 235, 236, 237, 238, 239] (by decide +kernel) (by decide +kernel)
theorem ggX11_tick_X11_sleeps : GoodIn wsX11_tick wsX11_sleeps := (goodIn_td 30 ggX11_tick_X11_sleeps_c0 (goodIn_td 30 ggX11_tick_X11_sleeps_c1 (goodIn_td 30 ggX11_tick_X11_sleeps_c2 (goodIn_td 30 ggX11_tick_X11_sleeps_c3 ggX11_tick_X11_sleeps_c4))))
set_option maxRecDepth 20000 in
theorem gX11_tick_X11_sleeps : GoodIn wsX11_tick (wsV RX11 151 RX11 yX11_sleeps wsX11_sleeps) := goodIn_app (goodIn_of _ (by decide +kernel)) ggX11_tick_X11_sleeps
set_option maxRecDepth 20000 in
theorem ggX11_tick_X11_wishes_c0 : GoodIn wsX11_tick (wsX11_wishes.take 30) := goodIn_r _ [102, 6, 7, 103, 104, 105, 3, 5, 46, 47, 48, 49, 59, 60, 61, 12, 62, 63, 64, 65, 66, 67, 68, 69, 70, 71, 72, 73, 74, 75] (by decide +kernel) (by decide +kernel)
set_option maxRecDepth 20000 in
theorem ggX11_tick_X11_wishes_c1 : GoodIn wsX11_tick ((wsX11_wishes.drop 30).take 30) := goodIn_r _ [76, 77, 78, 79, 80, 81, 82, 83, 84, 85, 86, 87, 88, 89, 90, 106, 33, 107, 108, 109, 110, 111, 112, 113, 114, 115, 116, 117, 118, 119] (by decide +kernel) (by decide +kernel)
set_option maxRecDepth 20000 in
theorem ggX11_tick_X11_wishes_c2 : GoodIn wsX11_tick (((wsX11_wishes.drop 30).drop 30).take 30) := goodIn_r _ [120, 121, 122, 123, 124, 125, 126, 127, 128, 129, 130, 131, 132, 133, 134, 24, 25, 26, 135, 136, 137, 138, 139, 140, 141, 142, 143, 144, 145, 146] (by decide +kernel) (by decide +kernel)
set_option maxRecDepth 20000 in
theorem ggX11_tick_X11_wishes_c3 : GoodIn wsX11_tick ((((wsX11_wishes.drop 30).drop 30).drop 30).take 30) := goodIn_r _ [147, 148, 149, 150, 151, 183, 184, 185, 186, 187, 188, 189, 190, 191, 192, 193, 194, 195, 196, 197, 198, 199, 200, 201, 202, 203, 204, 205, 206, 207] (by decide +kernel) (by decide +kernel)
set_option maxRecDepth 20000 in
theorem ggX11_tick_X11_wishes_c4 : GoodIn wsX11_tick ((((wsX11_wishes.drop 30).drop 30).drop 30).drop 30) := goodIn_r _ [208, 209, 210, 211, 212, 213, 214, 215, 216, 217, 218, 219, 220, 221, 222, 223, 224, 225, 226, 227, 228, 236, 237, 238, 239, 229, 230, 231] (by decide +kernel) (by decide +kernel)
theorem ggX11_tick_X11_wishes : GoodIn wsX11_tick wsX11_wishes := (goodIn_td 30 ggX11_tick_X11_wishes_c0 (goodIn_td 30 ggX11_tick_X11_wishes_c1 (goodIn_td 30 ggX11_tick_X11_wishes_c2 (goodIn_td 30 ggX11_tick_X11_wishes_c3 ggX11_tick_X11_wishes_c4))))
set_option maxRecDepth 20000 in
theorem gX11_tick_X11_wishes : GoodIn wsX11_tick (wsV RX11 154 RX11 yX11_wishes wsX11_wishes) := goodIn_app (goodIn_of _ (by decide +kernel)) ggX11_tick_X11_wishes
set_option maxRecDepth 20000 in
theorem ggX11_tick_X11_rails_c0 : GoodIn wsX11_tick (wsX11_rails.take 30) := goodIn_r _ [155, 6, 7, 8, 50, 51, 48, 52, 156, 46, 47, 49, 9, 10, 11, 12, 13, 14, 15, 16, 17, 18, 19, 20, 21, 22, 23, 24, 25, 26] (by decide +kernel) (by decide +kernel)
set_option maxRecDepth 20000 in
theorem ggX11_tick_X11_rails_c1 : GoodIn wsX11_tick ((wsX11_rails.drop 30).take 30) := goodIn_r _ [27, 28, 29, 30, 31, 157, 33, 158, 159, 109, 110, 111, 112, 113, 183, 184, 185, 186, 187, 188, 189, 190, 191, 192, 193, 194, 195, 196, 197, 198] (by decide +kernel) (by decide +kernel)
set_option maxRecDepth 20000 in
theorem ggX11_tick_X11_rails_c2 : GoodIn wsX11_tick (((wsX11_rails.drop 30).drop 30).take 30) := goodIn_r _ [199, 200, 201, 202, 203, 204, 205, 206, 207, 208, 209, 210, 211, 212, 213, 214, 215, 216, 217, 218, 219, 220, 221, 222, 223, 224, 225, 226, 227, 228] (by decide +kernel) (by decide +kernel)
set_option maxRecDepth 20000 in
theorem ggX11_tick_X11_rails_c3 : GoodIn wsX11_tick (((wsX11_rails.drop 30).drop 30).drop 30) := goodIn_r _ [229, 230, 231] (by decide +kernel) (by decide +kernel)
theorem ggX11_tick_X11_rails : GoodIn wsX11_tick wsX11_rails := (goodIn_td 30 ggX11_tick_X11_rails_c0 (goodIn_td 30 ggX11_tick_X11_rails_c1 (goodIn_td 30 ggX11_tick_X11_rails_c2 ggX11_tick_X11_rails_c3)))
set_option maxRecDepth 20000 in
theorem gX11_tick_X11_rails : GoodIn wsX11_tick (wsV RX11 157 RX11 yX11_rails wsX11_rails) := goodIn_app (goodIn_of _ (by decide +kernel)) ggX11_tick_X11_rails
set_option maxRecDepth 20000 in
theorem ggX11_tick_X11_works_c0 : GoodIn wsX11_tick (wsX11_works.take 30) := goodIn_r _ [163, 6, 7, 50, 51, 48, 52, 9, 10, 11, 12, 13, 14, 15, 16, 17, 18, 19, 20, 21, 22, 23, 24, 25, 26, 27, 28, 29, 30, 31] (by decide +kernel) (by decide +kernel)
set_option maxRecDepth 20000 in
theorem ggX11_tick_X11_works_c1 : GoodIn wsX11_tick ((wsX11_works.drop 30).take 30) := goodIn_r _ [53, 54, 55, 44, 56, 57, 58, 59, 60, 61, 62, 63, 64, 65, 66, 67, 68, 69, 70, 71, 72, 73, 74, 75, 76, 77, 78, 79, 80, 81] (by decide +kernel) (by decide +kernel)
set_option maxRecDepth 20000 in
theorem ggX11_tick_X11_works_c2 : GoodIn wsX11_tick (((wsX11_works.drop 30).drop 30).take 30) := goodIn_r _ [82, 83, 84, 85, 86, 87, 88, 89, 90, 183, 184, 185, 186, 187, 188, 189, 190, 191, 192, 193, 194, 195, 196, 197, 198, 199, 200, 201, 202, 203] (by decide +kernel) (by decide +kernel)
set_option maxRecDepth 20000 in
theorem ggX11_tick_X11_works_c3 : GoodIn wsX11_tick ((((wsX11_works.drop 30).drop 30).drop 30).take 30) := goodIn_r _ [204, 205, 206, 207, 208, 209, 210, 211, 212, 213, 214, 215, 216, 217, 218, 219, 220, 221, 222, 223, 224, 225, 226, 227, 228, 232, 233, 234, 235, 229] (by decide +kernel) (by decide +kernel)
set_option maxRecDepth 20000 in
theorem ggX11_tick_X11_works_c4 : GoodIn wsX11_tick ((((wsX11_works.drop 30).drop 30).drop 30).drop 30) := goodIn_r _ [230, 231, 236, 237, 238, 239] (by decide +kernel) (by decide +kernel)
theorem ggX11_tick_X11_works : GoodIn wsX11_tick wsX11_works := (goodIn_td 30 ggX11_tick_X11_works_c0 (goodIn_td 30 ggX11_tick_X11_works_c1 (goodIn_td 30 ggX11_tick_X11_works_c2 (goodIn_td 30 ggX11_tick_X11_works_c3 ggX11_tick_X11_works_c4))))
set_option maxRecDepth 20000 in
theorem gX11_tick_X11_works : GoodIn wsX11_tick (wsV RX11 160 RX11 yX11_works wsX11_works) := goodIn_app (goodIn_of _ (by decide +kernel)) ggX11_tick_X11_works
set_option maxRecDepth 20000 in
theorem ggX11_tick_X11_heats_c0 : GoodIn wsX11_tick (wsX11_heats.take 30) := goodIn_r _ [167, 6, 7, 156, 168, 169, 170, 171, 172, 9, 10, 11, 12, 13, 14, 15, 16, 17, 18, 19, 20, 21, 22, 23, 24, 25, 26, 27, 28, 29] (by decide +kernel) (by decide +kernel)
set_option maxRecDepth 20000 in
theorem ggX11_tick_X11_heats_c1 : GoodIn wsX11_tick ((wsX11_heats.drop 30).take 30) := goodIn_r _ [30, 31, 32, 33, 34, 35, 36, 59, 60, 61, 62, 63, 64, 65, 66, 67, 68, 69, 70, 71, 72, 73, 74, 75, 76, 77, 78, 79, 80, 81] (by decide +kernel) (by decide +kernel)
set_option maxRecDepth 20000 in
theorem ggX11_tick_X11_heats_c2 : GoodIn wsX11_tick (((wsX11_heats.drop 30).drop 30).take 30) := goodIn_r _ [82, 83, 84, 85, 86, 87, 88, 89, 90, 173, 174, 175, 44, 176, 177, 46, 47, 48, 49, 178, 104, 179, 180, 181, 182, 105, 50, 51, 52, 183] (by decide +kernel) (by decide +kernel)
set_option maxRecDepth 20000 in
theorem ggX11_tick_X11_heats_c3 : GoodIn wsX11_tick ((((wsX11_heats.drop 30).drop 30).drop 30).take 30) := goodIn_r _ [184, 185, 186, 187, 188, 189, 190, 191, 192, 193, 194, 195, 196, 197, 198, 199, 200, 201, 202, 203, 204, 205, 206, 207, 208, 209, 210, 211, 212, 213] (by decide +kernel) (by decide +kernel)
set_option maxRecDepth 20000 in
theorem ggX11_tick_X11_heats_c4 : GoodIn wsX11_tick ((((wsX11_heats.drop 30).drop 30).drop 30).drop 30) := goodIn_r _ [214, 215, 216, 217, 218, 219, 220, 221, 222, 223, 224, 225, 226, 227, 228, 229, 230, 231, 236, 237, 238, 239] (by decide +kernel) (by decide +kernel)
theorem ggX11_tick_X11_heats : GoodIn wsX11_tick wsX11_heats := (goodIn_td 30 ggX11_tick_X11_heats_c0 (goodIn_td 30 ggX11_tick_X11_heats_c1 (goodIn_td 30 ggX11_tick_X11_heats_c2 (goodIn_td 30 ggX11_tick_X11_heats_c3 ggX11_tick_X11_heats_c4))))
set_option maxRecDepth 20000 in
theorem gX11_tick_X11_heats : GoodIn wsX11_tick (wsV RX11 163 RX11 yX11_heats wsX11_heats) := goodIn_app (goodIn_of _ (by decide +kernel)) ggX11_tick_X11_heats
theorem dX11_tick_0 : decode cX11_tick 0 = .ok (.aload_n 0, 1) := by decide +kernel
theorem dX11_tick_1 : decode cX11_tick 1 = .ok (.dup, 1) := by decide +kernel
theorem dX11_tick_2 : decode cX11_tick 2 = .ok (.getfield 115, 3) := by decide +kernel
theorem dX11_tick_5 : decode cX11_tick 5 = .ok (.iconst 1, 1) := by decide +kernel
theorem dX11_tick_6 : decode cX11_tick 6 = .ok (.iadd, 1) := by decide +kernel
theorem dX11_tick_7 : decode cX11_tick 7 = .ok (.putfield 115, 3) := by decide +kernel
theorem dX11_tick_10 : decode cX11_tick 10 = .ok (.aload_n 0, 1) := by decide +kernel
theorem dX11_tick_11 : decode cX11_tick 11 = .ok (.getfield 121, 3) := by decide +kernel
theorem dX11_tick_14 : decode cX11_tick 14 = .ok (.ifCond .le 24, 3) := by decide +kernel
theorem dX11_tick_17 : decode cX11_tick 17 = .ok (.aload_n 0, 1) := by decide +kernel
theorem dX11_tick_18 : decode cX11_tick 18 = .ok (.aload_n 0, 1) := by decide +kernel
theorem dX11_tick_19 : decode cX11_tick 19 = .ok (.getfield 121, 3) := by decide +kernel
theorem dX11_tick_22 : decode cX11_tick 22 = .ok (.putfield 124, 3) := by decide +kernel
theorem dX11_tick_25 : decode cX11_tick 25 = .ok (.aload_n 0, 1) := by decide +kernel
theorem dX11_tick_26 : decode cX11_tick 26 = .ok (.aload_n 0, 1) := by decide +kernel
theorem dX11_tick_27 : decode cX11_tick 27 = .ok (.getfield 127, 3) := by decide +kernel
theorem dX11_tick_30 : decode cX11_tick 30 = .ok (.putfield 130, 3) := by decide +kernel
theorem dX11_tick_33 : decode cX11_tick 33 = .ok (.aload_n 0, 1) := by decide +kernel
theorem dX11_tick_34 : decode cX11_tick 34 = .ok (.iconst 0, 1) := by decide +kernel
theorem dX11_tick_35 : decode cX11_tick 35 = .ok (.putfield 121, 3) := by decide +kernel
theorem dX11_tick_38 : decode cX11_tick 38 = .ok (.iconst 0, 1) := by decide +kernel
theorem dX11_tick_39 : decode cX11_tick 39 = .ok (.istore_n 1, 1) := by decide +kernel
theorem dX11_tick_40 : decode cX11_tick 40 = .ok (.iload_n 1, 1) := by decide +kernel
theorem dX11_tick_41 : decode cX11_tick 41 = .ok (.aload_n 0, 1) := by decide +kernel
theorem dX11_tick_42 : decode cX11_tick 42 = .ok (.getfield 10, 3) := by decide +kernel
theorem dX11_tick_45 : decode cX11_tick 45 = .ok (.invokeinterface 46 1, 5) := by decide +kernel
theorem dX11_tick_50 : decode cX11_tick 50 = .ok (.if_icmp .ge 126, 3) := by decide +kernel
theorem dX11_tick_53 : decode cX11_tick 53 = .ok (.aload_n 0, 1) := by decide +kernel
theorem dX11_tick_54 : decode cX11_tick 54 = .ok (.getfield 10, 3) := by decide +kernel
theorem dX11_tick_57 : decode cX11_tick 57 = .ok (.iload_n 1, 1) := by decide +kernel
theorem dX11_tick_58 : decode cX11_tick 58 = .ok (.invokeinterface 101 2, 5) := by decide +kernel
theorem dX11_tick_63 : decode cX11_tick 63 = .ok (.checkcast 82, 3) := by decide +kernel
theorem dX11_tick_66 : decode cX11_tick 66 = .ok (.astore_n 2, 1) := by decide +kernel
theorem dX11_tick_67 : decode cX11_tick 67 = .ok (.aload_n 0, 1) := by decide +kernel
theorem dX11_tick_68 : decode cX11_tick 68 = .ok (.getfield 23, 3) := by decide +kernel
theorem dX11_tick_71 : decode cX11_tick 71 = .ok (.iload_n 1, 1) := by decide +kernel
theorem dX11_tick_72 : decode cX11_tick 72 = .ok (.aload_n 2, 1) := by decide +kernel
theorem dX11_tick_73 : decode cX11_tick 73 = .ok (.invokevirtual 133, 3) := by decide +kernel
theorem dX11_tick_76 : decode cX11_tick 76 = .ok (.iastore, 1) := by decide +kernel
theorem dX11_tick_77 : decode cX11_tick 77 = .ok (.aload_n 0, 1) := by decide +kernel
theorem dX11_tick_78 : decode cX11_tick 78 = .ok (.getfield 115, 3) := by decide +kernel
theorem dX11_tick_81 : decode cX11_tick 81 = .ok (.iconst 4, 1) := by decide +kernel
theorem dX11_tick_82 : decode cX11_tick 82 = .ok (.irem, 1) := by decide +kernel
theorem dX11_tick_83 : decode cX11_tick 83 = .ok (.ifCond .ne 24, 3) := by decide +kernel
theorem dX11_tick_86 : decode cX11_tick 86 = .ok (.aload_n 2, 1) := by decide +kernel
theorem dX11_tick_87 : decode cX11_tick 87 = .ok (.aload_n 0, 1) := by decide +kernel
theorem dX11_tick_88 : decode cX11_tick 88 = .ok (.getfield 23, 3) := by decide +kernel
theorem dX11_tick_91 : decode cX11_tick 91 = .ok (.iload_n 1, 1) := by decide +kernel
theorem dX11_tick_92 : decode cX11_tick 92 = .ok (.iaload, 1) := by decide +kernel
theorem dX11_tick_93 : decode cX11_tick 93 = .ok (.aload_n 0, 1) := by decide +kernel
theorem dX11_tick_94 : decode cX11_tick 94 = .ok (.getfield 23, 3) := by decide +kernel
theorem dX11_tick_97 : decode cX11_tick 97 = .ok (.iload_n 1, 1) := by decide +kernel
theorem dX11_tick_98 : decode cX11_tick 98 = .ok (.iaload, 1) := by decide +kernel
theorem dX11_tick_99 : decode cX11_tick 99 = .ok (.iconst 2, 1) := by decide +kernel
theorem dX11_tick_100 : decode cX11_tick 100 = .ok (.invokestatic 135, 3) := by decide +kernel
theorem dX11_tick_103 : decode cX11_tick 103 = .ok (.isub, 1) := by decide +kernel
theorem dX11_tick_104 : decode cX11_tick 104 = .ok (.putfield 141, 3) := by decide +kernel
theorem dX11_tick_107 : decode cX11_tick 107 = .ok (.aload_n 2, 1) := by decide +kernel
theorem dX11_tick_108 : decode cX11_tick 108 = .ok (.aload_n 0, 1) := by decide +kernel
theorem dX11_tick_109 : decode cX11_tick 109 = .ok (.getfield 23, 3) := by decide +kernel
theorem dX11_tick_112 : decode cX11_tick 112 = .ok (.iload_n 1, 1) := by decide +kernel
theorem dX11_tick_113 : decode cX11_tick 113 = .ok (.iaload, 1) := by decide +kernel
theorem dX11_tick_114 : decode cX11_tick 114 = .ok (.bipush 100, 2) := by decide +kernel
theorem dX11_tick_116 : decode cX11_tick 116 = .ok (.if_icmp .ge 21, 3) := by decide +kernel
theorem dX11_tick_119 : decode cX11_tick 119 = .ok (.aload_n 2, 1) := by decide +kernel
theorem dX11_tick_120 : decode cX11_tick 120 = .ok (.getfield 144, 3) := by decide +kernel
theorem dX11_tick_123 : decode cX11_tick 123 = .ok (.ifCond .eq 18, 3) := by decide +kernel
theorem dX11_tick_126 : decode cX11_tick 126 = .ok (.aload_n 0, 1) := by decide +kernel
theorem dX11_tick_127 : decode cX11_tick 127 = .ok (.getfield 23, 3) := by decide +kernel
theorem dX11_tick_130 : decode cX11_tick 130 = .ok (.iload_n 1, 1) := by decide +kernel
theorem dX11_tick_131 : decode cX11_tick 131 = .ok (.iaload, 1) := by decide +kernel
theorem dX11_tick_132 : decode cX11_tick 132 = .ok (.bipush 90, 2) := by decide +kernel
theorem dX11_tick_134 : decode cX11_tick 134 = .ok (.if_icmp .lt 7, 3) := by decide +kernel
theorem dX11_tick_137 : decode cX11_tick 137 = .ok (.iconst 1, 1) := by decide +kernel
theorem dX11_tick_138 : decode cX11_tick 138 = .ok (.goto 4, 3) := by decide +kernel
theorem dX11_tick_141 : decode cX11_tick 141 = .ok (.iconst 0, 1) := by decide +kernel
theorem dX11_tick_142 : decode cX11_tick 142 = .ok (.putfield 144, 3) := by decide +kernel
theorem dX11_tick_145 : decode cX11_tick 145 = .ok (.aload_n 2, 1) := by decide +kernel
theorem dX11_tick_146 : decode cX11_tick 146 = .ok (.dup, 1) := by decide +kernel
theorem dX11_tick_147 : decode cX11_tick 147 = .ok (.getfield 148, 3) := by decide +kernel
theorem dX11_tick_150 : decode cX11_tick 150 = .ok (.aload_n 0, 1) := by decide +kernel
theorem dX11_tick_151 : decode cX11_tick 151 = .ok (.getfield 23, 3) := by decide +kernel
theorem dX11_tick_154 : decode cX11_tick 154 = .ok (.iload_n 1, 1) := by decide +kernel
theorem dX11_tick_155 : decode cX11_tick 155 = .ok (.iaload, 1) := by decide +kernel
theorem dX11_tick_156 : decode cX11_tick 156 = .ok (.bipush 85, 2) := by decide +kernel
theorem dX11_tick_158 : decode cX11_tick 158 = .ok (.if_icmp .lt 7, 3) := by decide +kernel
theorem dX11_tick_161 : decode cX11_tick 161 = .ok (.iconst 1, 1) := by decide +kernel
theorem dX11_tick_162 : decode cX11_tick 162 = .ok (.goto 4, 3) := by decide +kernel
theorem dX11_tick_165 : decode cX11_tick 165 = .ok (.iconst 0, 1) := by decide +kernel
theorem dX11_tick_166 : decode cX11_tick 166 = .ok (.iadd, 1) := by decide +kernel
theorem dX11_tick_167 : decode cX11_tick 167 = .ok (.putfield 148, 3) := by decide +kernel
theorem dX11_tick_170 : decode cX11_tick 170 = .ok (.iinc 1 1, 3) := by decide +kernel
theorem dX11_tick_173 : decode cX11_tick 173 = .ok (.goto (-133), 3) := by decide +kernel
theorem dX11_tick_176 : decode cX11_tick 176 = .ok (.aload_n 0, 1) := by decide +kernel
theorem dX11_tick_177 : decode cX11_tick 177 = .ok (.invokevirtual 151, 3) := by decide +kernel
theorem dX11_tick_180 : decode cX11_tick 180 = .ok (.aload_n 0, 1) := by decide +kernel
theorem dX11_tick_181 : decode cX11_tick 181 = .ok (.invokevirtual 154, 3) := by decide +kernel
theorem dX11_tick_184 : decode cX11_tick 184 = .ok (.aload_n 0, 1) := by decide +kernel
theorem dX11_tick_185 : decode cX11_tick 185 = .ok (.invokevirtual 157, 3) := by decide +kernel
theorem dX11_tick_188 : decode cX11_tick 188 = .ok (.aload_n 0, 1) := by decide +kernel
theorem dX11_tick_189 : decode cX11_tick 189 = .ok (.invokevirtual 160, 3) := by decide +kernel
theorem dX11_tick_192 : decode cX11_tick 192 = .ok (.aload_n 0, 1) := by decide +kernel
theorem dX11_tick_193 : decode cX11_tick 193 = .ok (.invokevirtual 163, 3) := by decide +kernel
theorem dX11_tick_196 : decode cX11_tick 196 = .ok (.return_, 1) := by decide +kernel
set_option maxRecDepth 20000 in
theorem ggX11_sleeps_Jx4a65c_size_8abf5 : GoodIn wsX11_sleeps wsJx4a65c_size_8abf5 := goodIn_r _ [14, 15, 126, 127, 128] (by decide +kernel) (by decide +kernel)
set_option maxRecDepth 20000 in
theorem gX11_sleeps_Jx4a65c_size_8abf5_f46Jx4a65c : GoodIn wsX11_sleeps (va_wsF RX11 46 RJx4a65c ⟨"java/util/List", "size", "()I"⟩ yJx4a65c_size_8abf5 wsJx4a65c_size_8abf5) := goodIn_app (goodIn_of _ (by decide +kernel)) ggX11_sleeps_Jx4a65c_size_8abf5
set_option maxRecDepth 20000 in
theorem ggX11_sleeps_Jx4a65c_get_915e3 : GoodIn wsX11_sleeps wsJx4a65c_get_915e3 := goodIn_r _ [19, 15, 20, 21, 22, 23, 24, 25, 26, 27, 28, 29, 30, 13, 31, 32, 126, 127, 128] (by decide +kernel) (by decide +kernel)
set_option maxRecDepth 20000 in
theorem gX11_sleeps_Jx4a65c_get_915e3_f101Jx4a65c : GoodIn wsX11_sleeps (va_wsF RX11 101 RJx4a65c ⟨"java/util/List", "get", "(I)Ljava/lang/Object;"⟩ yJx4a65c_get_915e3 wsJx4a65c_get_915e3) := goodIn_app (goodIn_of _ (by decide +kernel)) ggX11_sleeps_Jx4a65c_get_915e3
set_option maxRecDepth 20000 in
theorem ggX11_sleeps_X11_running_c0 : GoodIn wsX11_sleeps (wsX11_running.take 30) := goodIn_r _ [37, 38, 39, 40, 41, 42, 13, 43, 44, 45, 46, 47, 48, 49, 50, 51, 52, 53, 54, 55, 56, 57, 58, 59, 60, 61, 62, 63, 64, 65] (by decide +kernel) (by decide +kernel)
set_option maxRecDepth 20000 in
theorem ggX11_sleeps_X11_running_c1 : GoodIn wsX11_sleeps ((wsX11_running.drop 30).take 30) := goodIn_r _ [66, 67, 68, 69, 70, 71, 80, 81, 82, 83, 84, 85, 86, 87, 88, 89, 90, 91, 92, 93, 94, 95, 96, 97, 98, 99, 100, 101, 102, 103] (by decide +kernel) (by decide +kernel)
set_option maxRecDepth 20000 in
theorem ggX11_sleeps_X11_running_c2 : GoodIn wsX11_sleeps ((wsX11_running.drop 30).drop 30) := goodIn_r _ [104, 105, 106, 129, 130, 131, 132, 133, 134, 135, 136, 126, 127, 128] (by decide +kernel) (by decide +kernel)
theorem ggX11_sleeps_X11_running : GoodIn wsX11_sleeps wsX11_running := (goodIn_td 30 ggX11_sleeps_X11_running_c0 (goodIn_td 30 ggX11_sleeps_X11_running_c1 ggX11_sleeps_X11_running_c2))
set_option maxRecDepth 20000 in
theorem gX11_sleeps_X11_running : GoodIn wsX11_sleeps (wsV RX11 169 RX11 yX11_running wsX11_running) := goodIn_app (goodIn_of _ (by decide +kernel)) ggX11_sleeps_X11_running
set_option maxRecDepth 20000 in
theorem ggX11_sleeps_X11_waits_c0 : GoodIn wsX11_sleeps (wsX11_waits.take 30) := goodIn_r _ [75, 38, 39, 40, 41, 42, 13, 43, 44, 45, 46, 47, 48, 49, 50, 51, 52, 53, 54, 55, 56, 57, 58, 59, 60, 61, 62, 63, 64, 65] (by decide +kernel) (by decide +kernel)
set_option maxRecDepth 20000 in
theorem ggX11_sleeps_X11_waits_c1 : GoodIn wsX11_sleeps ((wsX11_waits.drop 30).take 30) := goodIn_r _ [66, 67, 68, 69, 70, 71, 80, 81, 82, 83, 84, 85, 86, 87, 88, 89, 90, 91, 92, 93, 94, 95, 96, 97, 98, 99, 100, 101, 102, 103] (by decide +kernel) (by decide +kernel)
set_option maxRecDepth 20000 in
theorem ggX11_sleeps_X11_waits_c2 : GoodIn wsX11_sleeps ((wsX11_waits.drop 30).drop 30) := goodIn_r _ [104, 105, 106, 129, 130, 131, 132, 133, 134, 135, 136, 126, 127, 128] (by decide +kernel) (by decide +kernel)
theorem ggX11_sleeps_X11_waits : GoodIn wsX11_sleeps wsX11_waits := (goodIn_td 30 ggX11_sleeps_X11_waits_c0 (goodIn_td 30 ggX11_sleeps_X11_waits_c1 ggX11_sleeps_X11_waits_c2))
set_option maxRecDepth 20000 in
theorem gX11_sleeps_X11_waits : GoodIn wsX11_sleeps (wsV RX11 176 RX11 yX11_waits wsX11_waits) := goodIn_app (goodIn_of _ (by decide +kernel)) ggX11_sleeps_X11_waits
set_option maxRecDepth 20000 in
theorem ggX11_sleeps_X11_wakes_c0 : GoodIn wsX11_sleeps (wsX11_wakes.take 30) := goodIn_r _ [79, 1, 2, 38, 39, 16, 17, 18, 13, 19, 15, 20, 21, 22, 23, 24, 25, 26, 27, 28, 29, 30, 31, 32, 40, 41, 42, 43, 44, 45] (by decide +kernel) (by decide +kernel)
set_option maxRecDepth 20000 in
theorem ggX11_sleeps_X11_wakes_c1 : GoodIn wsX11_sleeps ((wsX11_wakes.drop 30).take 30) := goodIn_r _ [46, 47, 48, 49, 50, 51, 52, 53, 54, 55, 56, 57, 58, 59, 60, 61, 62, 63, 64, 65, 66, 67, 68, 69, 70, 71, 80, 81, 82, 83] (by decide +kernel) (by decide +kernel)
set_option maxRecDepth 20000 in
theorem ggX11_sleeps_X11_wakes_c2 : GoodIn wsX11_sleeps (((wsX11_wakes.drop 30).drop 30).take 30) := goodIn_r _ [84, 85, 86, 87, 88, 89, 90, 91, 92, 93, 94, 95, 96, 97, 98, 99, 100, 101, 102, 103, 104, 105, 106, 107, 108, 109, 110, 111, 112, 113] (by decide +kernel) (by decide +kernel)
set_option maxRecDepth 20000 in
theorem ggX11_sleeps_X11_wakes_c3 : GoodIn wsX11_sleeps (((wsX11_wakes.drop 30).drop 30).drop 30) := goodIn_r _ [114, 115, 116, 117, 118, 119, 120, 121, 122, 123, 124, 125, 129, 130, 131, 132, 126, 127, 128, 133, 134, 135, 136] (by decide +kernel) (by decide +kernel)
theorem ggX11_sleeps_X11_wakes : GoodIn wsX11_sleeps wsX11_wakes := (goodIn_td 30 ggX11_sleeps_X11_wakes_c0 (goodIn_td 30 ggX11_sleeps_X11_wakes_c1 (goodIn_td 30 ggX11_sleeps_X11_wakes_c2 ggX11_sleeps_X11_wakes_c3)))
set_option maxRecDepth 20000 in
theorem gX11_sleeps_X11_wakes : GoodIn wsX11_sleeps (wsV RX11 198 RX11 yX11_wakes wsX11_wakes) := goodIn_app (goodIn_of _ (by decide +kernel)) ggX11_sleeps_X11_wakes
theorem dX11_sleeps_0 : decode cX11_sleeps 0 = .ok (.iconst 0, 1) := by decide +kernel
theorem dX11_sleeps_1 : decode cX11_sleeps 1 = .ok (.istore_n 1, 1) := by decide +kernel
theorem dX11_sleeps_2 : decode cX11_sleeps 2 = .ok (.iconst 0, 1) := by decide +kernel
theorem dX11_sleeps_3 : decode cX11_sleeps 3 = .ok (.istore_n 2, 1) := by decide +kernel
theorem dX11_sleeps_4 : decode cX11_sleeps 4 = .ok (.iload_n 2, 1) := by decide +kernel
theorem dX11_sleeps_5 : decode cX11_sleeps 5 = .ok (.aload_n 0, 1) := by decide +kernel
theorem dX11_sleeps_6 : decode cX11_sleeps 6 = .ok (.getfield 10, 3) := by decide +kernel
theorem dX11_sleeps_9 : decode cX11_sleeps 9 = .ok (.invokeinterface 46 1, 5) := by decide +kernel
theorem dX11_sleeps_14 : decode cX11_sleeps 14 = .ok (.if_icmp .ge 277, 3) := by decide +kernel
theorem dX11_sleeps_17 : decode cX11_sleeps 17 = .ok (.aload_n 0, 1) := by decide +kernel
theorem dX11_sleeps_18 : decode cX11_sleeps 18 = .ok (.getfield 10, 3) := by decide +kernel
theorem dX11_sleeps_21 : decode cX11_sleeps 21 = .ok (.iload_n 2, 1) := by decide +kernel
theorem dX11_sleeps_22 : decode cX11_sleeps 22 = .ok (.invokeinterface 101 2, 5) := by decide +kernel
theorem dX11_sleeps_27 : decode cX11_sleeps 27 = .ok (.checkcast 82, 3) := by decide +kernel
theorem dX11_sleeps_30 : decode cX11_sleeps 30 = .ok (.astore_n 3, 1) := by decide +kernel
theorem dX11_sleeps_31 : decode cX11_sleeps 31 = .ok (.aload_n 3, 1) := by decide +kernel
theorem dX11_sleeps_32 : decode cX11_sleeps 32 = .ok (.getfield 166, 3) := by decide +kernel
theorem dX11_sleeps_35 : decode cX11_sleeps 35 = .ok (.istore 4, 2) := by decide +kernel
theorem dX11_sleeps_37 : decode cX11_sleeps 37 = .ok (.aload_n 3, 1) := by decide +kernel
theorem dX11_sleeps_38 : decode cX11_sleeps 38 = .ok (.aload_n 0, 1) := by decide +kernel
theorem dX11_sleeps_39 : decode cX11_sleeps 39 = .ok (.iload_n 2, 1) := by decide +kernel
theorem dX11_sleeps_40 : decode cX11_sleeps 40 = .ok (.invokevirtual 169, 3) := by decide +kernel
theorem dX11_sleeps_43 : decode cX11_sleeps 43 = .ok (.ifnull 7, 3) := by decide +kernel
theorem dX11_sleeps_46 : decode cX11_sleeps 46 = .ok (.iconst 1, 1) := by decide +kernel
theorem dX11_sleeps_47 : decode cX11_sleeps 47 = .ok (.goto 4, 3) := by decide +kernel
theorem dX11_sleeps_50 : decode cX11_sleeps 50 = .ok (.iconst 0, 1) := by decide +kernel
theorem dX11_sleeps_51 : decode cX11_sleeps 51 = .ok (.putfield 166, 3) := by decide +kernel
theorem dX11_sleeps_54 : decode cX11_sleeps 54 = .ok (.aload_n 3, 1) := by decide +kernel
theorem dX11_sleeps_55 : decode cX11_sleeps 55 = .ok (.aload_n 3, 1) := by decide +kernel
theorem dX11_sleeps_56 : decode cX11_sleeps 56 = .ok (.getfield 109, 3) := by decide +kernel
theorem dX11_sleeps_59 : decode cX11_sleeps 59 = .ok (.bipush 108, 2) := by decide +kernel
theorem dX11_sleeps_61 : decode cX11_sleeps 61 = .ok (.if_icmp .ne 21, 3) := by decide +kernel
theorem dX11_sleeps_64 : decode cX11_sleeps 64 = .ok (.aload_n 3, 1) := by decide +kernel
theorem dX11_sleeps_65 : decode cX11_sleeps 65 = .ok (.getfield 173, 3) := by decide +kernel
theorem dX11_sleeps_68 : decode cX11_sleeps 68 = .ok (.iload 4, 2) := by decide +kernel
theorem dX11_sleeps_70 : decode cX11_sleeps 70 = .ok (.ifCond .eq 7, 3) := by decide +kernel
theorem dX11_sleeps_73 : decode cX11_sleeps 73 = .ok (.iconst 1, 1) := by decide +kernel
theorem dX11_sleeps_74 : decode cX11_sleeps 74 = .ok (.goto 4, 3) := by decide +kernel
theorem dX11_sleeps_77 : decode cX11_sleeps 77 = .ok (.iconst (-1), 1) := by decide +kernel
theorem dX11_sleeps_78 : decode cX11_sleeps 78 = .ok (.iadd, 1) := by decide +kernel
theorem dX11_sleeps_79 : decode cX11_sleeps 79 = .ok (.goto 26, 3) := by decide +kernel
theorem dX11_sleeps_82 : decode cX11_sleeps 82 = .ok (.aload_n 3, 1) := by decide +kernel
theorem dX11_sleeps_83 : decode cX11_sleeps 83 = .ok (.getfield 109, 3) := by decide +kernel
theorem dX11_sleeps_86 : decode cX11_sleeps 86 = .ok (.bipush 102, 2) := by decide +kernel
theorem dX11_sleeps_88 : decode cX11_sleeps 88 = .ok (.if_icmp .ne 10, 3) := by decide +kernel
theorem dX11_sleeps_91 : decode cX11_sleeps 91 = .ok (.aload_n 3, 1) := by decide +kernel
theorem dX11_sleeps_92 : decode cX11_sleeps 92 = .ok (.getfield 112, 3) := by decide +kernel
theorem dX11_sleeps_95 : decode cX11_sleeps 95 = .ok (.goto 10, 3) := by decide +kernel
theorem dX11_sleeps_98 : decode cX11_sleeps 98 = .ok (.iconst 3, 1) := by decide +kernel
theorem dX11_sleeps_99 : decode cX11_sleeps 99 = .ok (.aload_n 0, 1) := by decide +kernel
theorem dX11_sleeps_100 : decode cX11_sleeps 100 = .ok (.iload_n 2, 1) := by decide +kernel
theorem dX11_sleeps_101 : decode cX11_sleeps 101 = .ok (.invokevirtual 176, 3) := by decide +kernel
theorem dX11_sleeps_104 : decode cX11_sleeps 104 = .ok (.imul, 1) := by decide +kernel
theorem dX11_sleeps_105 : decode cX11_sleeps 105 = .ok (.putfield 180, 3) := by decide +kernel
theorem dX11_sleeps_108 : decode cX11_sleeps 108 = .ok (.aload_n 3, 1) := by decide +kernel
theorem dX11_sleeps_109 : decode cX11_sleeps 109 = .ok (.iconst 0, 1) := by decide +kernel
theorem dX11_sleeps_110 : decode cX11_sleeps 110 = .ok (.aload_n 3, 1) := by decide +kernel
theorem dX11_sleeps_111 : decode cX11_sleeps 111 = .ok (.getfield 183, 3) := by decide +kernel
theorem dX11_sleeps_114 : decode cX11_sleeps 114 = .ok (.aload_n 3, 1) := by decide +kernel
theorem dX11_sleeps_115 : decode cX11_sleeps 115 = .ok (.getfield 180, 3) := by decide +kernel
theorem dX11_sleeps_118 : decode cX11_sleeps 118 = .ok (.invokestatic 186, 3) := by decide +kernel
theorem dX11_sleeps_121 : decode cX11_sleeps 121 = .ok (.invokestatic 189, 3) := by decide +kernel
theorem dX11_sleeps_124 : decode cX11_sleeps 124 = .ok (.putfield 180, 3) := by decide +kernel
theorem dX11_sleeps_127 : decode cX11_sleeps 127 = .ok (.aload_n 3, 1) := by decide +kernel
theorem dX11_sleeps_128 : decode cX11_sleeps 128 = .ok (.getfield 192, 3) := by decide +kernel
theorem dX11_sleeps_131 : decode cX11_sleeps 131 = .ok (.bipush 119, 2) := by decide +kernel
theorem dX11_sleeps_133 : decode cX11_sleeps 133 = .ok (.if_icmp .ne 28, 3) := by decide +kernel
theorem dX11_sleeps_136 : decode cX11_sleeps 136 = .ok (.aload_n 3, 1) := by decide +kernel
theorem dX11_sleeps_137 : decode cX11_sleeps 137 = .ok (.dup, 1) := by decide +kernel
theorem dX11_sleeps_138 : decode cX11_sleeps 138 = .ok (.getfield 195, 3) := by decide +kernel
theorem dX11_sleeps_141 : decode cX11_sleeps 141 = .ok (.iconst 1, 1) := by decide +kernel
theorem dX11_sleeps_142 : decode cX11_sleeps 142 = .ok (.isub, 1) := by decide +kernel
theorem dX11_sleeps_143 : decode cX11_sleeps 143 = .ok (.putfield 195, 3) := by decide +kernel
theorem dX11_sleeps_146 : decode cX11_sleeps 146 = .ok (.aload_n 3, 1) := by decide +kernel
theorem dX11_sleeps_147 : decode cX11_sleeps 147 = .ok (.getfield 195, 3) := by decide +kernel
theorem dX11_sleeps_150 : decode cX11_sleeps 150 = .ok (.ifCond .ne 135, 3) := by decide +kernel
theorem dX11_sleeps_153 : decode cX11_sleeps 153 = .ok (.aload_n 0, 1) := by decide +kernel
theorem dX11_sleeps_154 : decode cX11_sleeps 154 = .ok (.iload_n 2, 1) := by decide +kernel
theorem dX11_sleeps_155 : decode cX11_sleeps 155 = .ok (.invokevirtual 198, 3) := by decide +kernel
theorem dX11_sleeps_158 : decode cX11_sleeps 158 = .ok (.goto 127, 3) := by decide +kernel
theorem dX11_sleeps_161 : decode cX11_sleeps 161 = .ok (.aload_n 3, 1) := by decide +kernel
theorem dX11_sleeps_162 : decode cX11_sleeps 162 = .ok (.getfield 166, 3) := by decide +kernel
theorem dX11_sleeps_165 : decode cX11_sleeps 165 = .ok (.ifCond .eq 66, 3) := by decide +kernel
theorem dX11_sleeps_168 : decode cX11_sleeps 168 = .ok (.aload_n 3, 1) := by decide +kernel
theorem dX11_sleeps_169 : decode cX11_sleeps 169 = .ok (.getfield 192, 3) := by decide +kernel
theorem dX11_sleeps_172 : decode cX11_sleeps 172 = .ok (.bipush 97, 2) := by decide +kernel
theorem dX11_sleeps_174 : decode cX11_sleeps 174 = .ok (.if_icmp .eq 57, 3) := by decide +kernel
theorem dX11_sleeps_177 : decode cX11_sleeps 177 = .ok (.iload_n 1, 1) := by decide +kernel
theorem dX11_sleeps_178 : decode cX11_sleeps 178 = .ok (.iconst 2, 1) := by decide +kernel
theorem dX11_sleeps_179 : decode cX11_sleeps 179 = .ok (.if_icmp .ne 6, 3) := by decide +kernel
theorem dX11_sleeps_182 : decode cX11_sleeps 182 = .ok (.goto 103, 3) := by decide +kernel
theorem dX11_sleeps_185 : decode cX11_sleeps 185 = .ok (.iinc 1 1, 3) := by decide +kernel
theorem dX11_sleeps_188 : decode cX11_sleeps 188 = .ok (.aload_n 3, 1) := by decide +kernel
theorem dX11_sleeps_189 : decode cX11_sleeps 189 = .ok (.aload_n 3, 1) := by decide +kernel
theorem dX11_sleeps_190 : decode cX11_sleeps 190 = .ok (.getfield 192, 3) := by decide +kernel
theorem dX11_sleeps_193 : decode cX11_sleeps 193 = .ok (.bipush 100, 2) := by decide +kernel
theorem dX11_sleeps_195 : decode cX11_sleeps 195 = .ok (.if_icmp .ne 7, 3) := by decide +kernel
theorem dX11_sleeps_198 : decode cX11_sleeps 198 = .ok (.iconst 1, 1) := by decide +kernel
theorem dX11_sleeps_199 : decode cX11_sleeps 199 = .ok (.goto 4, 3) := by decide +kernel
theorem dX11_sleeps_202 : decode cX11_sleeps 202 = .ok (.iconst 0, 1) := by decide +kernel
theorem dX11_sleeps_203 : decode cX11_sleeps 203 = .ok (.putfield 202, 3) := by decide +kernel
theorem dX11_sleeps_206 : decode cX11_sleeps 206 = .ok (.aload_n 3, 1) := by decide +kernel
theorem dX11_sleeps_207 : decode cX11_sleeps 207 = .ok (.aload_n 3, 1) := by decide +kernel
theorem dX11_sleeps_208 : decode cX11_sleeps 208 = .ok (.getfield 202, 3) := by decide +kernel
theorem dX11_sleeps_211 : decode cX11_sleeps 211 = .ok (.ifCond .eq 7, 3) := by decide +kernel
theorem dX11_sleeps_214 : decode cX11_sleeps 214 = .ok (.iconst 4, 1) := by decide +kernel
theorem dX11_sleeps_215 : decode cX11_sleeps 215 = .ok (.goto 4, 3) := by decide +kernel
theorem dX11_sleeps_218 : decode cX11_sleeps 218 = .ok (.iconst 1, 1) := by decide +kernel
theorem dX11_sleeps_219 : decode cX11_sleeps 219 = .ok (.putfield 195, 3) := by decide +kernel
theorem dX11_sleeps_222 : decode cX11_sleeps 222 = .ok (.aload_n 3, 1) := by decide +kernel
theorem dX11_sleeps_223 : decode cX11_sleeps 223 = .ok (.bipush 119, 2) := by decide +kernel
theorem dX11_sleeps_225 : decode cX11_sleeps 225 = .ok (.putfield 192, 3) := by decide +kernel
theorem dX11_sleeps_228 : decode cX11_sleeps 228 = .ok (.goto 57, 3) := by decide +kernel
theorem dX11_sleeps_231 : decode cX11_sleeps 231 = .ok (.aload_n 3, 1) := by decide +kernel
theorem dX11_sleeps_232 : decode cX11_sleeps 232 = .ok (.aload_n 3, 1) := by decide +kernel
theorem dX11_sleeps_233 : decode cX11_sleeps 233 = .ok (.getfield 166, 3) := by decide +kernel
theorem dX11_sleeps_236 : decode cX11_sleeps 236 = .ok (.ifCond .eq 7, 3) := by decide +kernel
theorem dX11_sleeps_239 : decode cX11_sleeps 239 = .ok (.iconst 0, 1) := by decide +kernel
theorem dX11_sleeps_240 : decode cX11_sleeps 240 = .ok (.goto 9, 3) := by decide +kernel
theorem dX11_sleeps_243 : decode cX11_sleeps 243 = .ok (.aload_n 3, 1) := by decide +kernel
theorem dX11_sleeps_244 : decode cX11_sleeps 244 = .ok (.getfield 205, 3) := by decide +kernel
theorem dX11_sleeps_247 : decode cX11_sleeps 247 = .ok (.iconst 1, 1) := by decide +kernel
theorem dX11_sleeps_248 : decode cX11_sleeps 248 = .ok (.iadd, 1) := by decide +kernel
theorem dX11_sleeps_249 : decode cX11_sleeps 249 = .ok (.putfield 205, 3) := by decide +kernel
theorem dX11_sleeps_252 : decode cX11_sleeps 252 = .ok (.aload_n 3, 1) := by decide +kernel
theorem dX11_sleeps_253 : decode cX11_sleeps 253 = .ok (.aload_n 3, 1) := by decide +kernel
theorem dX11_sleeps_254 : decode cX11_sleeps 254 = .ok (.getfield 205, 3) := by decide +kernel
theorem dX11_sleeps_257 : decode cX11_sleeps 257 = .ok (.bipush 10, 2) := by decide +kernel
theorem dX11_sleeps_259 : decode cX11_sleeps 259 = .ok (.if_icmp .lt 8, 3) := by decide +kernel
theorem dX11_sleeps_262 : decode cX11_sleeps 262 = .ok (.bipush 100, 2) := by decide +kernel
theorem dX11_sleeps_264 : decode cX11_sleeps 264 = .ok (.goto 18, 3) := by decide +kernel
theorem dX11_sleeps_267 : decode cX11_sleeps 267 = .ok (.aload_n 3, 1) := by decide +kernel
theorem dX11_sleeps_268 : decode cX11_sleeps 268 = .ok (.getfield 205, 3) := by decide +kernel
theorem dX11_sleeps_271 : decode cX11_sleeps 271 = .ok (.iconst 3, 1) := by decide +kernel
theorem dX11_sleeps_272 : decode cX11_sleeps 272 = .ok (.if_icmp .lt 8, 3) := by decide +kernel
theorem dX11_sleeps_275 : decode cX11_sleeps 275 = .ok (.bipush 108, 2) := by decide +kernel
theorem dX11_sleeps_277 : decode cX11_sleeps 277 = .ok (.goto 5, 3) := by decide +kernel
theorem dX11_sleeps_280 : decode cX11_sleeps 280 = .ok (.bipush 97, 2) := by decide +kernel
theorem dX11_sleeps_282 : decode cX11_sleeps 282 = .ok (.putfield 192, 3) := by decide +kernel
theorem dX11_sleeps_285 : decode cX11_sleeps 285 = .ok (.iinc 2 1, 3) := by decide +kernel
theorem dX11_sleeps_288 : decode cX11_sleeps 288 = .ok (.goto (-284), 3) := by decide +kernel
theorem dX11_sleeps_291 : decode cX11_sleeps 291 = .ok (.return_, 1) := by decide +kernel
set_option maxRecDepth 20000 in
theorem ggX11_waits_Jx4a65c_iterator_32c93 : GoodIn wsX11_waits wsJx4a65c_iterator_32c93 := goodIn_r _ [7, 8, 9, 10, 11, 12, 13, 14, 15, 16, 17, 18, 19, 20, 21, 67, 68, 69, 70, 71, 72, 73] (by decide +kernel) (by decide +kernel)
set_option maxRecDepth 20000 in
theorem gX11_waits_Jx4a65c_iterator_32c93_f56Jx4a65c : GoodIn wsX11_waits (va_wsF RX11 56 RJx4a65c ⟨"java/util/List", "iterator", "()Ljava/util/Iterator;"⟩ yJx4a65c_iterator_32c93 wsJx4a65c_iterator_32c93) := goodIn_app (goodIn_of _ (by decide +kernel)) ggX11_waits_Jx4a65c_iterator_32c93
set_option maxRecDepth 20000 in
theorem ggX11_waits_Jx35411_hasNext_aae02 : GoodIn wsX11_waits wsJx35411_hasNext_aae02 := goodIn_r _ [25, 26, 14, 67, 68, 69, 70, 71, 72, 73] (by decide +kernel) (by decide +kernel)
set_option maxRecDepth 20000 in
theorem gX11_waits_Jx35411_hasNext_aae02_f60Jx35411 : GoodIn wsX11_waits (va_wsF RX11 60 RJx35411 ⟨"java/util/Iterator", "hasNext", "()Z"⟩ yJx35411_hasNext_aae02 wsJx35411_hasNext_aae02) := goodIn_app (goodIn_of _ (by decide +kernel)) ggX11_waits_Jx35411_hasNext_aae02
set_option maxRecDepth 20000 in
theorem ggX11_waits_Jx35411_next_0502b : GoodIn wsX11_waits wsJx35411_next_0502b := goodIn_r _ [30, 26, 14, 31, 18, 32, 33, 34, 10, 35, 19, 20, 21, 67, 68, 69, 70, 71, 72, 73] (by decide +kernel) (by decide +kernel)
set_option maxRecDepth 20000 in
theorem gX11_waits_Jx35411_next_0502b_f66Jx35411 : GoodIn wsX11_waits (va_wsF RX11 66 RJx35411 ⟨"java/util/Iterator", "next", "()Ljava/lang/Object;"⟩ yJx35411_next_0502b wsJx35411_next_0502b) := goodIn_app (goodIn_of _ (by decide +kernel)) ggX11_waits_Jx35411_next_0502b
theorem dX11_waits_0 : decode cX11_waits 0 = .ok (.iconst 0, 1) := by decide +kernel
theorem dX11_waits_1 : decode cX11_waits 1 = .ok (.istore_n 2, 1) := by decide +kernel
theorem dX11_waits_2 : decode cX11_waits 2 = .ok (.aload_n 0, 1) := by decide +kernel
theorem dX11_waits_3 : decode cX11_waits 3 = .ok (.getfield 16, 3) := by decide +kernel
theorem dX11_waits_6 : decode cX11_waits 6 = .ok (.invokeinterface 56 1, 5) := by decide +kernel
theorem dX11_waits_11 : decode cX11_waits 11 = .ok (.astore_n 3, 1) := by decide +kernel
theorem dX11_waits_12 : decode cX11_waits 12 = .ok (.aload_n 3, 1) := by decide +kernel
theorem dX11_waits_13 : decode cX11_waits 13 = .ok (.invokeinterface 60 1, 5) := by decide +kernel
theorem dX11_waits_18 : decode cX11_waits 18 = .ok (.ifCond .eq 42, 3) := by decide +kernel
theorem dX11_waits_21 : decode cX11_waits 21 = .ok (.aload_n 3, 1) := by decide +kernel
theorem dX11_waits_22 : decode cX11_waits 22 = .ok (.invokeinterface 66 1, 5) := by decide +kernel
theorem dX11_waits_27 : decode cX11_waits 27 = .ok (.checkcast 70, 3) := by decide +kernel
theorem dX11_waits_30 : decode cX11_waits 30 = .ok (.astore 4, 2) := by decide +kernel
theorem dX11_waits_32 : decode cX11_waits 32 = .ok (.iload_n 2, 1) := by decide +kernel
theorem dX11_waits_33 : decode cX11_waits 33 = .ok (.aload 4, 2) := by decide +kernel
theorem dX11_waits_35 : decode cX11_waits 35 = .ok (.getfield 72, 3) := by decide +kernel
theorem dX11_waits_38 : decode cX11_waits 38 = .ok (.iload_n 1, 1) := by decide +kernel
theorem dX11_waits_39 : decode cX11_waits 39 = .ok (.if_icmp .ne 15, 3) := by decide +kernel
theorem dX11_waits_42 : decode cX11_waits 42 = .ok (.aload 4, 2) := by decide +kernel
theorem dX11_waits_44 : decode cX11_waits 44 = .ok (.getfield 75, 3) := by decide +kernel
theorem dX11_waits_47 : decode cX11_waits 47 = .ok (.ifCond .le 7, 3) := by decide +kernel
theorem dX11_waits_50 : decode cX11_waits 50 = .ok (.iconst 1, 1) := by decide +kernel
theorem dX11_waits_51 : decode cX11_waits 51 = .ok (.goto 4, 3) := by decide +kernel
theorem dX11_waits_54 : decode cX11_waits 54 = .ok (.iconst 0, 1) := by decide +kernel
theorem dX11_waits_55 : decode cX11_waits 55 = .ok (.iadd, 1) := by decide +kernel
theorem dX11_waits_56 : decode cX11_waits 56 = .ok (.istore_n 2, 1) := by decide +kernel
theorem dX11_waits_57 : decode cX11_waits 57 = .ok (.goto (-45), 3) := by decide +kernel
theorem dX11_waits_60 : decode cX11_waits 60 = .ok (.iload_n 2, 1) := by decide +kernel
theorem dX11_waits_61 : decode cX11_waits 61 = .ok (.ireturn, 1) := by decide +kernel
set_option maxRecDepth 20000 in
theorem ggX11_wakes_Jx4a65c_get_915e3 : GoodIn wsX11_wakes wsJx4a65c_get_915e3 := goodIn_r _ [9, 10, 11, 12, 13, 14, 15, 16, 17, 18, 19, 20, 21, 8, 22, 23, 106, 107, 108] (by decide +kernel) (by decide +kernel)
set_option maxRecDepth 20000 in
theorem gX11_wakes_Jx4a65c_get_915e3_f101Jx4a65c : GoodIn wsX11_wakes (va_wsF RX11 101 RJx4a65c ⟨"java/util/List", "get", "(I)Ljava/lang/Object;"⟩ yJx4a65c_get_915e3 wsJx4a65c_get_915e3) := goodIn_app (goodIn_of _ (by decide +kernel)) ggX11_wakes_Jx4a65c_get_915e3
set_option maxRecDepth 20000 in
theorem ggX11_wakes_Jx4a65c_iterator_32c93 : GoodIn wsX11_wakes wsJx4a65c_iterator_32c93 := goodIn_r _ [27, 28, 29, 30, 31, 32, 33, 34, 35, 36, 37, 38, 39, 40, 41, 109, 110, 111, 112, 106, 107, 108] (by decide +kernel) (by decide +kernel)
set_option maxRecDepth 20000 in
theorem gX11_wakes_Jx4a65c_iterator_32c93_f56Jx4a65c : GoodIn wsX11_wakes (va_wsF RX11 56 RJx4a65c ⟨"java/util/List", "iterator", "()Ljava/util/Iterator;"⟩ yJx4a65c_iterator_32c93 wsJx4a65c_iterator_32c93) := goodIn_app (goodIn_of _ (by decide +kernel)) ggX11_wakes_Jx4a65c_iterator_32c93
set_option maxRecDepth 20000 in
theorem ggX11_wakes_Jx35411_hasNext_aae02 : GoodIn wsX11_wakes wsJx35411_hasNext_aae02 := goodIn_r _ [45, 46, 34, 109, 110, 111, 112, 106, 107, 108] (by decide +kernel) (by decide +kernel)
set_option maxRecDepth 20000 in
theorem gX11_wakes_Jx35411_hasNext_aae02_f60Jx35411 : GoodIn wsX11_wakes (va_wsF RX11 60 RJx35411 ⟨"java/util/Iterator", "hasNext", "()Z"⟩ yJx35411_hasNext_aae02 wsJx35411_hasNext_aae02) := goodIn_app (goodIn_of _ (by decide +kernel)) ggX11_wakes_Jx35411_hasNext_aae02
set_option maxRecDepth 20000 in
theorem ggX11_wakes_Jx35411_next_0502b : GoodIn wsX11_wakes wsJx35411_next_0502b := goodIn_r _ [50, 46, 34, 51, 38, 52, 53, 54, 30, 55, 39, 40, 41, 109, 110, 111, 112, 106, 107, 108] (by decide +kernel) (by decide +kernel)
set_option maxRecDepth 20000 in
theorem gX11_wakes_Jx35411_next_0502b_f66Jx35411 : GoodIn wsX11_wakes (va_wsF RX11 66 RJx35411 ⟨"java/util/Iterator", "next", "()Ljava/lang/Object;"⟩ yJx35411_next_0502b wsJx35411_next_0502b) := goodIn_app (goodIn_of _ (by decide +kernel)) ggX11_wakes_Jx35411_next_0502b
theorem dX11_wakes_0 : decode cX11_wakes 0 = .ok (.aload_n 0, 1) := by decide +kernel
theorem dX11_wakes_1 : decode cX11_wakes 1 = .ok (.getfield 10, 3) := by decide +kernel
theorem dX11_wakes_4 : decode cX11_wakes 4 = .ok (.iload_n 1, 1) := by decide +kernel
theorem dX11_wakes_5 : decode cX11_wakes 5 = .ok (.invokeinterface 101 2, 5) := by decide +kernel
theorem dX11_wakes_10 : decode cX11_wakes 10 = .ok (.checkcast 82, 3) := by decide +kernel
theorem dX11_wakes_13 : decode cX11_wakes 13 = .ok (.astore_n 2, 1) := by decide +kernel
theorem dX11_wakes_14 : decode cX11_wakes 14 = .ok (.aload_n 2, 1) := by decide +kernel
theorem dX11_wakes_15 : decode cX11_wakes 15 = .ok (.bipush 97, 2) := by decide +kernel
theorem dX11_wakes_17 : decode cX11_wakes 17 = .ok (.putfield 192, 3) := by decide +kernel
theorem dX11_wakes_20 : decode cX11_wakes 20 = .ok (.aload_n 2, 1) := by decide +kernel
theorem dX11_wakes_21 : decode cX11_wakes 21 = .ok (.iconst 0, 1) := by decide +kernel
theorem dX11_wakes_22 : decode cX11_wakes 22 = .ok (.putfield 205, 3) := by decide +kernel
theorem dX11_wakes_25 : decode cX11_wakes 25 = .ok (.aload_n 2, 1) := by decide +kernel
theorem dX11_wakes_26 : decode cX11_wakes 26 = .ok (.getfield 202, 3) := by decide +kernel
theorem dX11_wakes_29 : decode cX11_wakes 29 = .ok (.ifCond .eq 59, 3) := by decide +kernel
theorem dX11_wakes_32 : decode cX11_wakes 32 = .ok (.aload_n 0, 1) := by decide +kernel
theorem dX11_wakes_33 : decode cX11_wakes 33 = .ok (.getfield 16, 3) := by decide +kernel
theorem dX11_wakes_36 : decode cX11_wakes 36 = .ok (.invokeinterface 56 1, 5) := by decide +kernel
theorem dX11_wakes_41 : decode cX11_wakes 41 = .ok (.astore_n 3, 1) := by decide +kernel
theorem dX11_wakes_42 : decode cX11_wakes 42 = .ok (.aload_n 3, 1) := by decide +kernel
theorem dX11_wakes_43 : decode cX11_wakes 43 = .ok (.invokeinterface 60 1, 5) := by decide +kernel
theorem dX11_wakes_48 : decode cX11_wakes 48 = .ok (.ifCond .eq 40, 3) := by decide +kernel
theorem dX11_wakes_51 : decode cX11_wakes 51 = .ok (.aload_n 3, 1) := by decide +kernel
theorem dX11_wakes_52 : decode cX11_wakes 52 = .ok (.invokeinterface 66 1, 5) := by decide +kernel
theorem dX11_wakes_57 : decode cX11_wakes 57 = .ok (.checkcast 70, 3) := by decide +kernel
theorem dX11_wakes_60 : decode cX11_wakes 60 = .ok (.astore 4, 2) := by decide +kernel
theorem dX11_wakes_62 : decode cX11_wakes 62 = .ok (.aload 4, 2) := by decide +kernel
theorem dX11_wakes_64 : decode cX11_wakes 64 = .ok (.aload 4, 2) := by decide +kernel
theorem dX11_wakes_66 : decode cX11_wakes 66 = .ok (.getfield 72, 3) := by decide +kernel
theorem dX11_wakes_69 : decode cX11_wakes 69 = .ok (.iload_n 1, 1) := by decide +kernel
theorem dX11_wakes_70 : decode cX11_wakes 70 = .ok (.if_icmp .ne 7, 3) := by decide +kernel
theorem dX11_wakes_73 : decode cX11_wakes 73 = .ok (.iconst 5, 1) := by decide +kernel
theorem dX11_wakes_74 : decode cX11_wakes 74 = .ok (.goto 8, 3) := by decide +kernel
theorem dX11_wakes_77 : decode cX11_wakes 77 = .ok (.aload 4, 2) := by decide +kernel
theorem dX11_wakes_79 : decode cX11_wakes 79 = .ok (.getfield 106, 3) := by decide +kernel
theorem dX11_wakes_82 : decode cX11_wakes 82 = .ok (.putfield 106, 3) := by decide +kernel
theorem dX11_wakes_85 : decode cX11_wakes 85 = .ok (.goto (-43), 3) := by decide +kernel
theorem dX11_wakes_88 : decode cX11_wakes 88 = .ok (.return_, 1) := by decide +kernel
set_option maxRecDepth 20000 in
theorem ggX11_wishes_Jx4a65c_iterator_32c93 : GoodIn wsX11_wishes wsJx4a65c_iterator_32c93 := goodIn_r _ [16, 17, 18, 19, 20, 21, 22, 23, 24, 25, 26, 27, 28, 29, 30, 141, 142, 143, 144, 145, 146, 147] (by decide +kernel) (by decide +kernel)
set_option maxRecDepth 20000 in
theorem gX11_wishes_Jx4a65c_iterator_32c93_f56Jx4a65c : GoodIn wsX11_wishes (va_wsF RX11 56 RJx4a65c ⟨"java/util/List", "iterator", "()Ljava/util/Iterator;"⟩ yJx4a65c_iterator_32c93 wsJx4a65c_iterator_32c93) := goodIn_app (goodIn_of _ (by decide +kernel)) ggX11_wishes_Jx4a65c_iterator_32c93
set_option maxRecDepth 20000 in
theorem ggX11_wishes_Jx35411_hasNext_aae02 : GoodIn wsX11_wishes wsJx35411_hasNext_aae02 := goodIn_r _ [34, 35, 23, 141, 142, 143, 144, 145, 146, 147] (by decide +kernel) (by decide +kernel)
set_option maxRecDepth 20000 in
theorem gX11_wishes_Jx35411_hasNext_aae02_f60Jx35411 : GoodIn wsX11_wishes (va_wsF RX11 60 RJx35411 ⟨"java/util/Iterator", "hasNext", "()Z"⟩ yJx35411_hasNext_aae02 wsJx35411_hasNext_aae02) := goodIn_app (goodIn_of _ (by decide +kernel)) ggX11_wishes_Jx35411_hasNext_aae02
set_option maxRecDepth 20000 in
theorem ggX11_wishes_Jx35411_next_0502b : GoodIn wsX11_wishes wsJx35411_next_0502b := goodIn_r _ [39, 35, 23, 40, 27, 41, 42, 43, 19, 44, 28, 29, 30, 141, 142, 143, 144, 145, 146, 147] (by decide +kernel) (by decide +kernel)
set_option maxRecDepth 20000 in
theorem gX11_wishes_Jx35411_next_0502b_f66Jx35411 : GoodIn wsX11_wishes (va_wsF RX11 66 RJx35411 ⟨"java/util/Iterator", "next", "()Ljava/lang/Object;"⟩ yJx35411_next_0502b wsJx35411_next_0502b) := goodIn_app (goodIn_of _ (by decide +kernel)) ggX11_wishes_Jx35411_next_0502b
set_option maxRecDepth 20000 in
theorem ggX11_wishes_X9_isRetired : GoodIn wsX11_wishes wsX9_isRetired := goodIn_r _ [48, 49, 50, 51, 46, 52, 53, 122, 123, 124, 125, 126, 127, 128, 129, 130, 131, 132, 133, 134, 135, 136, 137, 138, 139, 140] (by decide +kernel) (by decide +kernel)
set_option maxRecDepth 20000 in
theorem gX11_wishes_X9_isRetired_n208 : GoodIn wsX11_wishes (wsX9_isRetired) := ggX11_wishes_X9_isRetired
set_option maxRecDepth 20000 in
theorem ggX11_wishes_J0_charAt_5068e : GoodIn wsX11_wishes wsJ0_charAt_5068e := goodIn_r _ [58, 59, 60, 61, 62, 57, 63, 64, 65, 66, 67, 68, 69, 70, 71, 72, 73, 74, 75, 76, 77, 78, 79, 80, 81, 82, 83, 84, 85, 86, 87, 88, 89, 90, 91, 92, 93, 94] (by decide +kernel) (by decide +kernel)
set_option maxRecDepth 20000 in
theorem gX11_wishes_J0_charAt_5068e : GoodIn wsX11_wishes (wsV RX11 222 RJ0 yJ0_charAt_5068e wsJ0_charAt_5068e) := goodIn_app (goodIn_of _ (by decide +kernel)) ggX11_wishes_J0_charAt_5068e
theorem dX11_wishes_0 : decode cX11_wishes 0 = .ok (.aload_n 0, 1) := by decide +kernel
theorem dX11_wishes_1 : decode cX11_wishes 1 = .ok (.getfield 10, 3) := by decide +kernel
theorem dX11_wishes_4 : decode cX11_wishes 4 = .ok (.invokeinterface 56 1, 5) := by decide +kernel
theorem dX11_wishes_9 : decode cX11_wishes 9 = .ok (.astore_n 1, 1) := by decide +kernel
theorem dX11_wishes_10 : decode cX11_wishes 10 = .ok (.aload_n 1, 1) := by decide +kernel
theorem dX11_wishes_11 : decode cX11_wishes 11 = .ok (.invokeinterface 60 1, 5) := by decide +kernel
theorem dX11_wishes_16 : decode cX11_wishes 16 = .ok (.ifCond .eq 224, 3) := by decide +kernel
theorem dX11_wishes_19 : decode cX11_wishes 19 = .ok (.aload_n 1, 1) := by decide +kernel
theorem dX11_wishes_20 : decode cX11_wishes 20 = .ok (.invokeinterface 66 1, 5) := by decide +kernel
theorem dX11_wishes_25 : decode cX11_wishes 25 = .ok (.checkcast 82, 3) := by decide +kernel
theorem dX11_wishes_28 : decode cX11_wishes 28 = .ok (.astore_n 2, 1) := by decide +kernel
theorem dX11_wishes_29 : decode cX11_wishes 29 = .ok (.bipush 6, 2) := by decide +kernel
theorem dX11_wishes_31 : decode cX11_wishes 31 = .ok (.newarray .int, 2) := by decide +kernel
theorem dX11_wishes_33 : decode cX11_wishes 33 = .ok (.dup, 1) := by decide +kernel
theorem dX11_wishes_34 : decode cX11_wishes 34 = .ok (.iconst 0, 1) := by decide +kernel
theorem dX11_wishes_35 : decode cX11_wishes 35 = .ok (.aload_n 2, 1) := by decide +kernel
theorem dX11_wishes_36 : decode cX11_wishes 36 = .ok (.invokevirtual 208, 3) := by decide +kernel
theorem dX11_wishes_39 : decode cX11_wishes 39 = .ok (.ifCond .eq 7, 3) := by decide +kernel
theorem dX11_wishes_42 : decode cX11_wishes 42 = .ok (.iconst 0, 1) := by decide +kernel
theorem dX11_wishes_43 : decode cX11_wishes 43 = .ok (.goto 5, 3) := by decide +kernel
theorem dX11_wishes_46 : decode cX11_wishes 46 = .ok (.bipush 9, 2) := by decide +kernel
theorem dX11_wishes_48 : decode cX11_wishes 48 = .ok (.iastore, 1) := by decide +kernel
theorem dX11_wishes_49 : decode cX11_wishes 49 = .ok (.dup, 1) := by decide +kernel
theorem dX11_wishes_50 : decode cX11_wishes 50 = .ok (.iconst 1, 1) := by decide +kernel
theorem dX11_wishes_51 : decode cX11_wishes 51 = .ok (.aload_n 2, 1) := by decide +kernel
theorem dX11_wishes_52 : decode cX11_wishes 52 = .ok (.getfield 144, 3) := by decide +kernel
theorem dX11_wishes_55 : decode cX11_wishes 55 = .ok (.ifCond .eq 7, 3) := by decide +kernel
theorem dX11_wishes_58 : decode cX11_wishes 58 = .ok (.iconst 0, 1) := by decide +kernel
theorem dX11_wishes_59 : decode cX11_wishes 59 = .ok (.goto 5, 3) := by decide +kernel
theorem dX11_wishes_62 : decode cX11_wishes 62 = .ok (.bipush 9, 2) := by decide +kernel
theorem dX11_wishes_64 : decode cX11_wishes 64 = .ok (.iastore, 1) := by decide +kernel
theorem dX11_wishes_65 : decode cX11_wishes 65 = .ok (.dup, 1) := by decide +kernel
theorem dX11_wishes_66 : decode cX11_wishes 66 = .ok (.iconst 2, 1) := by decide +kernel
theorem dX11_wishes_67 : decode cX11_wishes 67 = .ok (.aload_n 0, 1) := by decide +kernel
theorem dX11_wishes_68 : decode cX11_wishes 68 = .ok (.getfield 211, 3) := by decide +kernel
theorem dX11_wishes_71 : decode cX11_wishes 71 = .ok (.ifCond .le 7, 3) := by decide +kernel
theorem dX11_wishes_74 : decode cX11_wishes 74 = .ok (.iconst 0, 1) := by decide +kernel
theorem dX11_wishes_75 : decode cX11_wishes 75 = .ok (.goto 5, 3) := by decide +kernel
theorem dX11_wishes_78 : decode cX11_wishes 78 = .ok (.bipush 9, 2) := by decide +kernel
theorem dX11_wishes_80 : decode cX11_wishes 80 = .ok (.iastore, 1) := by decide +kernel
theorem dX11_wishes_81 : decode cX11_wishes 81 = .ok (.dup, 1) := by decide +kernel
theorem dX11_wishes_82 : decode cX11_wishes 82 = .ok (.iconst 3, 1) := by decide +kernel
theorem dX11_wishes_83 : decode cX11_wishes 83 = .ok (.aload_n 2, 1) := by decide +kernel
theorem dX11_wishes_84 : decode cX11_wishes 84 = .ok (.getfield 214, 3) := by decide +kernel
theorem dX11_wishes_87 : decode cX11_wishes 87 = .ok (.ifCond .eq 7, 3) := by decide +kernel
theorem dX11_wishes_90 : decode cX11_wishes 90 = .ok (.iconst 2, 1) := by decide +kernel
theorem dX11_wishes_91 : decode cX11_wishes 91 = .ok (.goto 5, 3) := by decide +kernel
theorem dX11_wishes_94 : decode cX11_wishes 94 = .ok (.bipush 9, 2) := by decide +kernel
theorem dX11_wishes_96 : decode cX11_wishes 96 = .ok (.iastore, 1) := by decide +kernel
theorem dX11_wishes_97 : decode cX11_wishes 97 = .ok (.dup, 1) := by decide +kernel
theorem dX11_wishes_98 : decode cX11_wishes 98 = .ok (.iconst 4, 1) := by decide +kernel
theorem dX11_wishes_99 : decode cX11_wishes 99 = .ok (.aload_n 0, 1) := by decide +kernel
theorem dX11_wishes_100 : decode cX11_wishes 100 = .ok (.getfield 36, 3) := by decide +kernel
theorem dX11_wishes_103 : decode cX11_wishes 103 = .ok (.ifCond .ne 7, 3) := by decide +kernel
theorem dX11_wishes_106 : decode cX11_wishes 106 = .ok (.iconst 2, 1) := by decide +kernel
theorem dX11_wishes_107 : decode cX11_wishes 107 = .ok (.goto 5, 3) := by decide +kernel
theorem dX11_wishes_110 : decode cX11_wishes 110 = .ok (.bipush 9, 2) := by decide +kernel
theorem dX11_wishes_112 : decode cX11_wishes 112 = .ok (.iastore, 1) := by decide +kernel
theorem dX11_wishes_113 : decode cX11_wishes 113 = .ok (.dup, 1) := by decide +kernel
theorem dX11_wishes_114 : decode cX11_wishes 114 = .ok (.iconst 5, 1) := by decide +kernel
theorem dX11_wishes_115 : decode cX11_wishes 115 = .ok (.aload_n 0, 1) := by decide +kernel
theorem dX11_wishes_116 : decode cX11_wishes 116 = .ok (.getfield 124, 3) := by decide +kernel
theorem dX11_wishes_119 : decode cX11_wishes 119 = .ok (.ifCond .le 10, 3) := by decide +kernel
theorem dX11_wishes_122 : decode cX11_wishes 122 = .ok (.aload_n 0, 1) := by decide +kernel
theorem dX11_wishes_123 : decode cX11_wishes 123 = .ok (.getfield 130, 3) := by decide +kernel
theorem dX11_wishes_126 : decode cX11_wishes 126 = .ok (.goto 5, 3) := by decide +kernel
theorem dX11_wishes_129 : decode cX11_wishes 129 = .ok (.bipush 9, 2) := by decide +kernel
theorem dX11_wishes_131 : decode cX11_wishes 131 = .ok (.iastore, 1) := by decide +kernel
theorem dX11_wishes_132 : decode cX11_wishes 132 = .ok (.astore_n 3, 1) := by decide +kernel
theorem dX11_wishes_133 : decode cX11_wishes 133 = .ok (.bipush 9, 2) := by decide +kernel
theorem dX11_wishes_135 : decode cX11_wishes 135 = .ok (.istore 4, 2) := by decide +kernel
theorem dX11_wishes_137 : decode cX11_wishes 137 = .ok (.iconst 5, 1) := by decide +kernel
theorem dX11_wishes_138 : decode cX11_wishes 138 = .ok (.istore 5, 2) := by decide +kernel
theorem dX11_wishes_140 : decode cX11_wishes 140 = .ok (.iload 5, 2) := by decide +kernel
theorem dX11_wishes_142 : decode cX11_wishes 142 = .ok (.ifCond .lt 20, 3) := by decide +kernel
theorem dX11_wishes_145 : decode cX11_wishes 145 = .ok (.iload 4, 2) := by decide +kernel
theorem dX11_wishes_147 : decode cX11_wishes 147 = .ok (.aload_n 3, 1) := by decide +kernel
theorem dX11_wishes_148 : decode cX11_wishes 148 = .ok (.iload 5, 2) := by decide +kernel
theorem dX11_wishes_150 : decode cX11_wishes 150 = .ok (.iaload, 1) := by decide +kernel
theorem dX11_wishes_151 : decode cX11_wishes 151 = .ok (.invokestatic 186, 3) := by decide +kernel
theorem dX11_wishes_154 : decode cX11_wishes 154 = .ok (.istore 4, 2) := by decide +kernel
theorem dX11_wishes_156 : decode cX11_wishes 156 = .ok (.iinc 5 (-1), 3) := by decide +kernel
theorem dX11_wishes_159 : decode cX11_wishes 159 = .ok (.goto (-19), 3) := by decide +kernel
theorem dX11_wishes_162 : decode cX11_wishes 162 = .ok (.aload_n 2, 1) := by decide +kernel
theorem dX11_wishes_163 : decode cX11_wishes 163 = .ok (.bipush 45, 2) := by decide +kernel
theorem dX11_wishes_165 : decode cX11_wishes 165 = .ok (.putfield 217, 3) := by decide +kernel
theorem dX11_wishes_168 : decode cX11_wishes 168 = .ok (.iconst 5, 1) := by decide +kernel
theorem dX11_wishes_169 : decode cX11_wishes 169 = .ok (.istore 5, 2) := by decide +kernel
theorem dX11_wishes_171 : decode cX11_wishes 171 = .ok (.iload 5, 2) := by decide +kernel
theorem dX11_wishes_173 : decode cX11_wishes 173 = .ok (.ifCond .lt 38, 3) := by decide +kernel
theorem dX11_wishes_176 : decode cX11_wishes 176 = .ok (.aload_n 3, 1) := by decide +kernel
theorem dX11_wishes_177 : decode cX11_wishes 177 = .ok (.iload 5, 2) := by decide +kernel
theorem dX11_wishes_179 : decode cX11_wishes 179 = .ok (.iaload, 1) := by decide +kernel
theorem dX11_wishes_180 : decode cX11_wishes 180 = .ok (.iload 4, 2) := by decide +kernel
theorem dX11_wishes_182 : decode cX11_wishes 182 = .ok (.if_icmp .ne 23, 3) := by decide +kernel
theorem dX11_wishes_185 : decode cX11_wishes 185 = .ok (.iload 4, 2) := by decide +kernel
theorem dX11_wishes_187 : decode cX11_wishes 187 = .ok (.aload_n 2, 1) := by decide +kernel
theorem dX11_wishes_188 : decode cX11_wishes 188 = .ok (.getfield 180, 3) := by decide +kernel
theorem dX11_wishes_191 : decode cX11_wishes 191 = .ok (.if_icmp .ge 14, 3) := by decide +kernel
theorem dX11_wishes_194 : decode cX11_wishes 194 = .ok (.aload_n 2, 1) := by decide +kernel
theorem dX11_wishes_195 : decode cX11_wishes 195 = .ok (.ldc 220, 2) := by decide +kernel
theorem dX11_wishes_197 : decode cX11_wishes 197 = .ok (.iload 5, 2) := by decide +kernel
theorem dX11_wishes_199 : decode cX11_wishes 199 = .ok (.invokevirtual 222, 3) := by decide +kernel
theorem dX11_wishes_202 : decode cX11_wishes 202 = .ok (.putfield 217, 3) := by decide +kernel
theorem dX11_wishes_205 : decode cX11_wishes 205 = .ok (.iinc 5 (-1), 3) := by decide +kernel
theorem dX11_wishes_208 : decode cX11_wishes 208 = .ok (.goto (-37), 3) := by decide +kernel
theorem dX11_wishes_211 : decode cX11_wishes 211 = .ok (.aload_n 2, 1) := by decide +kernel
theorem dX11_wishes_212 : decode cX11_wishes 212 = .ok (.aload_n 2, 1) := by decide +kernel
theorem dX11_wishes_213 : decode cX11_wishes 213 = .ok (.getfield 192, 3) := by decide +kernel
theorem dX11_wishes_216 : decode cX11_wishes 216 = .ok (.bipush 97, 2) := by decide +kernel
theorem dX11_wishes_218 : decode cX11_wishes 218 = .ok (.if_icmp .ne 15, 3) := by decide +kernel
theorem dX11_wishes_221 : decode cX11_wishes 221 = .ok (.aload_n 2, 1) := by decide +kernel
theorem dX11_wishes_222 : decode cX11_wishes 222 = .ok (.getfield 180, 3) := by decide +kernel
theorem dX11_wishes_225 : decode cX11_wishes 225 = .ok (.iload 4, 2) := by decide +kernel
theorem dX11_wishes_227 : decode cX11_wishes 227 = .ok (.invokestatic 186, 3) := by decide +kernel
theorem dX11_wishes_230 : decode cX11_wishes 230 = .ok (.goto 4, 3) := by decide +kernel
theorem dX11_wishes_233 : decode cX11_wishes 233 = .ok (.iconst 0, 1) := by decide +kernel
theorem dX11_wishes_234 : decode cX11_wishes 234 = .ok (.putfield 228, 3) := by decide +kernel
theorem dX11_wishes_237 : decode cX11_wishes 237 = .ok (.goto (-227), 3) := by decide +kernel
theorem dX11_wishes_240 : decode cX11_wishes 240 = .ok (.return_, 1) := by decide +kernel
set_option maxRecDepth 20000 in
theorem ggX11_rails_Jx4a65c_size_8abf5 : GoodIn wsX11_rails wsJx4a65c_size_8abf5 := goodIn_r _ [16, 17, 90, 91, 92] (by decide +kernel) (by decide +kernel)
set_option maxRecDepth 20000 in
theorem gX11_rails_Jx4a65c_size_8abf5_f46Jx4a65c : GoodIn wsX11_rails (va_wsF RX11 46 RJx4a65c ⟨"java/util/List", "size", "()I"⟩ yJx4a65c_size_8abf5 wsJx4a65c_size_8abf5) := goodIn_app (goodIn_of _ (by decide +kernel)) ggX11_rails_Jx4a65c_size_8abf5
set_option maxRecDepth 20000 in
theorem ggX11_rails_Jx4a65c_get_915e3 : GoodIn wsX11_rails wsJx4a65c_get_915e3 := goodIn_r _ [21, 17, 22, 23, 24, 25, 26, 27, 28, 29, 30, 31, 32, 15, 33, 34, 90, 91, 92] (by decide +kernel) (by decide +kernel)
set_option maxRecDepth 20000 in
theorem gX11_rails_Jx4a65c_get_915e3_f101Jx4a65c : GoodIn wsX11_rails (va_wsF RX11 101 RJx4a65c ⟨"java/util/List", "get", "(I)Ljava/lang/Object;"⟩ yJx4a65c_get_915e3 wsJx4a65c_get_915e3) := goodIn_app (goodIn_of _ (by decide +kernel)) ggX11_rails_Jx4a65c_get_915e3
set_option maxRecDepth 20000 in
theorem ggX11_rails_X9_need : GoodIn wsX11_rails wsX9_need := goodIn_r _ [38, 39, 40, 41, 36, 42, 43, 71, 72, 73, 74, 75, 76, 77, 78, 79, 80, 81, 82, 83, 84, 85, 86, 87, 88, 89] (by decide +kernel) (by decide +kernel)
set_option maxRecDepth 20000 in
theorem gX11_rails_X9_need_n234 : GoodIn wsX11_rails (wsX9_need) := ggX11_rails_X9_need
theorem dX11_rails_0 : decode cX11_rails 0 = .ok (.iconst 0, 1) := by decide +kernel
theorem dX11_rails_1 : decode cX11_rails 1 = .ok (.istore_n 1, 1) := by decide +kernel
theorem dX11_rails_2 : decode cX11_rails 2 = .ok (.iload_n 1, 1) := by decide +kernel
theorem dX11_rails_3 : decode cX11_rails 3 = .ok (.iconst 3, 1) := by decide +kernel
theorem dX11_rails_4 : decode cX11_rails 4 = .ok (.if_icmp .ge 124, 3) := by decide +kernel
theorem dX11_rails_7 : decode cX11_rails 7 = .ok (.sipush 500, 3) := by decide +kernel
theorem dX11_rails_10 : decode cX11_rails 10 = .ok (.istore_n 2, 1) := by decide +kernel
theorem dX11_rails_11 : decode cX11_rails 11 = .ok (.iconst 0, 1) := by decide +kernel
theorem dX11_rails_12 : decode cX11_rails 12 = .ok (.istore_n 3, 1) := by decide +kernel
theorem dX11_rails_13 : decode cX11_rails 13 = .ok (.iload_n 3, 1) := by decide +kernel
theorem dX11_rails_14 : decode cX11_rails 14 = .ok (.aload_n 0, 1) := by decide +kernel
theorem dX11_rails_15 : decode cX11_rails 15 = .ok (.getfield 10, 3) := by decide +kernel
theorem dX11_rails_18 : decode cX11_rails 18 = .ok (.invokeinterface 46 1, 5) := by decide +kernel
theorem dX11_rails_23 : decode cX11_rails 23 = .ok (.if_icmp .ge 72, 3) := by decide +kernel
theorem dX11_rails_26 : decode cX11_rails 26 = .ok (.aload_n 0, 1) := by decide +kernel
theorem dX11_rails_27 : decode cX11_rails 27 = .ok (.getfield 10, 3) := by decide +kernel
theorem dX11_rails_30 : decode cX11_rails 30 = .ok (.iload_n 3, 1) := by decide +kernel
theorem dX11_rails_31 : decode cX11_rails 31 = .ok (.invokeinterface 101 2, 5) := by decide +kernel
theorem dX11_rails_36 : decode cX11_rails 36 = .ok (.checkcast 82, 3) := by decide +kernel
theorem dX11_rails_39 : decode cX11_rails 39 = .ok (.getfield 231, 3) := by decide +kernel
theorem dX11_rails_42 : decode cX11_rails 42 = .ok (.iload_n 1, 1) := by decide +kernel
theorem dX11_rails_43 : decode cX11_rails 43 = .ok (.if_icmp .ne 46, 3) := by decide +kernel
theorem dX11_rails_46 : decode cX11_rails 46 = .ok (.iload_n 2, 1) := by decide +kernel
theorem dX11_rails_47 : decode cX11_rails 47 = .ok (.aload_n 0, 1) := by decide +kernel
theorem dX11_rails_48 : decode cX11_rails 48 = .ok (.getfield 10, 3) := by decide +kernel
theorem dX11_rails_51 : decode cX11_rails 51 = .ok (.iload_n 3, 1) := by decide +kernel
theorem dX11_rails_52 : decode cX11_rails 52 = .ok (.invokeinterface 101 2, 5) := by decide +kernel
theorem dX11_rails_57 : decode cX11_rails 57 = .ok (.checkcast 82, 3) := by decide +kernel
theorem dX11_rails_60 : decode cX11_rails 60 = .ok (.aload_n 0, 1) := by decide +kernel
theorem dX11_rails_61 : decode cX11_rails 61 = .ok (.getfield 10, 3) := by decide +kernel
theorem dX11_rails_64 : decode cX11_rails 64 = .ok (.iload_n 3, 1) := by decide +kernel
theorem dX11_rails_65 : decode cX11_rails 65 = .ok (.invokeinterface 101 2, 5) := by decide +kernel
theorem dX11_rails_70 : decode cX11_rails 70 = .ok (.checkcast 82, 3) := by decide +kernel
theorem dX11_rails_73 : decode cX11_rails 73 = .ok (.getfield 228, 3) := by decide +kernel
theorem dX11_rails_76 : decode cX11_rails 76 = .ok (.aload_n 0, 1) := by decide +kernel
theorem dX11_rails_77 : decode cX11_rails 77 = .ok (.getfield 23, 3) := by decide +kernel
theorem dX11_rails_80 : decode cX11_rails 80 = .ok (.iload_n 3, 1) := by decide +kernel
theorem dX11_rails_81 : decode cX11_rails 81 = .ok (.iaload, 1) := by decide +kernel
theorem dX11_rails_82 : decode cX11_rails 82 = .ok (.invokevirtual 234, 3) := by decide +kernel
theorem dX11_rails_85 : decode cX11_rails 85 = .ok (.invokestatic 189, 3) := by decide +kernel
theorem dX11_rails_88 : decode cX11_rails 88 = .ok (.istore_n 2, 1) := by decide +kernel
theorem dX11_rails_89 : decode cX11_rails 89 = .ok (.iinc 3 1, 3) := by decide +kernel
theorem dX11_rails_92 : decode cX11_rails 92 = .ok (.goto (-79), 3) := by decide +kernel
theorem dX11_rails_95 : decode cX11_rails 95 = .ok (.aload_n 0, 1) := by decide +kernel
theorem dX11_rails_96 : decode cX11_rails 96 = .ok (.getfield 19, 3) := by decide +kernel
theorem dX11_rails_99 : decode cX11_rails 99 = .ok (.iload_n 1, 1) := by decide +kernel
theorem dX11_rails_100 : decode cX11_rails 100 = .ok (.dup2, 1) := by decide +kernel
theorem dX11_rails_101 : decode cX11_rails 101 = .ok (.iaload, 1) := by decide +kernel
theorem dX11_rails_102 : decode cX11_rails 102 = .ok (.bipush (-20), 2) := by decide +kernel
theorem dX11_rails_104 : decode cX11_rails 104 = .ok (.bipush 20, 2) := by decide +kernel
theorem dX11_rails_106 : decode cX11_rails 106 = .ok (.iload_n 2, 1) := by decide +kernel
theorem dX11_rails_107 : decode cX11_rails 107 = .ok (.aload_n 0, 1) := by decide +kernel
theorem dX11_rails_108 : decode cX11_rails 108 = .ok (.getfield 19, 3) := by decide +kernel
theorem dX11_rails_111 : decode cX11_rails 111 = .ok (.iload_n 1, 1) := by decide +kernel
theorem dX11_rails_112 : decode cX11_rails 112 = .ok (.iaload, 1) := by decide +kernel
theorem dX11_rails_113 : decode cX11_rails 113 = .ok (.isub, 1) := by decide +kernel
theorem dX11_rails_114 : decode cX11_rails 114 = .ok (.invokestatic 186, 3) := by decide +kernel
theorem dX11_rails_117 : decode cX11_rails 117 = .ok (.invokestatic 189, 3) := by decide +kernel
theorem dX11_rails_120 : decode cX11_rails 120 = .ok (.iadd, 1) := by decide +kernel
theorem dX11_rails_121 : decode cX11_rails 121 = .ok (.iastore, 1) := by decide +kernel
theorem dX11_rails_122 : decode cX11_rails 122 = .ok (.iinc 1 1, 3) := by decide +kernel
theorem dX11_rails_125 : decode cX11_rails 125 = .ok (.goto (-123), 3) := by decide +kernel
theorem dX11_rails_128 : decode cX11_rails 128 = .ok (.iconst 0, 1) := by decide +kernel
theorem dX11_rails_129 : decode cX11_rails 129 = .ok (.istore_n 1, 1) := by decide +kernel
theorem dX11_rails_130 : decode cX11_rails 130 = .ok (.iload_n 1, 1) := by decide +kernel
theorem dX11_rails_131 : decode cX11_rails 131 = .ok (.aload_n 0, 1) := by decide +kernel
theorem dX11_rails_132 : decode cX11_rails 132 = .ok (.getfield 10, 3) := by decide +kernel
theorem dX11_rails_135 : decode cX11_rails 135 = .ok (.invokeinterface 46 1, 5) := by decide +kernel
theorem dX11_rails_140 : decode cX11_rails 140 = .ok (.if_icmp .ge 77, 3) := by decide +kernel
theorem dX11_rails_143 : decode cX11_rails 143 = .ok (.aload_n 0, 1) := by decide +kernel
theorem dX11_rails_144 : decode cX11_rails 144 = .ok (.getfield 10, 3) := by decide +kernel
theorem dX11_rails_147 : decode cX11_rails 147 = .ok (.iload_n 1, 1) := by decide +kernel
theorem dX11_rails_148 : decode cX11_rails 148 = .ok (.invokeinterface 101 2, 5) := by decide +kernel
theorem dX11_rails_153 : decode cX11_rails 153 = .ok (.checkcast 82, 3) := by decide +kernel
theorem dX11_rails_156 : decode cX11_rails 156 = .ok (.astore_n 2, 1) := by decide +kernel
theorem dX11_rails_157 : decode cX11_rails 157 = .ok (.aload_n 2, 1) := by decide +kernel
theorem dX11_rails_158 : decode cX11_rails 158 = .ok (.aload_n 2, 1) := by decide +kernel
theorem dX11_rails_159 : decode cX11_rails 159 = .ok (.getfield 228, 3) := by decide +kernel
theorem dX11_rails_162 : decode cX11_rails 162 = .ok (.putfield 173, 3) := by decide +kernel
theorem dX11_rails_165 : decode cX11_rails 165 = .ok (.aload_n 2, 1) := by decide +kernel
theorem dX11_rails_166 : decode cX11_rails 166 = .ok (.getfield 173, 3) := by decide +kernel
theorem dX11_rails_169 : decode cX11_rails 169 = .ok (.ifCond .le 42, 3) := by decide +kernel
theorem dX11_rails_172 : decode cX11_rails 172 = .ok (.aload_n 2, 1) := by decide +kernel
theorem dX11_rails_173 : decode cX11_rails 173 = .ok (.aload_n 2, 1) := by decide +kernel
theorem dX11_rails_174 : decode cX11_rails 174 = .ok (.getfield 173, 3) := by decide +kernel
theorem dX11_rails_177 : decode cX11_rails 177 = .ok (.aload_n 0, 1) := by decide +kernel
theorem dX11_rails_178 : decode cX11_rails 178 = .ok (.getfield 23, 3) := by decide +kernel
theorem dX11_rails_181 : decode cX11_rails 181 = .ok (.iload_n 1, 1) := by decide +kernel
theorem dX11_rails_182 : decode cX11_rails 182 = .ok (.iaload, 1) := by decide +kernel
theorem dX11_rails_183 : decode cX11_rails 183 = .ok (.invokevirtual 234, 3) := by decide +kernel
theorem dX11_rails_186 : decode cX11_rails 186 = .ok (.aload_n 0, 1) := by decide +kernel
theorem dX11_rails_187 : decode cX11_rails 187 = .ok (.getfield 19, 3) := by decide +kernel
theorem dX11_rails_190 : decode cX11_rails 190 = .ok (.aload_n 2, 1) := by decide +kernel
theorem dX11_rails_191 : decode cX11_rails 191 = .ok (.getfield 231, 3) := by decide +kernel
theorem dX11_rails_194 : decode cX11_rails 194 = .ok (.iaload, 1) := by decide +kernel
theorem dX11_rails_195 : decode cX11_rails 195 = .ok (.if_icmp .le 16, 3) := by decide +kernel
theorem dX11_rails_198 : decode cX11_rails 198 = .ok (.aload_n 2, 1) := by decide +kernel
theorem dX11_rails_199 : decode cX11_rails 199 = .ok (.dup, 1) := by decide +kernel
theorem dX11_rails_200 : decode cX11_rails 200 = .ok (.getfield 173, 3) := by decide +kernel
theorem dX11_rails_203 : decode cX11_rails 203 = .ok (.iconst 1, 1) := by decide +kernel
theorem dX11_rails_204 : decode cX11_rails 204 = .ok (.isub, 1) := by decide +kernel
theorem dX11_rails_205 : decode cX11_rails 205 = .ok (.putfield 173, 3) := by decide +kernel
theorem dX11_rails_208 : decode cX11_rails 208 = .ok (.goto (-43), 3) := by decide +kernel
theorem dX11_rails_211 : decode cX11_rails 211 = .ok (.iinc 1 1, 3) := by decide +kernel
theorem dX11_rails_214 : decode cX11_rails 214 = .ok (.goto (-84), 3) := by decide +kernel
theorem dX11_rails_217 : decode cX11_rails 217 = .ok (.return_, 1) := by decide +kernel
set_option maxRecDepth 20000 in
theorem ggX11_works_Jx4a65c_size_8abf5 : GoodIn wsX11_works wsJx4a65c_size_8abf5 := goodIn_r _ [11, 12, 119, 120, 121] (by decide +kernel) (by decide +kernel)
set_option maxRecDepth 20000 in
theorem gX11_works_Jx4a65c_size_8abf5_f46Jx4a65c : GoodIn wsX11_works (va_wsF RX11 46 RJx4a65c ⟨"java/util/List", "size", "()I"⟩ yJx4a65c_size_8abf5 wsJx4a65c_size_8abf5) := goodIn_app (goodIn_of _ (by decide +kernel)) ggX11_works_Jx4a65c_size_8abf5
set_option maxRecDepth 20000 in
theorem ggX11_works_Jx4a65c_get_915e3 : GoodIn wsX11_works wsJx4a65c_get_915e3 := goodIn_r _ [16, 12, 17, 18, 19, 20, 21, 22, 23, 24, 25, 26, 27, 10, 28, 29, 119, 120, 121] (by decide +kernel) (by decide +kernel)
set_option maxRecDepth 20000 in
theorem gX11_works_Jx4a65c_get_915e3_f101Jx4a65c : GoodIn wsX11_works (va_wsF RX11 101 RJx4a65c ⟨"java/util/List", "get", "(I)Ljava/lang/Object;"⟩ yJx4a65c_get_915e3 wsJx4a65c_get_915e3) := goodIn_app (goodIn_of _ (by decide +kernel)) ggX11_works_Jx4a65c_get_915e3
set_option maxRecDepth 20000 in
theorem ggX11_works_X11_running_c0 : GoodIn wsX11_works (wsX11_running.take 30) := goodIn_r _ [34, 35, 36, 37, 38, 39, 10, 40, 41, 42, 43, 44, 45, 46, 47, 48, 49, 50, 51, 52, 53, 54, 55, 56, 57, 58, 59, 60, 61, 62] (by decide +kernel) (by decide +kernel)
set_option maxRecDepth 20000 in
theorem ggX11_works_X11_running_c1 : GoodIn wsX11_works ((wsX11_running.drop 30).take 30) := goodIn_r _ [63, 64, 65, 66, 67, 68, 69, 70, 71, 72, 73, 74, 75, 76, 77, 78, 79, 80, 81, 82, 83, 84, 85, 86, 87, 88, 89, 90, 91, 92] (by decide +kernel) (by decide +kernel)
set_option maxRecDepth 20000 in
theorem ggX11_works_X11_running_c2 : GoodIn wsX11_works ((wsX11_running.drop 30).drop 30) := goodIn_r _ [93, 94, 95, 115, 116, 117, 118, 122, 123, 124, 125, 119, 120, 121] (by decide +kernel) (by decide +kernel)
theorem ggX11_works_X11_running : GoodIn wsX11_works wsX11_running := (goodIn_td 30 ggX11_works_X11_running_c0 (goodIn_td 30 ggX11_works_X11_running_c1 ggX11_works_X11_running_c2))
set_option maxRecDepth 20000 in
theorem gX11_works_X11_running : GoodIn wsX11_works (wsV RX11 169 RX11 yX11_running wsX11_running) := goodIn_app (goodIn_of _ (by decide +kernel)) ggX11_works_X11_running
theorem dX11_works_0 : decode cX11_works 0 = .ok (.iconst 0, 1) := by decide +kernel
theorem dX11_works_1 : decode cX11_works 1 = .ok (.istore_n 1, 1) := by decide +kernel
theorem dX11_works_2 : decode cX11_works 2 = .ok (.iload_n 1, 1) := by decide +kernel
theorem dX11_works_3 : decode cX11_works 3 = .ok (.aload_n 0, 1) := by decide +kernel
theorem dX11_works_4 : decode cX11_works 4 = .ok (.getfield 10, 3) := by decide +kernel
theorem dX11_works_7 : decode cX11_works 7 = .ok (.invokeinterface 46 1, 5) := by decide +kernel
theorem dX11_works_12 : decode cX11_works 12 = .ok (.if_icmp .ge 120, 3) := by decide +kernel
theorem dX11_works_15 : decode cX11_works 15 = .ok (.aload_n 0, 1) := by decide +kernel
theorem dX11_works_16 : decode cX11_works 16 = .ok (.getfield 10, 3) := by decide +kernel
theorem dX11_works_19 : decode cX11_works 19 = .ok (.iload_n 1, 1) := by decide +kernel
theorem dX11_works_20 : decode cX11_works 20 = .ok (.invokeinterface 101 2, 5) := by decide +kernel
theorem dX11_works_25 : decode cX11_works 25 = .ok (.checkcast 82, 3) := by decide +kernel
theorem dX11_works_28 : decode cX11_works 28 = .ok (.astore_n 2, 1) := by decide +kernel
theorem dX11_works_29 : decode cX11_works 29 = .ok (.aload_n 0, 1) := by decide +kernel
theorem dX11_works_30 : decode cX11_works 30 = .ok (.iload_n 1, 1) := by decide +kernel
theorem dX11_works_31 : decode cX11_works 31 = .ok (.invokevirtual 169, 3) := by decide +kernel
theorem dX11_works_34 : decode cX11_works 34 = .ok (.astore_n 3, 1) := by decide +kernel
theorem dX11_works_35 : decode cX11_works 35 = .ok (.aload_n 3, 1) := by decide +kernel
theorem dX11_works_36 : decode cX11_works 36 = .ok (.ifnull 90, 3) := by decide +kernel
theorem dX11_works_39 : decode cX11_works 39 = .ok (.aload_n 2, 1) := by decide +kernel
theorem dX11_works_40 : decode cX11_works 40 = .ok (.getfield 173, 3) := by decide +kernel
theorem dX11_works_43 : decode cX11_works 43 = .ok (.ifCond .ne 6, 3) := by decide +kernel
theorem dX11_works_46 : decode cX11_works 46 = .ok (.goto 80, 3) := by decide +kernel
theorem dX11_works_49 : decode cX11_works 49 = .ok (.iconst 1, 1) := by decide +kernel
theorem dX11_works_50 : decode cX11_works 50 = .ok (.aload_n 2, 1) := by decide +kernel
theorem dX11_works_51 : decode cX11_works 51 = .ok (.getfield 173, 3) := by decide +kernel
theorem dX11_works_54 : decode cX11_works 54 = .ok (.aload_n 2, 1) := by decide +kernel
theorem dX11_works_55 : decode cX11_works 55 = .ok (.getfield 237, 3) := by decide +kernel
theorem dX11_works_58 : decode cX11_works 58 = .ok (.ifCond .eq 7, 3) := by decide +kernel
theorem dX11_works_61 : decode cX11_works 61 = .ok (.iconst 3, 1) := by decide +kernel
theorem dX11_works_62 : decode cX11_works 62 = .ok (.goto 4, 3) := by decide +kernel
theorem dX11_works_65 : decode cX11_works 65 = .ok (.iconst 2, 1) := by decide +kernel
theorem dX11_works_66 : decode cX11_works 66 = .ok (.imul, 1) := by decide +kernel
theorem dX11_works_67 : decode cX11_works 67 = .ok (.bipush 10, 2) := by decide +kernel
theorem dX11_works_69 : decode cX11_works 69 = .ok (.aload_n 3, 1) := by decide +kernel
theorem dX11_works_70 : decode cX11_works 70 = .ok (.getfield 240, 3) := by decide +kernel
theorem dX11_works_73 : decode cX11_works 73 = .ok (.isub, 1) := by decide +kernel
theorem dX11_works_74 : decode cX11_works 74 = .ok (.imul, 1) := by decide +kernel
theorem dX11_works_75 : decode cX11_works 75 = .ok (.bipush 10, 2) := by decide +kernel
theorem dX11_works_77 : decode cX11_works 77 = .ok (.idiv, 1) := by decide +kernel
theorem dX11_works_78 : decode cX11_works 78 = .ok (.invokestatic 189, 3) := by decide +kernel
theorem dX11_works_81 : decode cX11_works 81 = .ok (.istore 4, 2) := by decide +kernel
theorem dX11_works_83 : decode cX11_works 83 = .ok (.aload_n 3, 1) := by decide +kernel
theorem dX11_works_84 : decode cX11_works 84 = .ok (.iconst 0, 1) := by decide +kernel
theorem dX11_works_85 : decode cX11_works 85 = .ok (.aload_n 3, 1) := by decide +kernel
theorem dX11_works_86 : decode cX11_works 86 = .ok (.getfield 75, 3) := by decide +kernel
theorem dX11_works_89 : decode cX11_works 89 = .ok (.aload_n 3, 1) := by decide +kernel
theorem dX11_works_90 : decode cX11_works 90 = .ok (.getfield 106, 3) := by decide +kernel
theorem dX11_works_93 : decode cX11_works 93 = .ok (.ifCond .le 10, 3) := by decide +kernel
theorem dX11_works_96 : decode cX11_works 96 = .ok (.iload 4, 2) := by decide +kernel
theorem dX11_works_98 : decode cX11_works 98 = .ok (.iconst 2, 1) := by decide +kernel
theorem dX11_works_99 : decode cX11_works 99 = .ok (.idiv, 1) := by decide +kernel
theorem dX11_works_100 : decode cX11_works 100 = .ok (.goto 5, 3) := by decide +kernel
theorem dX11_works_103 : decode cX11_works 103 = .ok (.iload 4, 2) := by decide +kernel
theorem dX11_works_105 : decode cX11_works 105 = .ok (.isub, 1) := by decide +kernel
theorem dX11_works_106 : decode cX11_works 106 = .ok (.invokestatic 189, 3) := by decide +kernel
theorem dX11_works_109 : decode cX11_works 109 = .ok (.putfield 75, 3) := by decide +kernel
theorem dX11_works_112 : decode cX11_works 112 = .ok (.aload_n 3, 1) := by decide +kernel
theorem dX11_works_113 : decode cX11_works 113 = .ok (.iconst 0, 1) := by decide +kernel
theorem dX11_works_114 : decode cX11_works 114 = .ok (.aload_n 3, 1) := by decide +kernel
theorem dX11_works_115 : decode cX11_works 115 = .ok (.getfield 106, 3) := by decide +kernel
theorem dX11_works_118 : decode cX11_works 118 = .ok (.iconst 1, 1) := by decide +kernel
theorem dX11_works_119 : decode cX11_works 119 = .ok (.isub, 1) := by decide +kernel
theorem dX11_works_120 : decode cX11_works 120 = .ok (.invokestatic 189, 3) := by decide +kernel
theorem dX11_works_123 : decode cX11_works 123 = .ok (.putfield 106, 3) := by decide +kernel
theorem dX11_works_126 : decode cX11_works 126 = .ok (.iinc 1 1, 3) := by decide +kernel
theorem dX11_works_129 : decode cX11_works 129 = .ok (.goto (-127), 3) := by decide +kernel
theorem dX11_works_132 : decode cX11_works 132 = .ok (.return_, 1) := by decide +kernel
set_option maxRecDepth 20000 in
theorem ggX11_heats_Jx4a65c_size_8abf5 : GoodIn wsX11_heats wsJx4a65c_size_8abf5 := goodIn_r _ [13, 14, 135, 136, 137] (by decide +kernel) (by decide +kernel)
set_option maxRecDepth 20000 in
theorem gX11_heats_Jx4a65c_size_8abf5_f46Jx4a65c : GoodIn wsX11_heats (va_wsF RX11 46 RJx4a65c ⟨"java/util/List", "size", "()I"⟩ yJx4a65c_size_8abf5 wsJx4a65c_size_8abf5) := goodIn_app (goodIn_of _ (by decide +kernel)) ggX11_heats_Jx4a65c_size_8abf5
set_option maxRecDepth 20000 in
theorem ggX11_heats_Jx4a65c_get_915e3 : GoodIn wsX11_heats wsJx4a65c_get_915e3 := goodIn_r _ [18, 14, 19, 20, 21, 22, 23, 24, 25, 26, 27, 28, 29, 12, 30, 31, 135, 136, 137] (by decide +kernel) (by decide +kernel)
set_option maxRecDepth 20000 in
theorem gX11_heats_Jx4a65c_get_915e3_f101Jx4a65c : GoodIn wsX11_heats (va_wsF RX11 101 RJx4a65c ⟨"java/util/List", "get", "(I)Ljava/lang/Object;"⟩ yJx4a65c_get_915e3 wsJx4a65c_get_915e3) := goodIn_app (goodIn_of _ (by decide +kernel)) ggX11_heats_Jx4a65c_get_915e3
set_option maxRecDepth 20000 in
theorem ggX11_heats_X9_degrees : GoodIn wsX11_heats wsX9_degrees := goodIn_r _ [35, 36, 116, 117, 118, 119, 120, 121, 122, 123, 124, 125, 126, 127, 128, 129, 130, 131, 132, 133, 134] (by decide +kernel) (by decide +kernel)
set_option maxRecDepth 20000 in
theorem gX11_heats_X9_degrees_n133 : GoodIn wsX11_heats (wsX9_degrees) := ggX11_heats_X9_degrees
set_option maxRecDepth 20000 in
theorem ggX11_heats_Jx4a65c_iterator_32c93 : GoodIn wsX11_heats wsJx4a65c_iterator_32c93 := goodIn_r _ [40, 41, 42, 43, 44, 45, 46, 47, 48, 49, 50, 51, 52, 53, 54, 138, 139, 140, 141, 135, 136, 137] (by decide +kernel) (by decide +kernel)
set_option maxRecDepth 20000 in
theorem gX11_heats_Jx4a65c_iterator_32c93_f56Jx4a65c : GoodIn wsX11_heats (va_wsF RX11 56 RJx4a65c ⟨"java/util/List", "iterator", "()Ljava/util/Iterator;"⟩ yJx4a65c_iterator_32c93 wsJx4a65c_iterator_32c93) := goodIn_app (goodIn_of _ (by decide +kernel)) ggX11_heats_Jx4a65c_iterator_32c93
set_option maxRecDepth 20000 in
theorem ggX11_heats_Jx35411_hasNext_aae02 : GoodIn wsX11_heats wsJx35411_hasNext_aae02 := goodIn_r _ [58, 59, 47, 138, 139, 140, 141, 135, 136, 137] (by decide +kernel) (by decide +kernel)
set_option maxRecDepth 20000 in
theorem gX11_heats_Jx35411_hasNext_aae02_f60Jx35411 : GoodIn wsX11_heats (va_wsF RX11 60 RJx35411 ⟨"java/util/Iterator", "hasNext", "()Z"⟩ yJx35411_hasNext_aae02 wsJx35411_hasNext_aae02) := goodIn_app (goodIn_of _ (by decide +kernel)) ggX11_heats_Jx35411_hasNext_aae02
set_option maxRecDepth 20000 in
theorem ggX11_heats_Jx35411_next_0502b : GoodIn wsX11_heats wsJx35411_next_0502b := goodIn_r _ [63, 59, 47, 64, 51, 65, 66, 67, 43, 68, 52, 53, 54, 138, 139, 140, 141, 135, 136, 137] (by decide +kernel) (by decide +kernel)
set_option maxRecDepth 20000 in
theorem gX11_heats_Jx35411_next_0502b_f66Jx35411 : GoodIn wsX11_heats (va_wsF RX11 66 RJx35411 ⟨"java/util/Iterator", "next", "()Ljava/lang/Object;"⟩ yJx35411_next_0502b wsJx35411_next_0502b) := goodIn_app (goodIn_of _ (by decide +kernel)) ggX11_heats_Jx35411_next_0502b
set_option maxRecDepth 20000 in
theorem ggX11_heats_X11_supplies : GoodIn wsX11_heats wsX11_supplies := goodIn_r _ [73, 74, 8, 75, 76, 77, 78, 79, 80, 81, 82, 83, 84, 85, 86, 87, 88, 89, 90, 91, 92, 93, 94, 95, 96, 97, 98, 99, 100, 101, 102, 103, 104, 105, 106, 107, 108, 109, 110, 111, 112, 113, 114, 115] (by decide +kernel) (by decide +kernel)
set_option maxRecDepth 20000 in
theorem gX11_heats_X11_supplies : GoodIn wsX11_heats (wsV RX11 259 RX11 yX11_supplies wsX11_supplies) := goodIn_app (goodIn_of _ (by decide +kernel)) ggX11_heats_X11_supplies
theorem dX11_heats_0 : decode cX11_heats 0 = .ok (.iconst 0, 1) := by decide +kernel
theorem dX11_heats_1 : decode cX11_heats 1 = .ok (.istore_n 1, 1) := by decide +kernel
theorem dX11_heats_2 : decode cX11_heats 2 = .ok (.iconst 0, 1) := by decide +kernel
theorem dX11_heats_3 : decode cX11_heats 3 = .ok (.istore_n 2, 1) := by decide +kernel
theorem dX11_heats_4 : decode cX11_heats 4 = .ok (.iload_n 2, 1) := by decide +kernel
theorem dX11_heats_5 : decode cX11_heats 5 = .ok (.aload_n 0, 1) := by decide +kernel
theorem dX11_heats_6 : decode cX11_heats 6 = .ok (.getfield 10, 3) := by decide +kernel
theorem dX11_heats_9 : decode cX11_heats 9 = .ok (.invokeinterface 46 1, 5) := by decide +kernel
theorem dX11_heats_14 : decode cX11_heats 14 = .ok (.if_icmp .ge 136, 3) := by decide +kernel
theorem dX11_heats_17 : decode cX11_heats 17 = .ok (.aload_n 0, 1) := by decide +kernel
theorem dX11_heats_18 : decode cX11_heats 18 = .ok (.getfield 10, 3) := by decide +kernel
theorem dX11_heats_21 : decode cX11_heats 21 = .ok (.iload_n 2, 1) := by decide +kernel
theorem dX11_heats_22 : decode cX11_heats 22 = .ok (.invokeinterface 101 2, 5) := by decide +kernel
theorem dX11_heats_27 : decode cX11_heats 27 = .ok (.checkcast 82, 3) := by decide +kernel
theorem dX11_heats_30 : decode cX11_heats 30 = .ok (.astore_n 3, 1) := by decide +kernel
theorem dX11_heats_31 : decode cX11_heats 31 = .ok (.aload_n 0, 1) := by decide +kernel
theorem dX11_heats_32 : decode cX11_heats 32 = .ok (.getfield 19, 3) := by decide +kernel
theorem dX11_heats_35 : decode cX11_heats 35 = .ok (.aload_n 3, 1) := by decide +kernel
theorem dX11_heats_36 : decode cX11_heats 36 = .ok (.getfield 231, 3) := by decide +kernel
theorem dX11_heats_39 : decode cX11_heats 39 = .ok (.iaload, 1) := by decide +kernel
theorem dX11_heats_40 : decode cX11_heats 40 = .ok (.aload_n 3, 1) := by decide +kernel
theorem dX11_heats_41 : decode cX11_heats 41 = .ok (.invokevirtual 133, 3) := by decide +kernel
