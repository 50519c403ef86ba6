theorem dX0_init_0 : decode cX0_init 0 = .ok (.aload_n 0, 1) := by decide +kernel
theorem dX0_init_1 : decode cX0_init 1 = .ok (.invokespecial 3, 3) := by decide +kernel
theorem dX0_init_4 : decode cX0_init 4 = .ok (.aload_n 0, 1) := by decide +kernel
theorem dX0_init_5 : decode cX0_init 5 = .ok (.bipush 96, 2) := by decide +kernel
theorem dX0_init_7 : decode cX0_init 7 = .ok (.newarray .int, 2) := by decide +kernel
theorem dX0_init_9 : decode cX0_init 9 = .ok (.putfield 9, 3) := by decide +kernel
theorem dX0_init_12 : decode cX0_init 12 = .ok (.aload_n 0, 1) := by decide +kernel
theorem dX0_init_13 : decode cX0_init 13 = .ok (.iconst 0, 1) := by decide +kernel
theorem dX0_init_14 : decode cX0_init 14 = .ok (.putfield 15, 3) := by decide +kernel
theorem dX0_init_17 : decode cX0_init 17 = .ok (.return_, 1) := by decide +kernel
theorem dX0_isFull_0 : decode cX0_isFull 0 = .ok (.aload_n 0, 1) := by decide +kernel
theorem dX0_isFull_1 : decode cX0_isFull 1 = .ok (.getfield 15, 3) := by decide +kernel
theorem dX0_isFull_4 : decode cX0_isFull 4 = .ok (.bipush 96, 2) := by decide +kernel
theorem dX0_isFull_6 : decode cX0_isFull 6 = .ok (.if_icmp .lt 7, 3) := by decide +kernel
theorem dX0_isFull_9 : decode cX0_isFull 9 = .ok (.iconst 1, 1) := by decide +kernel
theorem dX0_isFull_10 : decode cX0_isFull 10 = .ok (.goto 4, 3) := by decide +kernel
theorem dX0_isFull_13 : decode cX0_isFull 13 = .ok (.iconst 0, 1) := by decide +kernel
theorem dX0_isFull_14 : decode cX0_isFull 14 = .ok (.ireturn, 1) := by decide +kernel
theorem dX0_lettersIn_0 : decode cX0_lettersIn 0 = .ok (.aload_n 0, 1) := by decide +kernel
theorem dX0_lettersIn_1 : decode cX0_lettersIn 1 = .ok (.getfield 15, 3) := by decide +kernel
theorem dX0_lettersIn_4 : decode cX0_lettersIn 4 = .ok (.ireturn, 1) := by decide +kernel
theorem dX0_take_0 : decode cX0_take 0 = .ok (.aload_n 0, 1) := by decide +kernel
theorem dX0_take_1 : decode cX0_take 1 = .ok (.invokevirtual 19, 3) := by decide +kernel
theorem dX0_take_4 : decode cX0_take 4 = .ok (.ifCond .ne 23, 3) := by decide +kernel
theorem dX0_take_7 : decode cX0_take 7 = .ok (.aload_n 0, 1) := by decide +kernel
theorem dX0_take_8 : decode cX0_take 8 = .ok (.getfield 9, 3) := by decide +kernel
theorem dX0_take_11 : decode cX0_take 11 = .ok (.aload_n 0, 1) := by decide +kernel
theorem dX0_take_12 : decode cX0_take 12 = .ok (.getfield 15, 3) := by decide +kernel
theorem dX0_take_15 : decode cX0_take 15 = .ok (.iload_n 1, 1) := by decide +kernel
theorem dX0_take_16 : decode cX0_take 16 = .ok (.iastore, 1) := by decide +kernel
theorem dX0_take_17 : decode cX0_take 17 = .ok (.aload_n 0, 1) := by decide +kernel
theorem dX0_take_18 : decode cX0_take 18 = .ok (.dup, 1) := by decide +kernel
theorem dX0_take_19 : decode cX0_take 19 = .ok (.getfield 15, 3) := by decide +kernel
theorem dX0_take_22 : decode cX0_take 22 = .ok (.iconst 1, 1) := by decide +kernel
theorem dX0_take_23 : decode cX0_take 23 = .ok (.iadd, 1) := by decide +kernel
theorem dX0_take_24 : decode cX0_take 24 = .ok (.putfield 15, 3) := by decide +kernel
theorem dX0_take_27 : decode cX0_take 27 = .ok (.aload_n 0, 1) := by decide +kernel
theorem dX0_take_28 : decode cX0_take 28 = .ok (.getfield 15, 3) := by decide +kernel
theorem dX0_take_31 : decode cX0_take 31 = .ok (.ireturn, 1) := by decide +kernel
theorem dX0_forget_0 : decode cX0_forget 0 = .ok (.aload_n 0, 1) := by decide +kernel
theorem dX0_forget_1 : decode cX0_forget 1 = .ok (.iconst 0, 1) := by decide +kernel
theorem dX0_forget_2 : decode cX0_forget 2 = .ok (.putfield 15, 3) := by decide +kernel
theorem dX0_forget_5 : decode cX0_forget 5 = .ok (.return_, 1) := by decide +kernel
theorem dX0_letterAt_0 : decode cX0_letterAt 0 = .ok (.iload_n 1, 1) := by decide +kernel
theorem dX0_letterAt_1 : decode cX0_letterAt 1 = .ok (.ifCond .lt 20, 3) := by decide +kernel
theorem dX0_letterAt_4 : decode cX0_letterAt 4 = .ok (.iload_n 1, 1) := by decide +kernel
theorem dX0_letterAt_5 : decode cX0_letterAt 5 = .ok (.aload_n 0, 1) := by decide +kernel
theorem dX0_letterAt_6 : decode cX0_letterAt 6 = .ok (.getfield 15, 3) := by decide +kernel
theorem dX0_letterAt_9 : decode cX0_letterAt 9 = .ok (.if_icmp .ge 12, 3) := by decide +kernel
theorem dX0_letterAt_12 : decode cX0_letterAt 12 = .ok (.aload_n 0, 1) := by decide +kernel
theorem dX0_letterAt_13 : decode cX0_letterAt 13 = .ok (.getfield 9, 3) := by decide +kernel
theorem dX0_letterAt_16 : decode cX0_letterAt 16 = .ok (.iload_n 1, 1) := by decide +kernel
theorem dX0_letterAt_17 : decode cX0_letterAt 17 = .ok (.iaload, 1) := by decide +kernel
theorem dX0_letterAt_18 : decode cX0_letterAt 18 = .ok (.goto 4, 3) := by decide +kernel
theorem dX0_letterAt_21 : decode cX0_letterAt 21 = .ok (.iconst (-1), 1) := by decide +kernel
theorem dX0_letterAt_22 : decode cX0_letterAt 22 = .ok (.ireturn, 1) := by decide +kernel
theorem dX0_isDigit_0 : decode cX0_isDigit 0 = .ok (.aload_n 0, 1) := by decide +kernel
theorem dX0_isDigit_1 : decode cX0_isDigit 1 = .ok (.iload_n 1, 1) := by decide +kernel
theorem dX0_isDigit_2 : decode cX0_isDigit 2 = .ok (.invokevirtual 23, 3) := by decide +kernel
theorem dX0_isDigit_5 : decode cX0_isDigit 5 = .ok (.istore_n 2, 1) := by decide +kernel
theorem dX0_isDigit_6 : decode cX0_isDigit 6 = .ok (.iload_n 2, 1) := by decide +kernel
theorem dX0_isDigit_7 : decode cX0_isDigit 7 = .ok (.bipush 48, 2) := by decide +kernel
theorem dX0_isDigit_9 : decode cX0_isDigit 9 = .ok (.if_icmp .lt 13, 3) := by decide +kernel
theorem dX0_isDigit_12 : decode cX0_isDigit 12 = .ok (.iload_n 2, 1) := by decide +kernel
theorem dX0_isDigit_13 : decode cX0_isDigit 13 = .ok (.bipush 57, 2) := by decide +kernel
theorem dX0_isDigit_15 : decode cX0_isDigit 15 = .ok (.if_icmp .gt 7, 3) := by decide +kernel
theorem dX0_isDigit_18 : decode cX0_isDigit 18 = .ok (.iconst 1, 1) := by decide +kernel
theorem dX0_isDigit_19 : decode cX0_isDigit 19 = .ok (.goto 4, 3) := by decide +kernel
theorem dX0_isDigit_22 : decode cX0_isDigit 22 = .ok (.iconst 0, 1) := by decide +kernel
theorem dX0_isDigit_23 : decode cX0_isDigit 23 = .ok (.ireturn, 1) := by decide +kernel
theorem dX0_digitAt_0 : decode cX0_digitAt 0 = .ok (.aload_n 0, 1) := by decide +kernel
theorem dX0_digitAt_1 : decode cX0_digitAt 1 = .ok (.iload_n 1, 1) := by decide +kernel
theorem dX0_digitAt_2 : decode cX0_digitAt 2 = .ok (.invokevirtual 23, 3) := by decide +kernel
theorem dX0_digitAt_5 : decode cX0_digitAt 5 = .ok (.bipush 48, 2) := by decide +kernel
theorem dX0_digitAt_7 : decode cX0_digitAt 7 = .ok (.isub, 1) := by decide +kernel
theorem dX0_digitAt_8 : decode cX0_digitAt 8 = .ok (.ireturn, 1) := by decide +kernel
theorem dX0_kindAt_0 : decode cX0_kindAt 0 = .ok (.aload_n 0, 1) := by decide +kernel
theorem dX0_kindAt_1 : decode cX0_kindAt 1 = .ok (.iload_n 1, 1) := by decide +kernel
theorem dX0_kindAt_2 : decode cX0_kindAt 2 = .ok (.invokevirtual 23, 3) := by decide +kernel
theorem dX0_kindAt_5 : decode cX0_kindAt 5 = .ok (.istore_n 2, 1) := by decide +kernel
theorem dX0_kindAt_6 : decode cX0_kindAt 6 = .ok (.iload_n 2, 1) := by decide +kernel
theorem dX0_kindAt_7 : decode cX0_kindAt 7 = .ok (.ifCond .ge 7, 3) := by decide +kernel
theorem dX0_kindAt_10 : decode cX0_kindAt 10 = .ok (.iconst (-1), 1) := by decide +kernel
theorem dX0_kindAt_11 : decode cX0_kindAt 11 = .ok (.goto 10, 3) := by decide +kernel
theorem dX0_kindAt_14 : decode cX0_kindAt 14 = .ok (.ldc 27, 2) := by decide +kernel
theorem dX0_kindAt_16 : decode cX0_kindAt 16 = .ok (.iload_n 2, 1) := by decide +kernel
theorem dX0_kindAt_17 : decode cX0_kindAt 17 = .ok (.i2c, 1) := by decide +kernel
theorem dX0_kindAt_18 : decode cX0_kindAt 18 = .ok (.invokevirtual 29, 3) := by decide +kernel
theorem dX0_kindAt_21 : decode cX0_kindAt 21 = .ok (.ireturn, 1) := by decide +kernel
theorem dX0_leastDigits_0 : decode cX0_leastDigits 0 = .ok (.iload_n 0, 1) := by decide +kernel
theorem dX0_leastDigits_1 : decode cX0_leastDigits 1 = .ok (.lookupswitch 55 #[(97, 53), (110, 53), (112, 51), (114, 53), (119, 51)], 51) := by decide +kernel
theorem dX0_leastDigits_52 : decode cX0_leastDigits 52 = .ok (.iconst 2, 1) := by decide +kernel
theorem dX0_leastDigits_53 : decode cX0_leastDigits 53 = .ok (.ireturn, 1) := by decide +kernel
theorem dX0_leastDigits_54 : decode cX0_leastDigits 54 = .ok (.iconst 1, 1) := by decide +kernel
theorem dX0_leastDigits_55 : decode cX0_leastDigits 55 = .ok (.ireturn, 1) := by decide +kernel
theorem dX0_leastDigits_56 : decode cX0_leastDigits 56 = .ok (.iconst 0, 1) := by decide +kernel
theorem dX0_leastDigits_57 : decode cX0_leastDigits 57 = .ok (.ireturn, 1) := by decide +kernel
theorem dX0_mostDigits_0 : decode cX0_mostDigits 0 = .ok (.iload_n 0, 1) := by decide +kernel
theorem dX0_mostDigits_1 : decode cX0_mostDigits 1 = .ok (.bipush 97, 2) := by decide +kernel
theorem dX0_mostDigits_3 : decode cX0_mostDigits 3 = .ok (.if_icmp .ne 8, 3) := by decide +kernel
theorem dX0_mostDigits_6 : decode cX0_mostDigits 6 = .ok (.bipush 7, 2) := by decide +kernel
theorem dX0_mostDigits_8 : decode cX0_mostDigits 8 = .ok (.goto 7, 3) := by decide +kernel
theorem dX0_mostDigits_11 : decode cX0_mostDigits 11 = .ok (.iload_n 0, 1) := by decide +kernel
theorem dX0_mostDigits_12 : decode cX0_mostDigits 12 = .ok (.invokestatic 34, 3) := by decide +kernel
theorem dX0_mostDigits_15 : decode cX0_mostDigits 15 = .ok (.ireturn, 1) := by decide +kernel
theorem dX0_digitsFrom_0 : decode cX0_digitsFrom 0 = .ok (.iconst 0, 1) := by decide +kernel
theorem dX0_digitsFrom_1 : decode cX0_digitsFrom 1 = .ok (.istore_n 3, 1) := by decide +kernel
theorem dX0_digitsFrom_2 : decode cX0_digitsFrom 2 = .ok (.iload_n 3, 1) := by decide +kernel
theorem dX0_digitsFrom_3 : decode cX0_digitsFrom 3 = .ok (.iload_n 2, 1) := by decide +kernel
theorem dX0_digitsFrom_4 : decode cX0_digitsFrom 4 = .ok (.if_icmp .ge 19, 3) := by decide +kernel
theorem dX0_digitsFrom_7 : decode cX0_digitsFrom 7 = .ok (.aload_n 0, 1) := by decide +kernel
theorem dX0_digitsFrom_8 : decode cX0_digitsFrom 8 = .ok (.iload_n 1, 1) := by decide +kernel
theorem dX0_digitsFrom_9 : decode cX0_digitsFrom 9 = .ok (.iload_n 3, 1) := by decide +kernel
theorem dX0_digitsFrom_10 : decode cX0_digitsFrom 10 = .ok (.iadd, 1) := by decide +kernel
theorem dX0_digitsFrom_11 : decode cX0_digitsFrom 11 = .ok (.invokevirtual 37, 3) := by decide +kernel
theorem dX0_digitsFrom_14 : decode cX0_digitsFrom 14 = .ok (.ifCond .eq 9, 3) := by decide +kernel
theorem dX0_digitsFrom_17 : decode cX0_digitsFrom 17 = .ok (.iinc 3 1, 3) := by decide +kernel
theorem dX0_digitsFrom_20 : decode cX0_digitsFrom 20 = .ok (.goto (-18), 3) := by decide +kernel
theorem dX0_digitsFrom_23 : decode cX0_digitsFrom 23 = .ok (.iload_n 3, 1) := by decide +kernel
theorem dX0_digitsFrom_24 : decode cX0_digitsFrom 24 = .ok (.ireturn, 1) := by decide +kernel
theorem dX0_firstWrongLetter_0 : decode cX0_firstWrongLetter 0 = .ok (.iconst 0, 1) := by decide +kernel
theorem dX0_firstWrongLetter_1 : decode cX0_firstWrongLetter 1 = .ok (.istore_n 1, 1) := by decide +kernel
theorem dX0_firstWrongLetter_2 : decode cX0_firstWrongLetter 2 = .ok (.aload_n 0, 1) := by decide +kernel
theorem dX0_firstWrongLetter_3 : decode cX0_firstWrongLetter 3 = .ok (.iload_n 1, 1) := by decide +kernel
theorem dX0_firstWrongLetter_4 : decode cX0_firstWrongLetter 4 = .ok (.invokevirtual 23, 3) := by decide +kernel
theorem dX0_firstWrongLetter_7 : decode cX0_firstWrongLetter 7 = .ok (.istore_n 2, 1) := by decide +kernel
theorem dX0_firstWrongLetter_8 : decode cX0_firstWrongLetter 8 = .ok (.iload_n 2, 1) := by decide +kernel
theorem dX0_firstWrongLetter_9 : decode cX0_firstWrongLetter 9 = .ok (.invokestatic 34, 3) := by decide +kernel
theorem dX0_firstWrongLetter_12 : decode cX0_firstWrongLetter 12 = .ok (.istore_n 3, 1) := by decide +kernel
theorem dX0_firstWrongLetter_13 : decode cX0_firstWrongLetter 13 = .ok (.iload_n 3, 1) := by decide +kernel
theorem dX0_firstWrongLetter_14 : decode cX0_firstWrongLetter 14 = .ok (.ifCond .ne 5, 3) := by decide +kernel
theorem dX0_firstWrongLetter_17 : decode cX0_firstWrongLetter 17 = .ok (.iload_n 1, 1) := by decide +kernel
theorem dX0_firstWrongLetter_18 : decode cX0_firstWrongLetter 18 = .ok (.ireturn, 1) := by decide +kernel
theorem dX0_firstWrongLetter_19 : decode cX0_firstWrongLetter 19 = .ok (.iinc 1 1, 3) := by decide +kernel
theorem dX0_firstWrongLetter_22 : decode cX0_firstWrongLetter 22 = .ok (.iload_n 2, 1) := by decide +kernel
theorem dX0_firstWrongLetter_23 : decode cX0_firstWrongLetter 23 = .ok (.bipush 97, 2) := by decide +kernel
theorem dX0_firstWrongLetter_25 : decode cX0_firstWrongLetter 25 = .ok (.if_icmp .ne 16, 3) := by decide +kernel
theorem dX0_firstWrongLetter_28 : decode cX0_firstWrongLetter 28 = .ok (.aload_n 0, 1) := by decide +kernel
theorem dX0_firstWrongLetter_29 : decode cX0_firstWrongLetter 29 = .ok (.iload_n 1, 1) := by decide +kernel
theorem dX0_firstWrongLetter_30 : decode cX0_firstWrongLetter 30 = .ok (.invokevirtual 41, 3) := by decide +kernel
theorem dX0_firstWrongLetter_33 : decode cX0_firstWrongLetter 33 = .ok (.ifCond .ge 5, 3) := by decide +kernel
theorem dX0_firstWrongLetter_36 : decode cX0_firstWrongLetter 36 = .ok (.iload_n 1, 1) := by decide +kernel
theorem dX0_firstWrongLetter_37 : decode cX0_firstWrongLetter 37 = .ok (.ireturn, 1) := by decide +kernel
theorem dX0_firstWrongLetter_38 : decode cX0_firstWrongLetter 38 = .ok (.iinc 1 1, 3) := by decide +kernel
theorem dX0_firstWrongLetter_41 : decode cX0_firstWrongLetter 41 = .ok (.aload_n 0, 1) := by decide +kernel
theorem dX0_firstWrongLetter_42 : decode cX0_firstWrongLetter 42 = .ok (.iload_n 1, 1) := by decide +kernel
theorem dX0_firstWrongLetter_43 : decode cX0_firstWrongLetter 43 = .ok (.iload_n 2, 1) := by decide +kernel
theorem dX0_firstWrongLetter_44 : decode cX0_firstWrongLetter 44 = .ok (.invokestatic 44, 3) := by decide +kernel
theorem dX0_firstWrongLetter_47 : decode cX0_firstWrongLetter 47 = .ok (.invokevirtual 47, 3) := by decide +kernel
theorem dX0_firstWrongLetter_50 : decode cX0_firstWrongLetter 50 = .ok (.istore 4, 2) := by decide +kernel
theorem dX0_firstWrongLetter_52 : decode cX0_firstWrongLetter 52 = .ok (.iload_n 1, 1) := by decide +kernel
theorem dX0_firstWrongLetter_53 : decode cX0_firstWrongLetter 53 = .ok (.iload 4, 2) := by decide +kernel
theorem dX0_firstWrongLetter_55 : decode cX0_firstWrongLetter 55 = .ok (.iadd, 1) := by decide +kernel
theorem dX0_firstWrongLetter_56 : decode cX0_firstWrongLetter 56 = .ok (.istore_n 1, 1) := by decide +kernel
theorem dX0_firstWrongLetter_57 : decode cX0_firstWrongLetter 57 = .ok (.iload 4, 2) := by decide +kernel
theorem dX0_firstWrongLetter_59 : decode cX0_firstWrongLetter 59 = .ok (.iload_n 3, 1) := by decide +kernel
theorem dX0_firstWrongLetter_60 : decode cX0_firstWrongLetter 60 = .ok (.if_icmp .lt 13, 3) := by decide +kernel
theorem dX0_firstWrongLetter_63 : decode cX0_firstWrongLetter 63 = .ok (.aload_n 0, 1) := by decide +kernel
theorem dX0_firstWrongLetter_64 : decode cX0_firstWrongLetter 64 = .ok (.iload_n 1, 1) := by decide +kernel
theorem dX0_firstWrongLetter_65 : decode cX0_firstWrongLetter 65 = .ok (.invokevirtual 23, 3) := by decide +kernel
theorem dX0_firstWrongLetter_68 : decode cX0_firstWrongLetter 68 = .ok (.bipush 59, 2) := by decide +kernel
theorem dX0_firstWrongLetter_70 : decode cX0_firstWrongLetter 70 = .ok (.if_icmp .eq 5, 3) := by decide +kernel
theorem dX0_firstWrongLetter_73 : decode cX0_firstWrongLetter 73 = .ok (.iload_n 1, 1) := by decide +kernel
theorem dX0_firstWrongLetter_74 : decode cX0_firstWrongLetter 74 = .ok (.ireturn, 1) := by decide +kernel
theorem dX0_firstWrongLetter_75 : decode cX0_firstWrongLetter 75 = .ok (.iinc 1 1, 3) := by decide +kernel
theorem dX0_firstWrongLetter_78 : decode cX0_firstWrongLetter 78 = .ok (.iload_n 1, 1) := by decide +kernel
theorem dX0_firstWrongLetter_79 : decode cX0_firstWrongLetter 79 = .ok (.aload_n 0, 1) := by decide +kernel
theorem dX0_firstWrongLetter_80 : decode cX0_firstWrongLetter 80 = .ok (.getfield 15, 3) := by decide +kernel
theorem dX0_firstWrongLetter_83 : decode cX0_firstWrongLetter 83 = .ok (.if_icmp .lt (-81), 3) := by decide +kernel
theorem dX0_firstWrongLetter_86 : decode cX0_firstWrongLetter 86 = .ok (.iconst (-1), 1) := by decide +kernel
theorem dX0_firstWrongLetter_87 : decode cX0_firstWrongLetter 87 = .ok (.ireturn, 1) := by decide +kernel
theorem dX0_tell_0 : decode cX0_tell 0 = .ok (.iconst 0, 1) := by decide +kernel
theorem dX0_tell_1 : decode cX0_tell 1 = .ok (.istore_n 2, 1) := by decide +kernel
theorem dX0_tell_2 : decode cX0_tell 2 = .ok (.iconst 0, 1) := by decide +kernel
theorem dX0_tell_3 : decode cX0_tell 3 = .ok (.istore_n 3, 1) := by decide +kernel
theorem dX0_tell_4 : decode cX0_tell 4 = .ok (.iconst 0, 1) := by decide +kernel
theorem dX0_tell_5 : decode cX0_tell 5 = .ok (.istore 4, 2) := by decide +kernel
theorem dX0_tell_7 : decode cX0_tell 7 = .ok (.iload 4, 2) := by decide +kernel
theorem dX0_tell_9 : decode cX0_tell 9 = .ok (.aload_n 0, 1) := by decide +kernel
theorem dX0_tell_10 : decode cX0_tell 10 = .ok (.getfield 15, 3) := by decide +kernel
theorem dX0_tell_13 : decode cX0_tell 13 = .ok (.if_icmp .ge 45, 3) := by decide +kernel
theorem dX0_tell_16 : decode cX0_tell 16 = .ok (.aload_n 0, 1) := by decide +kernel
theorem dX0_tell_17 : decode cX0_tell 17 = .ok (.iload 4, 2) := by decide +kernel
theorem dX0_tell_19 : decode cX0_tell 19 = .ok (.invokevirtual 23, 3) := by decide +kernel
theorem dX0_tell_22 : decode cX0_tell 22 = .ok (.bipush 59, 2) := by decide +kernel
theorem dX0_tell_24 : decode cX0_tell 24 = .ok (.if_icmp .ne 28, 3) := by decide +kernel
theorem dX0_tell_27 : decode cX0_tell 27 = .ok (.aload_n 0, 1) := by decide +kernel
theorem dX0_tell_28 : decode cX0_tell 28 = .ok (.aload_n 1, 1) := by decide +kernel
theorem dX0_tell_29 : decode cX0_tell 29 = .ok (.iload_n 3, 1) := by decide +kernel
theorem dX0_tell_30 : decode cX0_tell 30 = .ok (.iload 4, 2) := by decide +kernel
theorem dX0_tell_32 : decode cX0_tell 32 = .ok (.invokevirtual 51, 3) := by decide +kernel
theorem dX0_tell_35 : decode cX0_tell 35 = .ok (.ifCond .ne 9, 3) := by decide +kernel
theorem dX0_tell_38 : decode cX0_tell 38 = .ok (.sipush (-2000), 3) := by decide +kernel
theorem dX0_tell_41 : decode cX0_tell 41 = .ok (.iload_n 3, 1) := by decide +kernel
theorem dX0_tell_42 : decode cX0_tell 42 = .ok (.isub, 1) := by decide +kernel
theorem dX0_tell_43 : decode cX0_tell 43 = .ok (.ireturn, 1) := by decide +kernel
theorem dX0_tell_44 : decode cX0_tell 44 = .ok (.iinc 2 1, 3) := by decide +kernel
theorem dX0_tell_47 : decode cX0_tell 47 = .ok (.iload 4, 2) := by decide +kernel
theorem dX0_tell_49 : decode cX0_tell 49 = .ok (.iconst 1, 1) := by decide +kernel
theorem dX0_tell_50 : decode cX0_tell 50 = .ok (.iadd, 1) := by decide +kernel
theorem dX0_tell_51 : decode cX0_tell 51 = .ok (.istore_n 3, 1) := by decide +kernel
theorem dX0_tell_52 : decode cX0_tell 52 = .ok (.iinc 4 1, 3) := by decide +kernel
theorem dX0_tell_55 : decode cX0_tell 55 = .ok (.goto (-48), 3) := by decide +kernel
theorem dX0_tell_58 : decode cX0_tell 58 = .ok (.iload_n 2, 1) := by decide +kernel
theorem dX0_tell_59 : decode cX0_tell 59 = .ok (.ireturn, 1) := by decide +kernel
theorem dX0_tellStatement_0 : decode cX0_tellStatement 0 = .ok (.aload_n 0, 1) := by decide +kernel
theorem dX0_tellStatement_1 : decode cX0_tellStatement 1 = .ok (.iload_n 2, 1) := by decide +kernel
theorem dX0_tellStatement_2 : decode cX0_tellStatement 2 = .ok (.invokevirtual 23, 3) := by decide +kernel
theorem dX0_tellStatement_5 : decode cX0_tellStatement 5 = .ok (.tableswitch 91 110 119 #[82, 91, 55, 91, 73, 91, 91, 91, 91, 64], 55) := by decide +kernel
theorem dX0_tellStatement_60 : decode cX0_tellStatement 60 = .ok (.aload_n 0, 1) := by decide +kernel
theorem dX0_tellStatement_61 : decode cX0_tellStatement 61 = .ok (.aload_n 1, 1) := by decide +kernel
theorem dX0_tellStatement_62 : decode cX0_tellStatement 62 = .ok (.iload_n 2, 1) := by decide +kernel
theorem dX0_tellStatement_63 : decode cX0_tellStatement 63 = .ok (.iconst 1, 1) := by decide +kernel
theorem dX0_tellStatement_64 : decode cX0_tellStatement 64 = .ok (.iadd, 1) := by decide +kernel
theorem dX0_tellStatement_65 : decode cX0_tellStatement 65 = .ok (.invokevirtual 55, 3) := by decide +kernel
theorem dX0_tellStatement_68 : decode cX0_tellStatement 68 = .ok (.ireturn, 1) := by decide +kernel
theorem dX0_tellStatement_69 : decode cX0_tellStatement 69 = .ok (.aload_n 0, 1) := by decide +kernel
theorem dX0_tellStatement_70 : decode cX0_tellStatement 70 = .ok (.aload_n 1, 1) := by decide +kernel
theorem dX0_tellStatement_71 : decode cX0_tellStatement 71 = .ok (.iload_n 2, 1) := by decide +kernel
theorem dX0_tellStatement_72 : decode cX0_tellStatement 72 = .ok (.iconst 1, 1) := by decide +kernel
theorem dX0_tellStatement_73 : decode cX0_tellStatement 73 = .ok (.iadd, 1) := by decide +kernel
theorem dX0_tellStatement_74 : decode cX0_tellStatement 74 = .ok (.invokevirtual 59, 3) := by decide +kernel
theorem dX0_tellStatement_77 : decode cX0_tellStatement 77 = .ok (.ireturn, 1) := by decide +kernel
theorem dX0_tellStatement_78 : decode cX0_tellStatement 78 = .ok (.aload_n 0, 1) := by decide +kernel
theorem dX0_tellStatement_79 : decode cX0_tellStatement 79 = .ok (.aload_n 1, 1) := by decide +kernel
theorem dX0_tellStatement_80 : decode cX0_tellStatement 80 = .ok (.iload_n 2, 1) := by decide +kernel
theorem dX0_tellStatement_81 : decode cX0_tellStatement 81 = .ok (.iconst 1, 1) := by decide +kernel
theorem dX0_tellStatement_82 : decode cX0_tellStatement 82 = .ok (.iadd, 1) := by decide +kernel
theorem dX0_tellStatement_83 : decode cX0_tellStatement 83 = .ok (.invokevirtual 62, 3) := by decide +kernel
theorem dX0_tellStatement_86 : decode cX0_tellStatement 86 = .ok (.ireturn, 1) := by decide +kernel
theorem dX0_tellStatement_87 : decode cX0_tellStatement 87 = .ok (.aload_n 0, 1) := by decide +kernel
theorem dX0_tellStatement_88 : decode cX0_tellStatement 88 = .ok (.aload_n 1, 1) := by decide +kernel
theorem dX0_tellStatement_89 : decode cX0_tellStatement 89 = .ok (.iload_n 2, 1) := by decide +kernel
theorem dX0_tellStatement_90 : decode cX0_tellStatement 90 = .ok (.iconst 1, 1) := by decide +kernel
theorem dX0_tellStatement_91 : decode cX0_tellStatement 91 = .ok (.iadd, 1) := by decide +kernel
theorem dX0_tellStatement_92 : decode cX0_tellStatement 92 = .ok (.invokevirtual 65, 3) := by decide +kernel
theorem dX0_tellStatement_95 : decode cX0_tellStatement 95 = .ok (.ireturn, 1) := by decide +kernel
theorem dX0_tellStatement_96 : decode cX0_tellStatement 96 = .ok (.aload_n 0, 1) := by decide +kernel
theorem dX0_tellStatement_97 : decode cX0_tellStatement 97 = .ok (.aload_n 1, 1) := by decide +kernel
theorem dX0_tellStatement_98 : decode cX0_tellStatement 98 = .ok (.iload_n 2, 1) := by decide +kernel
theorem dX0_tellStatement_99 : decode cX0_tellStatement 99 = .ok (.iconst 1, 1) := by decide +kernel
theorem dX0_tellStatement_100 : decode cX0_tellStatement 100 = .ok (.iadd, 1) := by decide +kernel
theorem dX0_tellStatement_101 : decode cX0_tellStatement 101 = .ok (.iload_n 3, 1) := by decide +kernel
theorem dX0_tellStatement_102 : decode cX0_tellStatement 102 = .ok (.invokevirtual 68, 3) := by decide +kernel
theorem dX0_tellStatement_105 : decode cX0_tellStatement 105 = .ok (.ireturn, 1) := by decide +kernel
theorem dX0_tellPath_0 : decode cX0_tellPath 0 = .ok (.aload_n 0, 1) := by decide +kernel
theorem dX0_tellPath_1 : decode cX0_tellPath 1 = .ok (.iload_n 2, 1) := by decide +kernel
theorem dX0_tellPath_2 : decode cX0_tellPath 2 = .ok (.invokevirtual 71, 3) := by decide +kernel
theorem dX0_tellPath_5 : decode cX0_tellPath 5 = .ok (.istore_n 3, 1) := by decide +kernel
theorem dX0_tellPath_6 : decode cX0_tellPath 6 = .ok (.aload_n 0, 1) := by decide +kernel
theorem dX0_tellPath_7 : decode cX0_tellPath 7 = .ok (.iload_n 2, 1) := by decide +kernel
theorem dX0_tellPath_8 : decode cX0_tellPath 8 = .ok (.iconst 1, 1) := by decide +kernel
theorem dX0_tellPath_9 : decode cX0_tellPath 9 = .ok (.iadd, 1) := by decide +kernel
theorem dX0_tellPath_10 : decode cX0_tellPath 10 = .ok (.invokevirtual 71, 3) := by decide +kernel
theorem dX0_tellPath_13 : decode cX0_tellPath 13 = .ok (.istore 4, 2) := by decide +kernel
theorem dX0_tellPath_15 : decode cX0_tellPath 15 = .ok (.iload_n 3, 1) := by decide +kernel
theorem dX0_tellPath_16 : decode cX0_tellPath 16 = .ok (.invokestatic 74, 3) := by decide +kernel
theorem dX0_tellPath_19 : decode cX0_tellPath 19 = .ok (.ifCond .eq 17, 3) := by decide +kernel
theorem dX0_tellPath_22 : decode cX0_tellPath 22 = .ok (.iload 4, 2) := by decide +kernel
theorem dX0_tellPath_24 : decode cX0_tellPath 24 = .ok (.invokestatic 74, 3) := by decide +kernel
theorem dX0_tellPath_27 : decode cX0_tellPath 27 = .ok (.ifCond .eq 9, 3) := by decide +kernel
theorem dX0_tellPath_30 : decode cX0_tellPath 30 = .ok (.iload_n 3, 1) := by decide +kernel
theorem dX0_tellPath_31 : decode cX0_tellPath 31 = .ok (.iload 4, 2) := by decide +kernel
theorem dX0_tellPath_33 : decode cX0_tellPath 33 = .ok (.if_icmp .ne 5, 3) := by decide +kernel
theorem dX0_tellPath_36 : decode cX0_tellPath 36 = .ok (.iconst 0, 1) := by decide +kernel
theorem dX0_tellPath_37 : decode cX0_tellPath 37 = .ok (.ireturn, 1) := by decide +kernel
theorem dX0_tellPath_38 : decode cX0_tellPath 38 = .ok (.aload_n 1, 1) := by decide +kernel
theorem dX0_tellPath_39 : decode cX0_tellPath 39 = .ok (.iload_n 3, 1) := by decide +kernel
theorem dX0_tellPath_40 : decode cX0_tellPath 40 = .ok (.iload 4, 2) := by decide +kernel
theorem dX0_tellPath_42 : decode cX0_tellPath 42 = .ok (.invokevirtual 77, 3) := by decide +kernel
theorem dX0_tellPath_45 : decode cX0_tellPath 45 = .ok (.iconst 1, 1) := by decide +kernel
theorem dX0_tellPath_46 : decode cX0_tellPath 46 = .ok (.ireturn, 1) := by decide +kernel
theorem dX0_tellWind_0 : decode cX0_tellWind 0 = .ok (.aload_n 0, 1) := by decide +kernel
theorem dX0_tellWind_1 : decode cX0_tellWind 1 = .ok (.iload_n 2, 1) := by decide +kernel
theorem dX0_tellWind_2 : decode cX0_tellWind 2 = .ok (.invokevirtual 71, 3) := by decide +kernel
theorem dX0_tellWind_5 : decode cX0_tellWind 5 = .ok (.istore_n 3, 1) := by decide +kernel
theorem dX0_tellWind_6 : decode cX0_tellWind 6 = .ok (.aload_n 0, 1) := by decide +kernel
theorem dX0_tellWind_7 : decode cX0_tellWind 7 = .ok (.iload_n 2, 1) := by decide +kernel
theorem dX0_tellWind_8 : decode cX0_tellWind 8 = .ok (.iconst 1, 1) := by decide +kernel
theorem dX0_tellWind_9 : decode cX0_tellWind 9 = .ok (.iadd, 1) := by decide +kernel
theorem dX0_tellWind_10 : decode cX0_tellWind 10 = .ok (.invokevirtual 71, 3) := by decide +kernel
theorem dX0_tellWind_13 : decode cX0_tellWind 13 = .ok (.istore 4, 2) := by decide +kernel
theorem dX0_tellWind_15 : decode cX0_tellWind 15 = .ok (.iload_n 3, 1) := by decide +kernel
theorem dX0_tellWind_16 : decode cX0_tellWind 16 = .ok (.invokestatic 74, 3) := by decide +kernel
theorem dX0_tellWind_19 : decode cX0_tellWind 19 = .ok (.ifCond .eq 14, 3) := by decide +kernel
theorem dX0_tellWind_22 : decode cX0_tellWind 22 = .ok (.iload 4, 2) := by decide +kernel
theorem dX0_tellWind_24 : decode cX0_tellWind 24 = .ok (.ifCond .lt 9, 3) := by decide +kernel
theorem dX0_tellWind_27 : decode cX0_tellWind 27 = .ok (.iload 4, 2) := by decide +kernel
theorem dX0_tellWind_29 : decode cX0_tellWind 29 = .ok (.iconst 3, 1) := by decide +kernel
theorem dX0_tellWind_30 : decode cX0_tellWind 30 = .ok (.if_icmp .le 5, 3) := by decide +kernel
theorem dX0_tellWind_33 : decode cX0_tellWind 33 = .ok (.iconst 0, 1) := by decide +kernel
theorem dX0_tellWind_34 : decode cX0_tellWind 34 = .ok (.ireturn, 1) := by decide +kernel
theorem dX0_tellWind_35 : decode cX0_tellWind 35 = .ok (.aload_n 1, 1) := by decide +kernel
theorem dX0_tellWind_36 : decode cX0_tellWind 36 = .ok (.iload_n 3, 1) := by decide +kernel
theorem dX0_tellWind_37 : decode cX0_tellWind 37 = .ok (.iload 4, 2) := by decide +kernel
theorem dX0_tellWind_39 : decode cX0_tellWind 39 = .ok (.invokevirtual 83, 3) := by decide +kernel
theorem dX0_tellWind_42 : decode cX0_tellWind 42 = .ok (.iconst 1, 1) := by decide +kernel
theorem dX0_tellWind_43 : decode cX0_tellWind 43 = .ok (.ireturn, 1) := by decide +kernel
theorem dX0_tellRoof_0 : decode cX0_tellRoof 0 = .ok (.aload_n 0, 1) := by decide +kernel
theorem dX0_tellRoof_1 : decode cX0_tellRoof 1 = .ok (.iload_n 2, 1) := by decide +kernel
theorem dX0_tellRoof_2 : decode cX0_tellRoof 2 = .ok (.invokevirtual 71, 3) := by decide +kernel
theorem dX0_tellRoof_5 : decode cX0_tellRoof 5 = .ok (.invokestatic 74, 3) := by decide +kernel
theorem dX0_tellRoof_8 : decode cX0_tellRoof 8 = .ok (.ifCond .ne 5, 3) := by decide +kernel
theorem dX0_tellRoof_11 : decode cX0_tellRoof 11 = .ok (.iconst 0, 1) := by decide +kernel
theorem dX0_tellRoof_12 : decode cX0_tellRoof 12 = .ok (.ireturn, 1) := by decide +kernel
theorem dX0_tellRoof_13 : decode cX0_tellRoof 13 = .ok (.aload_n 1, 1) := by decide +kernel
theorem dX0_tellRoof_14 : decode cX0_tellRoof 14 = .ok (.aload_n 0, 1) := by decide +kernel
theorem dX0_tellRoof_15 : decode cX0_tellRoof 15 = .ok (.iload_n 2, 1) := by decide +kernel
theorem dX0_tellRoof_16 : decode cX0_tellRoof 16 = .ok (.invokevirtual 71, 3) := by decide +kernel
theorem dX0_tellRoof_19 : decode cX0_tellRoof 19 = .ok (.invokevirtual 86, 3) := by decide +kernel
theorem dX0_tellRoof_22 : decode cX0_tellRoof 22 = .ok (.iconst 1, 1) := by decide +kernel
theorem dX0_tellRoof_23 : decode cX0_tellRoof 23 = .ok (.ireturn, 1) := by decide +kernel
theorem dX0_tellNose_0 : decode cX0_tellNose 0 = .ok (.aload_n 0, 1) := by decide +kernel
theorem dX0_tellNose_1 : decode cX0_tellNose 1 = .ok (.iload_n 2, 1) := by decide +kernel
theorem dX0_tellNose_2 : decode cX0_tellNose 2 = .ok (.invokevirtual 71, 3) := by decide +kernel
theorem dX0_tellNose_5 : decode cX0_tellNose 5 = .ok (.istore_n 3, 1) := by decide +kernel
theorem dX0_tellNose_6 : decode cX0_tellNose 6 = .ok (.iload_n 3, 1) := by decide +kernel
theorem dX0_tellNose_7 : decode cX0_tellNose 7 = .ok (.iconst 1, 1) := by decide +kernel
theorem dX0_tellNose_8 : decode cX0_tellNose 8 = .ok (.if_icmp .lt 9, 3) := by decide +kernel
theorem dX0_tellNose_11 : decode cX0_tellNose 11 = .ok (.iload_n 3, 1) := by decide +kernel
theorem dX0_tellNose_12 : decode cX0_tellNose 12 = .ok (.bipush 9, 2) := by decide +kernel
theorem dX0_tellNose_14 : decode cX0_tellNose 14 = .ok (.if_icmp .le 5, 3) := by decide +kernel
theorem dX0_tellNose_17 : decode cX0_tellNose 17 = .ok (.iconst 0, 1) := by decide +kernel
theorem dX0_tellNose_18 : decode cX0_tellNose 18 = .ok (.ireturn, 1) := by decide +kernel
theorem dX0_tellNose_19 : decode cX0_tellNose 19 = .ok (.aload_n 1, 1) := by decide +kernel
theorem dX0_tellNose_20 : decode cX0_tellNose 20 = .ok (.iload_n 3, 1) := by decide +kernel
theorem dX0_tellNose_21 : decode cX0_tellNose 21 = .ok (.invokevirtual 90, 3) := by decide +kernel
theorem dX0_tellNose_24 : decode cX0_tellNose 24 = .ok (.iconst 1, 1) := by decide +kernel
theorem dX0_tellNose_25 : decode cX0_tellNose 25 = .ok (.ireturn, 1) := by decide +kernel
theorem dX0_tellWalker_0 : decode cX0_tellWalker 0 = .ok (.aload_n 0, 1) := by decide +kernel
theorem dX0_tellWalker_1 : decode cX0_tellWalker 1 = .ok (.iload_n 2, 1) := by decide +kernel
theorem dX0_tellWalker_2 : decode cX0_tellWalker 2 = .ok (.invokevirtual 41, 3) := by decide +kernel
theorem dX0_tellWalker_5 : decode cX0_tellWalker 5 = .ok (.istore 4, 2) := by decide +kernel
theorem dX0_tellWalker_7 : decode cX0_tellWalker 7 = .ok (.iload 4, 2) := by decide +kernel
theorem dX0_tellWalker_9 : decode cX0_tellWalker 9 = .ok (.ifCond .lt 10, 3) := by decide +kernel
theorem dX0_tellWalker_12 : decode cX0_tellWalker 12 = .ok (.aload_n 1, 1) := by decide +kernel
theorem dX0_tellWalker_13 : decode cX0_tellWalker 13 = .ok (.invokevirtual 93, 3) := by decide +kernel
theorem dX0_tellWalker_16 : decode cX0_tellWalker 16 = .ok (.ifCond .ne 5, 3) := by decide +kernel
theorem dX0_tellWalker_19 : decode cX0_tellWalker 19 = .ok (.iconst 0, 1) := by decide +kernel
theorem dX0_tellWalker_20 : decode cX0_tellWalker 20 = .ok (.ireturn, 1) := by decide +kernel
theorem dX0_tellWalker_21 : decode cX0_tellWalker 21 = .ok (.iload_n 2, 1) := by decide +kernel
theorem dX0_tellWalker_22 : decode cX0_tellWalker 22 = .ok (.iconst 1, 1) := by decide +kernel
theorem dX0_tellWalker_23 : decode cX0_tellWalker 23 = .ok (.iadd, 1) := by decide +kernel
theorem dX0_tellWalker_24 : decode cX0_tellWalker 24 = .ok (.istore 5, 2) := by decide +kernel
theorem dX0_tellWalker_26 : decode cX0_tellWalker 26 = .ok (.iload 5, 2) := by decide +kernel
theorem dX0_tellWalker_28 : decode cX0_tellWalker 28 = .ok (.iload_n 3, 1) := by decide +kernel
theorem dX0_tellWalker_29 : decode cX0_tellWalker 29 = .ok (.if_icmp .ge 23, 3) := by decide +kernel
theorem dX0_tellWalker_32 : decode cX0_tellWalker 32 = .ok (.aload_n 0, 1) := by decide +kernel
theorem dX0_tellWalker_33 : decode cX0_tellWalker 33 = .ok (.iload 5, 2) := by decide +kernel
theorem dX0_tellWalker_35 : decode cX0_tellWalker 35 = .ok (.invokevirtual 71, 3) := by decide +kernel
theorem dX0_tellWalker_38 : decode cX0_tellWalker 38 = .ok (.invokestatic 74, 3) := by decide +kernel
theorem dX0_tellWalker_41 : decode cX0_tellWalker 41 = .ok (.ifCond .ne 5, 3) := by decide +kernel
theorem dX0_tellWalker_44 : decode cX0_tellWalker 44 = .ok (.iconst 0, 1) := by decide +kernel
theorem dX0_tellWalker_45 : decode cX0_tellWalker 45 = .ok (.ireturn, 1) := by decide +kernel
theorem dX0_tellWalker_46 : decode cX0_tellWalker 46 = .ok (.iinc 5 1, 3) := by decide +kernel
theorem dX0_tellWalker_49 : decode cX0_tellWalker 49 = .ok (.goto (-23), 3) := by decide +kernel
theorem dX0_tellWalker_52 : decode cX0_tellWalker 52 = .ok (.aload_n 1, 1) := by decide +kernel
theorem dX0_tellWalker_53 : decode cX0_tellWalker 53 = .ok (.iload 4, 2) := by decide +kernel
theorem dX0_tellWalker_55 : decode cX0_tellWalker 55 = .ok (.aload_n 0, 1) := by decide +kernel
theorem dX0_tellWalker_56 : decode cX0_tellWalker 56 = .ok (.iload_n 2, 1) := by decide +kernel
theorem dX0_tellWalker_57 : decode cX0_tellWalker 57 = .ok (.iconst 1, 1) := by decide +kernel
theorem dX0_tellWalker_58 : decode cX0_tellWalker 58 = .ok (.iadd, 1) := by decide +kernel
theorem dX0_tellWalker_59 : decode cX0_tellWalker 59 = .ok (.invokevirtual 71, 3) := by decide +kernel
theorem dX0_tellWalker_62 : decode cX0_tellWalker 62 = .ok (.invokevirtual 96, 3) := by decide +kernel
theorem dX0_tellWalker_65 : decode cX0_tellWalker 65 = .ok (.iload_n 2, 1) := by decide +kernel
theorem dX0_tellWalker_66 : decode cX0_tellWalker 66 = .ok (.iconst 2, 1) := by decide +kernel
theorem dX0_tellWalker_67 : decode cX0_tellWalker 67 = .ok (.iadd, 1) := by decide +kernel
theorem dX0_tellWalker_68 : decode cX0_tellWalker 68 = .ok (.istore 5, 2) := by decide +kernel
theorem dX0_tellWalker_70 : decode cX0_tellWalker 70 = .ok (.iload 5, 2) := by decide +kernel
theorem dX0_tellWalker_72 : decode cX0_tellWalker 72 = .ok (.iload_n 3, 1) := by decide +kernel
theorem dX0_tellWalker_73 : decode cX0_tellWalker 73 = .ok (.if_icmp .ge 19, 3) := by decide +kernel
theorem dX0_tellWalker_76 : decode cX0_tellWalker 76 = .ok (.aload_n 1, 1) := by decide +kernel
theorem dX0_tellWalker_77 : decode cX0_tellWalker 77 = .ok (.aload_n 0, 1) := by decide +kernel
theorem dX0_tellWalker_78 : decode cX0_tellWalker 78 = .ok (.iload 5, 2) := by decide +kernel
theorem dX0_tellWalker_80 : decode cX0_tellWalker 80 = .ok (.invokevirtual 71, 3) := by decide +kernel
theorem dX0_tellWalker_83 : decode cX0_tellWalker 83 = .ok (.invokevirtual 99, 3) := by decide +kernel
theorem dX0_tellWalker_86 : decode cX0_tellWalker 86 = .ok (.iinc 5 1, 3) := by decide +kernel
theorem dX0_tellWalker_89 : decode cX0_tellWalker 89 = .ok (.goto (-19), 3) := by decide +kernel
theorem dX0_tellWalker_92 : decode cX0_tellWalker 92 = .ok (.iconst 1, 1) := by decide +kernel
theorem dX0_tellWalker_93 : decode cX0_tellWalker 93 = .ok (.ireturn, 1) := by decide +kernel
theorem dX1_init_0 : decode cX1_init 0 = .ok (.aload_n 0, 1) := by decide +kernel
theorem dX1_init_1 : decode cX1_init 1 = .ok (.invokespecial 3, 3) := by decide +kernel
theorem dX1_init_4 : decode cX1_init 4 = .ok (.aload_n 0, 1) := by decide +kernel
theorem dX1_init_5 : decode cX1_init 5 = .ok (.bipush 6, 2) := by decide +kernel
theorem dX1_init_7 : decode cX1_init 7 = .ok (.newarray .int, 2) := by decide +kernel
theorem dX1_init_9 : decode cX1_init 9 = .ok (.putfield 9, 3) := by decide +kernel
theorem dX1_init_12 : decode cX1_init 12 = .ok (.aload_n 0, 1) := by decide +kernel
theorem dX1_init_13 : decode cX1_init 13 = .ok (.iconst 0, 1) := by decide +kernel
theorem dX1_init_14 : decode cX1_init 14 = .ok (.putfield 15, 3) := by decide +kernel
theorem dX1_init_17 : decode cX1_init 17 = .ok (.aload_n 0, 1) := by decide +kernel
theorem dX1_init_18 : decode cX1_init 18 = .ok (.bipush 6, 2) := by decide +kernel
theorem dX1_init_20 : decode cX1_init 20 = .ok (.newarray .int, 2) := by decide +kernel
theorem dX1_init_22 : decode cX1_init 22 = .ok (.putfield 19, 3) := by decide +kernel
theorem dX1_init_25 : decode cX1_init 25 = .ok (.aload_n 0, 1) := by decide +kernel
theorem dX1_init_26 : decode cX1_init 26 = .ok (.iconst 0, 1) := by decide +kernel
theorem dX1_init_27 : decode cX1_init 27 = .ok (.putfield 22, 3) := by decide +kernel
theorem dX1_init_30 : decode cX1_init 30 = .ok (.aload_n 0, 1) := by decide +kernel
theorem dX1_init_31 : decode cX1_init 31 = .ok (.iconst 4, 1) := by decide +kernel
theorem dX1_init_32 : decode cX1_init 32 = .ok (.newarray .int, 2) := by decide +kernel
theorem dX1_init_34 : decode cX1_init 34 = .ok (.putfield 25, 3) := by decide +kernel
theorem dX1_init_37 : decode cX1_init 37 = .ok (.aload_n 0, 1) := by decide +kernel
theorem dX1_init_38 : decode cX1_init 38 = .ok (.iconst 4, 1) := by decide +kernel
theorem dX1_init_39 : decode cX1_init 39 = .ok (.newarray .int, 2) := by decide +kernel
theorem dX1_init_41 : decode cX1_init 41 = .ok (.putfield 28, 3) := by decide +kernel
theorem dX1_init_44 : decode cX1_init 44 = .ok (.aload_n 0, 1) := by decide +kernel
theorem dX1_init_45 : decode cX1_init 45 = .ok (.iconst 4, 1) := by decide +kernel
theorem dX1_init_46 : decode cX1_init 46 = .ok (.newarray .int, 2) := by decide +kernel
theorem dX1_init_48 : decode cX1_init 48 = .ok (.putfield 31, 3) := by decide +kernel
theorem dX1_init_51 : decode cX1_init 51 = .ok (.aload_n 0, 1) := by decide +kernel
theorem dX1_init_52 : decode cX1_init 52 = .ok (.iconst 4, 1) := by decide +kernel
theorem dX1_init_53 : decode cX1_init 53 = .ok (.newarray .int, 2) := by decide +kernel
theorem dX1_init_55 : decode cX1_init 55 = .ok (.putfield 34, 3) := by decide +kernel
theorem dX1_init_58 : decode cX1_init 58 = .ok (.aload_n 0, 1) := by decide +kernel
theorem dX1_init_59 : decode cX1_init 59 = .ok (.iconst 4, 1) := by decide +kernel
theorem dX1_init_60 : decode cX1_init 60 = .ok (.bipush 6, 2) := by decide +kernel
theorem dX1_init_62 : decode cX1_init 62 = .ok (.multianewarray 37 2, 4) := by decide +kernel
theorem dX1_init_66 : decode cX1_init 66 = .ok (.putfield 39, 3) := by decide +kernel
theorem dX1_init_69 : decode cX1_init 69 = .ok (.aload_n 0, 1) := by decide +kernel
theorem dX1_init_70 : decode cX1_init 70 = .ok (.iconst 4, 1) := by decide +kernel
theorem dX1_init_71 : decode cX1_init 71 = .ok (.bipush 6, 2) := by decide +kernel
theorem dX1_init_73 : decode cX1_init 73 = .ok (.multianewarray 37 2, 4) := by decide +kernel
theorem dX1_init_77 : decode cX1_init 77 = .ok (.putfield 42, 3) := by decide +kernel
theorem dX1_init_80 : decode cX1_init 80 = .ok (.aload_n 0, 1) := by decide +kernel
theorem dX1_init_81 : decode cX1_init 81 = .ok (.iconst 0, 1) := by decide +kernel
theorem dX1_init_82 : decode cX1_init 82 = .ok (.putfield 45, 3) := by decide +kernel
theorem dX1_init_85 : decode cX1_init 85 = .ok (.aload_n 0, 1) := by decide +kernel
theorem dX1_init_86 : decode cX1_init 86 = .ok (.iconst 1, 1) := by decide +kernel
theorem dX1_init_87 : decode cX1_init 87 = .ok (.putfield 48, 3) := by decide +kernel
theorem dX1_init_90 : decode cX1_init 90 = .ok (.return_, 1) := by decide +kernel
theorem dX1_become_0 : decode cX1_become 0 = .ok (.aload_n 1, 1) := by decide +kernel
theorem dX1_become_1 : decode cX1_become 1 = .ok (.getfield 9, 3) := by decide +kernel
theorem dX1_become_4 : decode cX1_become 4 = .ok (.iconst 0, 1) := by decide +kernel
theorem dX1_become_5 : decode cX1_become 5 = .ok (.aload_n 0, 1) := by decide +kernel
theorem dX1_become_6 : decode cX1_become 6 = .ok (.getfield 9, 3) := by decide +kernel
theorem dX1_become_9 : decode cX1_become 9 = .ok (.iconst 0, 1) := by decide +kernel
theorem dX1_become_10 : decode cX1_become 10 = .ok (.bipush 6, 2) := by decide +kernel
theorem dX1_become_12 : decode cX1_become 12 = .ok (.invokestatic 51, 3) := by decide +kernel
theorem dX1_become_15 : decode cX1_become 15 = .ok (.aload_n 0, 1) := by decide +kernel
theorem dX1_become_16 : decode cX1_become 16 = .ok (.aload_n 1, 1) := by decide +kernel
theorem dX1_become_17 : decode cX1_become 17 = .ok (.getfield 15, 3) := by decide +kernel
theorem dX1_become_20 : decode cX1_become 20 = .ok (.putfield 15, 3) := by decide +kernel
theorem dX1_become_23 : decode cX1_become 23 = .ok (.aload_n 1, 1) := by decide +kernel
theorem dX1_become_24 : decode cX1_become 24 = .ok (.getfield 19, 3) := by decide +kernel
theorem dX1_become_27 : decode cX1_become 27 = .ok (.iconst 0, 1) := by decide +kernel
theorem dX1_become_28 : decode cX1_become 28 = .ok (.aload_n 0, 1) := by decide +kernel
theorem dX1_become_29 : decode cX1_become 29 = .ok (.getfield 19, 3) := by decide +kernel
theorem dX1_become_32 : decode cX1_become 32 = .ok (.iconst 0, 1) := by decide +kernel
theorem dX1_become_33 : decode cX1_become 33 = .ok (.bipush 6, 2) := by decide +kernel
theorem dX1_become_35 : decode cX1_become 35 = .ok (.invokestatic 51, 3) := by decide +kernel
theorem dX1_become_38 : decode cX1_become 38 = .ok (.aload_n 0, 1) := by decide +kernel
theorem dX1_become_39 : decode cX1_become 39 = .ok (.aload_n 1, 1) := by decide +kernel
theorem dX1_become_40 : decode cX1_become 40 = .ok (.getfield 22, 3) := by decide +kernel
theorem dX1_become_43 : decode cX1_become 43 = .ok (.putfield 22, 3) := by decide +kernel
theorem dX1_become_46 : decode cX1_become 46 = .ok (.iconst 0, 1) := by decide +kernel
theorem dX1_become_47 : decode cX1_become 47 = .ok (.istore_n 2, 1) := by decide +kernel
theorem dX1_become_48 : decode cX1_become 48 = .ok (.iload_n 2, 1) := by decide +kernel
theorem dX1_become_49 : decode cX1_become 49 = .ok (.aload_n 0, 1) := by decide +kernel
theorem dX1_become_50 : decode cX1_become 50 = .ok (.getfield 22, 3) := by decide +kernel
theorem dX1_become_53 : decode cX1_become 53 = .ok (.if_icmp .ge 83, 3) := by decide +kernel
theorem dX1_become_56 : decode cX1_become 56 = .ok (.aload_n 0, 1) := by decide +kernel
theorem dX1_become_57 : decode cX1_become 57 = .ok (.getfield 25, 3) := by decide +kernel
theorem dX1_become_60 : decode cX1_become 60 = .ok (.iload_n 2, 1) := by decide +kernel
theorem dX1_become_61 : decode cX1_become 61 = .ok (.aload_n 1, 1) := by decide +kernel
theorem dX1_become_62 : decode cX1_become 62 = .ok (.getfield 25, 3) := by decide +kernel
theorem dX1_become_65 : decode cX1_become 65 = .ok (.iload_n 2, 1) := by decide +kernel
theorem dX1_become_66 : decode cX1_become 66 = .ok (.iaload, 1) := by decide +kernel
theorem dX1_become_67 : decode cX1_become 67 = .ok (.iastore, 1) := by decide +kernel
theorem dX1_become_68 : decode cX1_become 68 = .ok (.aload_n 0, 1) := by decide +kernel
theorem dX1_become_69 : decode cX1_become 69 = .ok (.getfield 28, 3) := by decide +kernel
theorem dX1_become_72 : decode cX1_become 72 = .ok (.iload_n 2, 1) := by decide +kernel
theorem dX1_become_73 : decode cX1_become 73 = .ok (.aload_n 1, 1) := by decide +kernel
theorem dX1_become_74 : decode cX1_become 74 = .ok (.getfield 28, 3) := by decide +kernel
theorem dX1_become_77 : decode cX1_become 77 = .ok (.iload_n 2, 1) := by decide +kernel
theorem dX1_become_78 : decode cX1_become 78 = .ok (.iaload, 1) := by decide +kernel
theorem dX1_become_79 : decode cX1_become 79 = .ok (.iastore, 1) := by decide +kernel
theorem dX1_become_80 : decode cX1_become 80 = .ok (.aload_n 0, 1) := by decide +kernel
theorem dX1_become_81 : decode cX1_become 81 = .ok (.getfield 34, 3) := by decide +kernel
theorem dX1_become_84 : decode cX1_become 84 = .ok (.iload_n 2, 1) := by decide +kernel
theorem dX1_become_85 : decode cX1_become 85 = .ok (.aload_n 1, 1) := by decide +kernel
theorem dX1_become_86 : decode cX1_become 86 = .ok (.getfield 34, 3) := by decide +kernel
theorem dX1_become_89 : decode cX1_become 89 = .ok (.iload_n 2, 1) := by decide +kernel
theorem dX1_become_90 : decode cX1_become 90 = .ok (.iaload, 1) := by decide +kernel
theorem dX1_become_91 : decode cX1_become 91 = .ok (.iastore, 1) := by decide +kernel
theorem dX1_become_92 : decode cX1_become 92 = .ok (.aload_n 1, 1) := by decide +kernel
theorem dX1_become_93 : decode cX1_become 93 = .ok (.getfield 39, 3) := by decide +kernel
theorem dX1_become_96 : decode cX1_become 96 = .ok (.iload_n 2, 1) := by decide +kernel
theorem dX1_become_97 : decode cX1_become 97 = .ok (.aaload, 1) := by decide +kernel
theorem dX1_become_98 : decode cX1_become 98 = .ok (.iconst 0, 1) := by decide +kernel
theorem dX1_become_99 : decode cX1_become 99 = .ok (.aload_n 0, 1) := by decide +kernel
theorem dX1_become_100 : decode cX1_become 100 = .ok (.getfield 39, 3) := by decide +kernel
theorem dX1_become_103 : decode cX1_become 103 = .ok (.iload_n 2, 1) := by decide +kernel
theorem dX1_become_104 : decode cX1_become 104 = .ok (.aaload, 1) := by decide +kernel
theorem dX1_become_105 : decode cX1_become 105 = .ok (.iconst 0, 1) := by decide +kernel
theorem dX1_become_106 : decode cX1_become 106 = .ok (.bipush 6, 2) := by decide +kernel
theorem dX1_become_108 : decode cX1_become 108 = .ok (.invokestatic 51, 3) := by decide +kernel
theorem dX1_become_111 : decode cX1_become 111 = .ok (.aload_n 1, 1) := by decide +kernel
theorem dX1_become_112 : decode cX1_become 112 = .ok (.getfield 42, 3) := by decide +kernel
theorem dX1_become_115 : decode cX1_become 115 = .ok (.iload_n 2, 1) := by decide +kernel
theorem dX1_become_116 : decode cX1_become 116 = .ok (.aaload, 1) := by decide +kernel
theorem dX1_become_117 : decode cX1_become 117 = .ok (.iconst 0, 1) := by decide +kernel
theorem dX1_become_118 : decode cX1_become 118 = .ok (.aload_n 0, 1) := by decide +kernel
theorem dX1_become_119 : decode cX1_become 119 = .ok (.getfield 42, 3) := by decide +kernel
theorem dX1_become_122 : decode cX1_become 122 = .ok (.iload_n 2, 1) := by decide +kernel
theorem dX1_become_123 : decode cX1_become 123 = .ok (.aaload, 1) := by decide +kernel
theorem dX1_become_124 : decode cX1_become 124 = .ok (.iconst 0, 1) := by decide +kernel
theorem dX1_become_125 : decode cX1_become 125 = .ok (.bipush 6, 2) := by decide +kernel
theorem dX1_become_127 : decode cX1_become 127 = .ok (.invokestatic 51, 3) := by decide +kernel
theorem dX1_become_130 : decode cX1_become 130 = .ok (.iinc 2 1, 3) := by decide +kernel
theorem dX1_become_133 : decode cX1_become 133 = .ok (.goto (-85), 3) := by decide +kernel
theorem dX1_become_136 : decode cX1_become 136 = .ok (.aload_n 0, 1) := by decide +kernel
theorem dX1_become_137 : decode cX1_become 137 = .ok (.aload_n 1, 1) := by decide +kernel
theorem dX1_become_138 : decode cX1_become 138 = .ok (.getfield 45, 3) := by decide +kernel
theorem dX1_become_141 : decode cX1_become 141 = .ok (.putfield 45, 3) := by decide +kernel
theorem dX1_become_144 : decode cX1_become 144 = .ok (.aload_n 0, 1) := by decide +kernel
theorem dX1_become_145 : decode cX1_become 145 = .ok (.aload_n 1, 1) := by decide +kernel
theorem dX1_become_146 : decode cX1_become 146 = .ok (.getfield 48, 3) := by decide +kernel
theorem dX1_become_149 : decode cX1_become 149 = .ok (.putfield 48, 3) := by decide +kernel
theorem dX1_become_152 : decode cX1_become 152 = .ok (.return_, 1) := by decide +kernel
theorem dX1_isWalker_0 : decode cX1_isWalker 0 = .ok (.iload_n 1, 1) := by decide +kernel
theorem dX1_isWalker_1 : decode cX1_isWalker 1 = .ok (.ifCond .lt 15, 3) := by decide +kernel
theorem dX1_isWalker_4 : decode cX1_isWalker 4 = .ok (.iload_n 1, 1) := by decide +kernel
theorem dX1_isWalker_5 : decode cX1_isWalker 5 = .ok (.aload_n 0, 1) := by decide +kernel
theorem dX1_isWalker_6 : decode cX1_isWalker 6 = .ok (.getfield 22, 3) := by decide +kernel
theorem dX1_isWalker_9 : decode cX1_isWalker 9 = .ok (.if_icmp .ge 7, 3) := by decide +kernel
theorem dX1_isWalker_12 : decode cX1_isWalker 12 = .ok (.iconst 1, 1) := by decide +kernel
theorem dX1_isWalker_13 : decode cX1_isWalker 13 = .ok (.goto 4, 3) := by decide +kernel
theorem dX1_isWalker_16 : decode cX1_isWalker 16 = .ok (.iconst 0, 1) := by decide +kernel
theorem dX1_isWalker_17 : decode cX1_isWalker 17 = .ok (.ireturn, 1) := by decide +kernel
theorem dX1_hasSpace_0 : decode cX1_hasSpace 0 = .ok (.aload_n 0, 1) := by decide +kernel
theorem dX1_hasSpace_1 : decode cX1_hasSpace 1 = .ok (.getfield 22, 3) := by decide +kernel
theorem dX1_hasSpace_4 : decode cX1_hasSpace 4 = .ok (.iconst 4, 1) := by decide +kernel
theorem dX1_hasSpace_5 : decode cX1_hasSpace 5 = .ok (.if_icmp .ge 7, 3) := by decide +kernel
theorem dX1_hasSpace_8 : decode cX1_hasSpace 8 = .ok (.iconst 1, 1) := by decide +kernel
theorem dX1_hasSpace_9 : decode cX1_hasSpace 9 = .ok (.goto 4, 3) := by decide +kernel
theorem dX1_hasSpace_12 : decode cX1_hasSpace 12 = .ok (.iconst 0, 1) := by decide +kernel
theorem dX1_hasSpace_13 : decode cX1_hasSpace 13 = .ok (.ireturn, 1) := by decide +kernel
theorem dX1_walkersIn_0 : decode cX1_walkersIn 0 = .ok (.aload_n 0, 1) := by decide +kernel
theorem dX1_walkersIn_1 : decode cX1_walkersIn 1 = .ok (.getfield 22, 3) := by decide +kernel
theorem dX1_walkersIn_4 : decode cX1_walkersIn 4 = .ok (.ireturn, 1) := by decide +kernel
theorem dX1_minuteNow_0 : decode cX1_minuteNow 0 = .ok (.aload_n 0, 1) := by decide +kernel
theorem dX1_minuteNow_1 : decode cX1_minuteNow 1 = .ok (.getfield 45, 3) := by decide +kernel
theorem dX1_minuteNow_4 : decode cX1_minuteNow 4 = .ok (.ireturn, 1) := by decide +kernel
theorem dX1_noseNow_0 : decode cX1_noseNow 0 = .ok (.aload_n 0, 1) := by decide +kernel
theorem dX1_noseNow_1 : decode cX1_noseNow 1 = .ok (.getfield 48, 3) := by decide +kernel
theorem dX1_noseNow_4 : decode cX1_noseNow 4 = .ok (.ireturn, 1) := by decide +kernel
theorem dX1_setNose_0 : decode cX1_setNose 0 = .ok (.aload_n 0, 1) := by decide +kernel
theorem dX1_setNose_1 : decode cX1_setNose 1 = .ok (.iload_n 1, 1) := by decide +kernel
theorem dX1_setNose_2 : decode cX1_setNose 2 = .ok (.putfield 48, 3) := by decide +kernel
theorem dX1_setNose_5 : decode cX1_setNose 5 = .ok (.return_, 1) := by decide +kernel
theorem dX1_windIn_0 : decode cX1_windIn 0 = .ok (.aload_n 0, 1) := by decide +kernel
theorem dX1_windIn_1 : decode cX1_windIn 1 = .ok (.getfield 9, 3) := by decide +kernel
theorem dX1_windIn_4 : decode cX1_windIn 4 = .ok (.iload_n 1, 1) := by decide +kernel
theorem dX1_windIn_5 : decode cX1_windIn 5 = .ok (.iaload, 1) := by decide +kernel
theorem dX1_windIn_6 : decode cX1_windIn 6 = .ok (.ireturn, 1) := by decide +kernel
theorem dX1_setWind_0 : decode cX1_setWind 0 = .ok (.aload_n 0, 1) := by decide +kernel
theorem dX1_setWind_1 : decode cX1_setWind 1 = .ok (.getfield 9, 3) := by decide +kernel
theorem dX1_setWind_4 : decode cX1_setWind 4 = .ok (.iload_n 1, 1) := by decide +kernel
theorem dX1_setWind_5 : decode cX1_setWind 5 = .ok (.iload_n 2, 1) := by decide +kernel
theorem dX1_setWind_6 : decode cX1_setWind 6 = .ok (.iastore, 1) := by decide +kernel
theorem dX1_setWind_7 : decode cX1_setWind 7 = .ok (.return_, 1) := by decide +kernel
theorem dX1_hasRoof_0 : decode cX1_hasRoof 0 = .ok (.aload_n 0, 1) := by decide +kernel
theorem dX1_hasRoof_1 : decode cX1_hasRoof 1 = .ok (.getfield 15, 3) := by decide +kernel
theorem dX1_hasRoof_4 : decode cX1_hasRoof 4 = .ok (.iload_n 1, 1) := by decide +kernel
theorem dX1_hasRoof_5 : decode cX1_hasRoof 5 = .ok (.ishr, 1) := by decide +kernel
theorem dX1_hasRoof_6 : decode cX1_hasRoof 6 = .ok (.iconst 1, 1) := by decide +kernel
theorem dX1_hasRoof_7 : decode cX1_hasRoof 7 = .ok (.iand, 1) := by decide +kernel
theorem dX1_hasRoof_8 : decode cX1_hasRoof 8 = .ok (.iconst 1, 1) := by decide +kernel
theorem dX1_hasRoof_9 : decode cX1_hasRoof 9 = .ok (.if_icmp .ne 7, 3) := by decide +kernel
theorem dX1_hasRoof_12 : decode cX1_hasRoof 12 = .ok (.iconst 1, 1) := by decide +kernel
theorem dX1_hasRoof_13 : decode cX1_hasRoof 13 = .ok (.goto 4, 3) := by decide +kernel
theorem dX1_hasRoof_16 : decode cX1_hasRoof 16 = .ok (.iconst 0, 1) := by decide +kernel
theorem dX1_hasRoof_17 : decode cX1_hasRoof 17 = .ok (.ireturn, 1) := by decide +kernel
theorem dX1_turnRoof_0 : decode cX1_turnRoof 0 = .ok (.aload_n 0, 1) := by decide +kernel
theorem dX1_turnRoof_1 : decode cX1_turnRoof 1 = .ok (.dup, 1) := by decide +kernel
theorem dX1_turnRoof_2 : decode cX1_turnRoof 2 = .ok (.getfield 15, 3) := by decide +kernel
theorem dX1_turnRoof_5 : decode cX1_turnRoof 5 = .ok (.iconst 1, 1) := by decide +kernel
theorem dX1_turnRoof_6 : decode cX1_turnRoof 6 = .ok (.iload_n 1, 1) := by decide +kernel
theorem dX1_turnRoof_7 : decode cX1_turnRoof 7 = .ok (.ishl, 1) := by decide +kernel
theorem dX1_turnRoof_8 : decode cX1_turnRoof 8 = .ok (.ixor, 1) := by decide +kernel
theorem dX1_turnRoof_9 : decode cX1_turnRoof 9 = .ok (.putfield 15, 3) := by decide +kernel
theorem dX1_turnRoof_12 : decode cX1_turnRoof 12 = .ok (.return_, 1) := by decide +kernel
theorem dX1_pathsFrom_0 : decode cX1_pathsFrom 0 = .ok (.aload_n 0, 1) := by decide +kernel
theorem dX1_pathsFrom_1 : decode cX1_pathsFrom 1 = .ok (.getfield 19, 3) := by decide +kernel
theorem dX1_pathsFrom_4 : decode cX1_pathsFrom 4 = .ok (.iload_n 1, 1) := by decide +kernel
theorem dX1_pathsFrom_5 : decode cX1_pathsFrom 5 = .ok (.iaload, 1) := by decide +kernel
theorem dX1_pathsFrom_6 : decode cX1_pathsFrom 6 = .ok (.ireturn, 1) := by decide +kernel
theorem dX1_isPath_0 : decode cX1_isPath 0 = .ok (.aload_n 0, 1) := by decide +kernel
theorem dX1_isPath_1 : decode cX1_isPath 1 = .ok (.getfield 19, 3) := by decide +kernel
theorem dX1_isPath_4 : decode cX1_isPath 4 = .ok (.iload_n 1, 1) := by decide +kernel
theorem dX1_isPath_5 : decode cX1_isPath 5 = .ok (.iaload, 1) := by decide +kernel
theorem dX1_isPath_6 : decode cX1_isPath 6 = .ok (.iload_n 2, 1) := by decide +kernel
theorem dX1_isPath_7 : decode cX1_isPath 7 = .ok (.ishr, 1) := by decide +kernel
theorem dX1_isPath_8 : decode cX1_isPath 8 = .ok (.iconst 1, 1) := by decide +kernel
theorem dX1_isPath_9 : decode cX1_isPath 9 = .ok (.iand, 1) := by decide +kernel
theorem dX1_isPath_10 : decode cX1_isPath 10 = .ok (.iconst 1, 1) := by decide +kernel
theorem dX1_isPath_11 : decode cX1_isPath 11 = .ok (.if_icmp .ne 7, 3) := by decide +kernel
theorem dX1_isPath_14 : decode cX1_isPath 14 = .ok (.iconst 1, 1) := by decide +kernel
theorem dX1_isPath_15 : decode cX1_isPath 15 = .ok (.goto 4, 3) := by decide +kernel
theorem dX1_isPath_18 : decode cX1_isPath 18 = .ok (.iconst 0, 1) := by decide +kernel
theorem dX1_isPath_19 : decode cX1_isPath 19 = .ok (.ireturn, 1) := by decide +kernel
theorem dX1_turnPath_0 : decode cX1_turnPath 0 = .ok (.aload_n 0, 1) := by decide +kernel
theorem dX1_turnPath_1 : decode cX1_turnPath 1 = .ok (.getfield 19, 3) := by decide +kernel
theorem dX1_turnPath_4 : decode cX1_turnPath 4 = .ok (.iload_n 1, 1) := by decide +kernel
theorem dX1_turnPath_5 : decode cX1_turnPath 5 = .ok (.dup2, 1) := by decide +kernel
theorem dX1_turnPath_6 : decode cX1_turnPath 6 = .ok (.iaload, 1) := by decide +kernel
theorem dX1_turnPath_7 : decode cX1_turnPath 7 = .ok (.iconst 1, 1) := by decide +kernel
theorem dX1_turnPath_8 : decode cX1_turnPath 8 = .ok (.iload_n 2, 1) := by decide +kernel
theorem dX1_turnPath_9 : decode cX1_turnPath 9 = .ok (.ishl, 1) := by decide +kernel
theorem dX1_turnPath_10 : decode cX1_turnPath 10 = .ok (.ixor, 1) := by decide +kernel
theorem dX1_turnPath_11 : decode cX1_turnPath 11 = .ok (.iastore, 1) := by decide +kernel
theorem dX1_turnPath_12 : decode cX1_turnPath 12 = .ok (.aload_n 0, 1) := by decide +kernel
theorem dX1_turnPath_13 : decode cX1_turnPath 13 = .ok (.getfield 19, 3) := by decide +kernel
theorem dX1_turnPath_16 : decode cX1_turnPath 16 = .ok (.iload_n 2, 1) := by decide +kernel
theorem dX1_turnPath_17 : decode cX1_turnPath 17 = .ok (.dup2, 1) := by decide +kernel
theorem dX1_turnPath_18 : decode cX1_turnPath 18 = .ok (.iaload, 1) := by decide +kernel
theorem dX1_turnPath_19 : decode cX1_turnPath 19 = .ok (.iconst 1, 1) := by decide +kernel
theorem dX1_turnPath_20 : decode cX1_turnPath 20 = .ok (.iload_n 1, 1) := by decide +kernel
theorem dX1_turnPath_21 : decode cX1_turnPath 21 = .ok (.ishl, 1) := by decide +kernel
theorem dX1_turnPath_22 : decode cX1_turnPath 22 = .ok (.ixor, 1) := by decide +kernel
theorem dX1_turnPath_23 : decode cX1_turnPath 23 = .ok (.iastore, 1) := by decide +kernel
theorem dX1_turnPath_24 : decode cX1_turnPath 24 = .ok (.return_, 1) := by decide +kernel
theorem dX1_pathsIn_0 : decode cX1_pathsIn 0 = .ok (.iconst 0, 1) := by decide +kernel
theorem dX1_pathsIn_1 : decode cX1_pathsIn 1 = .ok (.istore_n 1, 1) := by decide +kernel
theorem dX1_pathsIn_2 : decode cX1_pathsIn 2 = .ok (.iconst 0, 1) := by decide +kernel
theorem dX1_pathsIn_3 : decode cX1_pathsIn 3 = .ok (.istore_n 2, 1) := by decide +kernel
theorem dX1_pathsIn_4 : decode cX1_pathsIn 4 = .ok (.iload_n 2, 1) := by decide +kernel
theorem dX1_pathsIn_5 : decode cX1_pathsIn 5 = .ok (.bipush 6, 2) := by decide +kernel
theorem dX1_pathsIn_7 : decode cX1_pathsIn 7 = .ok (.if_icmp .ge 21, 3) := by decide +kernel
theorem dX1_pathsIn_10 : decode cX1_pathsIn 10 = .ok (.iload_n 1, 1) := by decide +kernel
theorem dX1_pathsIn_11 : decode cX1_pathsIn 11 = .ok (.aload_n 0, 1) := by decide +kernel
theorem dX1_pathsIn_12 : decode cX1_pathsIn 12 = .ok (.getfield 19, 3) := by decide +kernel
theorem dX1_pathsIn_15 : decode cX1_pathsIn 15 = .ok (.iload_n 2, 1) := by decide +kernel
theorem dX1_pathsIn_16 : decode cX1_pathsIn 16 = .ok (.iaload, 1) := by decide +kernel
theorem dX1_pathsIn_17 : decode cX1_pathsIn 17 = .ok (.invokestatic 57, 3) := by decide +kernel
theorem dX1_pathsIn_20 : decode cX1_pathsIn 20 = .ok (.iadd, 1) := by decide +kernel
theorem dX1_pathsIn_21 : decode cX1_pathsIn 21 = .ok (.istore_n 1, 1) := by decide +kernel
theorem dX1_pathsIn_22 : decode cX1_pathsIn 22 = .ok (.iinc 2 1, 3) := by decide +kernel
theorem dX1_pathsIn_25 : decode cX1_pathsIn 25 = .ok (.goto (-21), 3) := by decide +kernel
theorem dX1_pathsIn_28 : decode cX1_pathsIn 28 = .ok (.iload_n 1, 1) := by decide +kernel
theorem dX1_pathsIn_29 : decode cX1_pathsIn 29 = .ok (.iconst 2, 1) := by decide +kernel
theorem dX1_pathsIn_30 : decode cX1_pathsIn 30 = .ok (.idiv, 1) := by decide +kernel
theorem dX1_pathsIn_31 : decode cX1_pathsIn 31 = .ok (.ireturn, 1) := by decide +kernel
theorem dX1_within_0 : decode cX1_within 0 = .ok (.iload_n 1, 1) := by decide +kernel
theorem dX1_within_1 : decode cX1_within 1 = .ok (.istore_n 2, 1) := by decide +kernel
theorem dX1_within_2 : decode cX1_within 2 = .ok (.iconst 0, 1) := by decide +kernel
theorem dX1_within_3 : decode cX1_within 3 = .ok (.istore_n 3, 1) := by decide +kernel
theorem dX1_within_4 : decode cX1_within 4 = .ok (.iload_n 3, 1) := by decide +kernel
theorem dX1_within_5 : decode cX1_within 5 = .ok (.bipush 6, 2) := by decide +kernel
theorem dX1_within_7 : decode cX1_within 7 = .ok (.if_icmp .ge 27, 3) := by decide +kernel
theorem dX1_within_10 : decode cX1_within 10 = .ok (.iload_n 1, 1) := by decide +kernel
theorem dX1_within_11 : decode cX1_within 11 = .ok (.iload_n 3, 1) := by decide +kernel
theorem dX1_within_12 : decode cX1_within 12 = .ok (.ishr, 1) := by decide +kernel
theorem dX1_within_13 : decode cX1_within 13 = .ok (.iconst 1, 1) := by decide +kernel
theorem dX1_within_14 : decode cX1_within 14 = .ok (.iand, 1) := by decide +kernel
theorem dX1_within_15 : decode cX1_within 15 = .ok (.iconst 1, 1) := by decide +kernel
theorem dX1_within_16 : decode cX1_within 16 = .ok (.if_icmp .ne 12, 3) := by decide +kernel
theorem dX1_within_19 : decode cX1_within 19 = .ok (.iload_n 2, 1) := by decide +kernel
theorem dX1_within_20 : decode cX1_within 20 = .ok (.aload_n 0, 1) := by decide +kernel
theorem dX1_within_21 : decode cX1_within 21 = .ok (.getfield 19, 3) := by decide +kernel
theorem dX1_within_24 : decode cX1_within 24 = .ok (.iload_n 3, 1) := by decide +kernel
theorem dX1_within_25 : decode cX1_within 25 = .ok (.iaload, 1) := by decide +kernel
theorem dX1_within_26 : decode cX1_within 26 = .ok (.ior, 1) := by decide +kernel
theorem dX1_within_27 : decode cX1_within 27 = .ok (.istore_n 2, 1) := by decide +kernel
theorem dX1_within_28 : decode cX1_within 28 = .ok (.iinc 3 1, 3) := by decide +kernel
theorem dX1_within_31 : decode cX1_within 31 = .ok (.goto (-27), 3) := by decide +kernel
theorem dX1_within_34 : decode cX1_within 34 = .ok (.iload_n 2, 1) := by decide +kernel
theorem dX1_within_35 : decode cX1_within 35 = .ok (.ireturn, 1) := by decide +kernel
theorem dX1_addWalker_0 : decode cX1_addWalker 0 = .ok (.aload_n 0, 1) := by decide +kernel
theorem dX1_addWalker_1 : decode cX1_addWalker 1 = .ok (.getfield 22, 3) := by decide +kernel
theorem dX1_addWalker_4 : decode cX1_addWalker 4 = .ok (.istore_n 3, 1) := by decide +kernel
theorem dX1_addWalker_5 : decode cX1_addWalker 5 = .ok (.aload_n 0, 1) := by decide +kernel
theorem dX1_addWalker_6 : decode cX1_addWalker 6 = .ok (.dup, 1) := by decide +kernel
theorem dX1_addWalker_7 : decode cX1_addWalker 7 = .ok (.getfield 22, 3) := by decide +kernel
theorem dX1_addWalker_10 : decode cX1_addWalker 10 = .ok (.iconst 1, 1) := by decide +kernel
theorem dX1_addWalker_11 : decode cX1_addWalker 11 = .ok (.iadd, 1) := by decide +kernel
theorem dX1_addWalker_12 : decode cX1_addWalker 12 = .ok (.putfield 22, 3) := by decide +kernel
theorem dX1_addWalker_15 : decode cX1_addWalker 15 = .ok (.aload_n 0, 1) := by decide +kernel
theorem dX1_addWalker_16 : decode cX1_addWalker 16 = .ok (.getfield 25, 3) := by decide +kernel
theorem dX1_addWalker_19 : decode cX1_addWalker 19 = .ok (.iload_n 3, 1) := by decide +kernel
theorem dX1_addWalker_20 : decode cX1_addWalker 20 = .ok (.iload_n 1, 1) := by decide +kernel
theorem dX1_addWalker_21 : decode cX1_addWalker 21 = .ok (.iastore, 1) := by decide +kernel
theorem dX1_addWalker_22 : decode cX1_addWalker 22 = .ok (.aload_n 0, 1) := by decide +kernel
theorem dX1_addWalker_23 : decode cX1_addWalker 23 = .ok (.getfield 28, 3) := by decide +kernel
theorem dX1_addWalker_26 : decode cX1_addWalker 26 = .ok (.iload_n 3, 1) := by decide +kernel
theorem dX1_addWalker_27 : decode cX1_addWalker 27 = .ok (.iload_n 2, 1) := by decide +kernel
theorem dX1_addWalker_28 : decode cX1_addWalker 28 = .ok (.iastore, 1) := by decide +kernel
theorem dX1_addWalker_29 : decode cX1_addWalker 29 = .ok (.aload_n 0, 1) := by decide +kernel
theorem dX1_addWalker_30 : decode cX1_addWalker 30 = .ok (.getfield 34, 3) := by decide +kernel
theorem dX1_addWalker_33 : decode cX1_addWalker 33 = .ok (.iload_n 3, 1) := by decide +kernel
theorem dX1_addWalker_34 : decode cX1_addWalker 34 = .ok (.iconst 0, 1) := by decide +kernel
theorem dX1_addWalker_35 : decode cX1_addWalker 35 = .ok (.iastore, 1) := by decide +kernel
theorem dX1_addWalker_36 : decode cX1_addWalker 36 = .ok (.iconst 0, 1) := by decide +kernel
theorem dX1_addWalker_37 : decode cX1_addWalker 37 = .ok (.istore 4, 2) := by decide +kernel
theorem dX1_addWalker_39 : decode cX1_addWalker 39 = .ok (.iload 4, 2) := by decide +kernel
theorem dX1_addWalker_41 : decode cX1_addWalker 41 = .ok (.bipush 6, 2) := by decide +kernel
theorem dX1_addWalker_43 : decode cX1_addWalker 43 = .ok (.if_icmp .ge 19, 3) := by decide +kernel
theorem dX1_addWalker_46 : decode cX1_addWalker 46 = .ok (.aload_n 0, 1) := by decide +kernel
theorem dX1_addWalker_47 : decode cX1_addWalker 47 = .ok (.getfield 42, 3) := by decide +kernel
theorem dX1_addWalker_50 : decode cX1_addWalker 50 = .ok (.iload_n 3, 1) := by decide +kernel
theorem dX1_addWalker_51 : decode cX1_addWalker 51 = .ok (.aaload, 1) := by decide +kernel
theorem dX1_addWalker_52 : decode cX1_addWalker 52 = .ok (.iload 4, 2) := by decide +kernel
theorem dX1_addWalker_54 : decode cX1_addWalker 54 = .ok (.iconst (-1), 1) := by decide +kernel
theorem dX1_addWalker_55 : decode cX1_addWalker 55 = .ok (.iastore, 1) := by decide +kernel
theorem dX1_addWalker_56 : decode cX1_addWalker 56 = .ok (.iinc 4 1, 3) := by decide +kernel
theorem dX1_addWalker_59 : decode cX1_addWalker 59 = .ok (.goto (-20), 3) := by decide +kernel
theorem dX1_addWalker_62 : decode cX1_addWalker 62 = .ok (.aload_n 0, 1) := by decide +kernel
theorem dX1_addWalker_63 : decode cX1_addWalker 63 = .ok (.iload_n 3, 1) := by decide +kernel
theorem dX1_addWalker_64 : decode cX1_addWalker 64 = .ok (.invokevirtual 63, 3) := by decide +kernel
theorem dX1_addWalker_67 : decode cX1_addWalker 67 = .ok (.return_, 1) := by decide +kernel
theorem dX1_addToLastPlan_0 : decode cX1_addToLastPlan 0 = .ok (.aload_n 0, 1) := by decide +kernel
theorem dX1_addToLastPlan_1 : decode cX1_addToLastPlan 1 = .ok (.getfield 22, 3) := by decide +kernel
theorem dX1_addToLastPlan_4 : decode cX1_addToLastPlan 4 = .ok (.iconst 1, 1) := by decide +kernel
theorem dX1_addToLastPlan_5 : decode cX1_addToLastPlan 5 = .ok (.isub, 1) := by decide +kernel
theorem dX1_addToLastPlan_6 : decode cX1_addToLastPlan 6 = .ok (.istore_n 2, 1) := by decide +kernel
theorem dX1_addToLastPlan_7 : decode cX1_addToLastPlan 7 = .ok (.iload_n 2, 1) := by decide +kernel
theorem dX1_addToLastPlan_8 : decode cX1_addToLastPlan 8 = .ok (.ifCond .lt 38, 3) := by decide +kernel
theorem dX1_addToLastPlan_11 : decode cX1_addToLastPlan 11 = .ok (.aload_n 0, 1) := by decide +kernel
theorem dX1_addToLastPlan_12 : decode cX1_addToLastPlan 12 = .ok (.getfield 34, 3) := by decide +kernel
theorem dX1_addToLastPlan_15 : decode cX1_addToLastPlan 15 = .ok (.iload_n 2, 1) := by decide +kernel
theorem dX1_addToLastPlan_16 : decode cX1_addToLastPlan 16 = .ok (.iaload, 1) := by decide +kernel
theorem dX1_addToLastPlan_17 : decode cX1_addToLastPlan 17 = .ok (.bipush 6, 2) := by decide +kernel
theorem dX1_addToLastPlan_19 : decode cX1_addToLastPlan 19 = .ok (.if_icmp .ge 27, 3) := by decide +kernel
theorem dX1_addToLastPlan_22 : decode cX1_addToLastPlan 22 = .ok (.aload_n 0, 1) := by decide +kernel
theorem dX1_addToLastPlan_23 : decode cX1_addToLastPlan 23 = .ok (.getfield 39, 3) := by decide +kernel
theorem dX1_addToLastPlan_26 : decode cX1_addToLastPlan 26 = .ok (.iload_n 2, 1) := by decide +kernel
theorem dX1_addToLastPlan_27 : decode cX1_addToLastPlan 27 = .ok (.aaload, 1) := by decide +kernel
theorem dX1_addToLastPlan_28 : decode cX1_addToLastPlan 28 = .ok (.aload_n 0, 1) := by decide +kernel
theorem dX1_addToLastPlan_29 : decode cX1_addToLastPlan 29 = .ok (.getfield 34, 3) := by decide +kernel
theorem dX1_addToLastPlan_32 : decode cX1_addToLastPlan 32 = .ok (.iload_n 2, 1) := by decide +kernel
theorem dX1_addToLastPlan_33 : decode cX1_addToLastPlan 33 = .ok (.iaload, 1) := by decide +kernel
theorem dX1_addToLastPlan_34 : decode cX1_addToLastPlan 34 = .ok (.iload_n 1, 1) := by decide +kernel
theorem dX1_addToLastPlan_35 : decode cX1_addToLastPlan 35 = .ok (.iastore, 1) := by decide +kernel
theorem dX1_addToLastPlan_36 : decode cX1_addToLastPlan 36 = .ok (.aload_n 0, 1) := by decide +kernel
theorem dX1_addToLastPlan_37 : decode cX1_addToLastPlan 37 = .ok (.getfield 34, 3) := by decide +kernel
theorem dX1_addToLastPlan_40 : decode cX1_addToLastPlan 40 = .ok (.iload_n 2, 1) := by decide +kernel
theorem dX1_addToLastPlan_41 : decode cX1_addToLastPlan 41 = .ok (.dup2, 1) := by decide +kernel
theorem dX1_addToLastPlan_42 : decode cX1_addToLastPlan 42 = .ok (.iaload, 1) := by decide +kernel
theorem dX1_addToLastPlan_43 : decode cX1_addToLastPlan 43 = .ok (.iconst 1, 1) := by decide +kernel
theorem dX1_addToLastPlan_44 : decode cX1_addToLastPlan 44 = .ok (.iadd, 1) := by decide +kernel
theorem dX1_addToLastPlan_45 : decode cX1_addToLastPlan 45 = .ok (.iastore, 1) := by decide +kernel
theorem dX1_addToLastPlan_46 : decode cX1_addToLastPlan 46 = .ok (.return_, 1) := by decide +kernel
theorem dX1_kindOf_0 : decode cX1_kindOf 0 = .ok (.aload_n 0, 1) := by decide +kernel
theorem dX1_kindOf_1 : decode cX1_kindOf 1 = .ok (.getfield 25, 3) := by decide +kernel
theorem dX1_kindOf_4 : decode cX1_kindOf 4 = .ok (.iload_n 1, 1) := by decide +kernel
theorem dX1_kindOf_5 : decode cX1_kindOf 5 = .ok (.iaload, 1) := by decide +kernel
theorem dX1_kindOf_6 : decode cX1_kindOf 6 = .ok (.ireturn, 1) := by decide +kernel
theorem dX1_placeOf_0 : decode cX1_placeOf 0 = .ok (.aload_n 0, 1) := by decide +kernel
theorem dX1_placeOf_1 : decode cX1_placeOf 1 = .ok (.getfield 28, 3) := by decide +kernel
theorem dX1_placeOf_4 : decode cX1_placeOf 4 = .ok (.iload_n 1, 1) := by decide +kernel
theorem dX1_placeOf_5 : decode cX1_placeOf 5 = .ok (.iaload, 1) := by decide +kernel
theorem dX1_placeOf_6 : decode cX1_placeOf 6 = .ok (.ireturn, 1) := by decide +kernel
theorem dX1_place_0 : decode cX1_place 0 = .ok (.aload_n 0, 1) := by decide +kernel
theorem dX1_place_1 : decode cX1_place 1 = .ok (.getfield 28, 3) := by decide +kernel
theorem dX1_place_4 : decode cX1_place 4 = .ok (.iload_n 1, 1) := by decide +kernel
theorem dX1_place_5 : decode cX1_place 5 = .ok (.iload_n 2, 1) := by decide +kernel
theorem dX1_place_6 : decode cX1_place 6 = .ok (.iastore, 1) := by decide +kernel
theorem dX1_place_7 : decode cX1_place 7 = .ok (.return_, 1) := by decide +kernel
theorem dX1_planLengthOf_0 : decode cX1_planLengthOf 0 = .ok (.aload_n 0, 1) := by decide +kernel
theorem dX1_planLengthOf_1 : decode cX1_planLengthOf 1 = .ok (.getfield 34, 3) := by decide +kernel
theorem dX1_planLengthOf_4 : decode cX1_planLengthOf 4 = .ok (.iload_n 1, 1) := by decide +kernel
theorem dX1_planLengthOf_5 : decode cX1_planLengthOf 5 = .ok (.iaload, 1) := by decide +kernel
theorem dX1_planLengthOf_6 : decode cX1_planLengthOf 6 = .ok (.ireturn, 1) := by decide +kernel
theorem dX1_goalOf_0 : decode cX1_goalOf 0 = .ok (.aload_n 0, 1) := by decide +kernel
theorem dX1_goalOf_1 : decode cX1_goalOf 1 = .ok (.getfield 25, 3) := by decide +kernel
theorem dX1_goalOf_4 : decode cX1_goalOf 4 = .ok (.iload_n 1, 1) := by decide +kernel
theorem dX1_goalOf_5 : decode cX1_goalOf 5 = .ok (.iaload, 1) := by decide +kernel
theorem dX1_goalOf_6 : decode cX1_goalOf 6 = .ok (.lookupswitch 40 #[(2, 26), (4, 33)], 26) := by decide +kernel
theorem dX1_goalOf_32 : decode cX1_goalOf 32 = .ok (.aload_n 0, 1) := by decide +kernel
theorem dX1_goalOf_33 : decode cX1_goalOf 33 = .ok (.iload_n 1, 1) := by decide +kernel
theorem dX1_goalOf_34 : decode cX1_goalOf 34 = .ok (.iconst 0, 1) := by decide +kernel
theorem dX1_goalOf_35 : decode cX1_goalOf 35 = .ok (.invokevirtual 67, 3) := by decide +kernel
theorem dX1_goalOf_38 : decode cX1_goalOf 38 = .ok (.ireturn, 1) := by decide +kernel
theorem dX1_goalOf_39 : decode cX1_goalOf 39 = .ok (.aload_n 0, 1) := by decide +kernel
theorem dX1_goalOf_40 : decode cX1_goalOf 40 = .ok (.iload_n 1, 1) := by decide +kernel
theorem dX1_goalOf_41 : decode cX1_goalOf 41 = .ok (.iconst 1, 1) := by decide +kernel
theorem dX1_goalOf_42 : decode cX1_goalOf 42 = .ok (.invokevirtual 67, 3) := by decide +kernel
theorem dX1_goalOf_45 : decode cX1_goalOf 45 = .ok (.ireturn, 1) := by decide +kernel
theorem dX1_goalOf_46 : decode cX1_goalOf 46 = .ok (.aload_n 0, 1) := by decide +kernel
theorem dX1_goalOf_47 : decode cX1_goalOf 47 = .ok (.iload_n 1, 1) := by decide +kernel
theorem dX1_goalOf_48 : decode cX1_goalOf 48 = .ok (.invokevirtual 71, 3) := by decide +kernel
theorem dX1_goalOf_51 : decode cX1_goalOf 51 = .ok (.ireturn, 1) := by decide +kernel
theorem dX1_plannedGoal_0 : decode cX1_plannedGoal 0 = .ok (.aload_n 0, 1) := by decide +kernel
theorem dX1_plannedGoal_1 : decode cX1_plannedGoal 1 = .ok (.getfield 28, 3) := by decide +kernel
theorem dX1_plannedGoal_4 : decode cX1_plannedGoal 4 = .ok (.iload_n 1, 1) := by decide +kernel
theorem dX1_plannedGoal_5 : decode cX1_plannedGoal 5 = .ok (.iaload, 1) := by decide +kernel
theorem dX1_plannedGoal_6 : decode cX1_plannedGoal 6 = .ok (.istore_n 2, 1) := by decide +kernel
theorem dX1_plannedGoal_7 : decode cX1_plannedGoal 7 = .ok (.aload_n 0, 1) := by decide +kernel
theorem dX1_plannedGoal_8 : decode cX1_plannedGoal 8 = .ok (.getfield 34, 3) := by decide +kernel
theorem dX1_plannedGoal_11 : decode cX1_plannedGoal 11 = .ok (.iload_n 1, 1) := by decide +kernel
theorem dX1_plannedGoal_12 : decode cX1_plannedGoal 12 = .ok (.iaload, 1) := by decide +kernel
theorem dX1_plannedGoal_13 : decode cX1_plannedGoal 13 = .ok (.istore_n 3, 1) := by decide +kernel
theorem dX1_plannedGoal_14 : decode cX1_plannedGoal 14 = .ok (.iload_n 3, 1) := by decide +kernel
theorem dX1_plannedGoal_15 : decode cX1_plannedGoal 15 = .ok (.ifCond .ne 5, 3) := by decide +kernel
theorem dX1_plannedGoal_18 : decode cX1_plannedGoal 18 = .ok (.iload_n 2, 1) := by decide +kernel
theorem dX1_plannedGoal_19 : decode cX1_plannedGoal 19 = .ok (.ireturn, 1) := by decide +kernel
theorem dX1_plannedGoal_20 : decode cX1_plannedGoal 20 = .ok (.aload_n 0, 1) := by decide +kernel
theorem dX1_plannedGoal_21 : decode cX1_plannedGoal 21 = .ok (.getfield 39, 3) := by decide +kernel
theorem dX1_plannedGoal_24 : decode cX1_plannedGoal 24 = .ok (.iload_n 1, 1) := by decide +kernel
theorem dX1_plannedGoal_25 : decode cX1_plannedGoal 25 = .ok (.aaload, 1) := by decide +kernel
theorem dX1_plannedGoal_26 : decode cX1_plannedGoal 26 = .ok (.aload_n 0, 1) := by decide +kernel
theorem dX1_plannedGoal_27 : decode cX1_plannedGoal 27 = .ok (.getfield 45, 3) := by decide +kernel
theorem dX1_plannedGoal_30 : decode cX1_plannedGoal 30 = .ok (.iload_n 3, 1) := by decide +kernel
theorem dX1_plannedGoal_31 : decode cX1_plannedGoal 31 = .ok (.irem, 1) := by decide +kernel
theorem dX1_plannedGoal_32 : decode cX1_plannedGoal 32 = .ok (.iaload, 1) := by decide +kernel
theorem dX1_plannedGoal_33 : decode cX1_plannedGoal 33 = .ok (.istore 4, 2) := by decide +kernel
theorem dX1_plannedGoal_35 : decode cX1_plannedGoal 35 = .ok (.aload_n 0, 1) := by decide +kernel
theorem dX1_plannedGoal_36 : decode cX1_plannedGoal 36 = .ok (.iload_n 2, 1) := by decide +kernel
theorem dX1_plannedGoal_37 : decode cX1_plannedGoal 37 = .ok (.iload 4, 2) := by decide +kernel
theorem dX1_plannedGoal_39 : decode cX1_plannedGoal 39 = .ok (.invokevirtual 74, 3) := by decide +kernel
theorem dX1_plannedGoal_42 : decode cX1_plannedGoal 42 = .ok (.ifCond .eq 8, 3) := by decide +kernel
theorem dX1_plannedGoal_45 : decode cX1_plannedGoal 45 = .ok (.iload 4, 2) := by decide +kernel
theorem dX1_plannedGoal_47 : decode cX1_plannedGoal 47 = .ok (.goto 4, 3) := by decide +kernel
theorem dX1_plannedGoal_50 : decode cX1_plannedGoal 50 = .ok (.iload_n 2, 1) := by decide +kernel
theorem dX1_plannedGoal_51 : decode cX1_plannedGoal 51 = .ok (.ireturn, 1) := by decide +kernel
theorem dX1_smeltGoal_0 : decode cX1_smeltGoal 0 = .ok (.aload_n 0, 1) := by decide +kernel
theorem dX1_smeltGoal_1 : decode cX1_smeltGoal 1 = .ok (.getfield 28, 3) := by decide +kernel
theorem dX1_smeltGoal_4 : decode cX1_smeltGoal 4 = .ok (.iload_n 1, 1) := by decide +kernel
theorem dX1_smeltGoal_5 : decode cX1_smeltGoal 5 = .ok (.iaload, 1) := by decide +kernel
theorem dX1_smeltGoal_6 : decode cX1_smeltGoal 6 = .ok (.istore_n 3, 1) := by decide +kernel
theorem dX1_smeltGoal_7 : decode cX1_smeltGoal 7 = .ok (.iload_n 3, 1) := by decide +kernel
theorem dX1_smeltGoal_8 : decode cX1_smeltGoal 8 = .ok (.istore 4, 2) := by decide +kernel
theorem dX1_smeltGoal_10 : decode cX1_smeltGoal 10 = .ok (.aload_n 0, 1) := by decide +kernel
theorem dX1_smeltGoal_11 : decode cX1_smeltGoal 11 = .ok (.iload_n 3, 1) := by decide +kernel
theorem dX1_smeltGoal_12 : decode cX1_smeltGoal 12 = .ok (.iload_n 1, 1) := by decide +kernel
theorem dX1_smeltGoal_13 : decode cX1_smeltGoal 13 = .ok (.iload_n 2, 1) := by decide +kernel
theorem dX1_smeltGoal_14 : decode cX1_smeltGoal 14 = .ok (.invokevirtual 78, 3) := by decide +kernel
theorem dX1_smeltGoal_17 : decode cX1_smeltGoal 17 = .ok (.istore 5, 2) := by decide +kernel
theorem dX1_smeltGoal_19 : decode cX1_smeltGoal 19 = .ok (.iconst 0, 1) := by decide +kernel
theorem dX1_smeltGoal_20 : decode cX1_smeltGoal 20 = .ok (.istore 6, 2) := by decide +kernel
theorem dX1_smeltGoal_22 : decode cX1_smeltGoal 22 = .ok (.iload 6, 2) := by decide +kernel
theorem dX1_smeltGoal_24 : decode cX1_smeltGoal 24 = .ok (.bipush 6, 2) := by decide +kernel
theorem dX1_smeltGoal_26 : decode cX1_smeltGoal 26 = .ok (.if_icmp .ge 48, 3) := by decide +kernel
theorem dX1_smeltGoal_29 : decode cX1_smeltGoal 29 = .ok (.aload_n 0, 1) := by decide +kernel
theorem dX1_smeltGoal_30 : decode cX1_smeltGoal 30 = .ok (.iload_n 3, 1) := by decide +kernel
theorem dX1_smeltGoal_31 : decode cX1_smeltGoal 31 = .ok (.iload 6, 2) := by decide +kernel
theorem dX1_smeltGoal_33 : decode cX1_smeltGoal 33 = .ok (.invokevirtual 74, 3) := by decide +kernel
theorem dX1_smeltGoal_36 : decode cX1_smeltGoal 36 = .ok (.ifCond .eq 32, 3) := by decide +kernel
theorem dX1_smeltGoal_39 : decode cX1_smeltGoal 39 = .ok (.aload_n 0, 1) := by decide +kernel
theorem dX1_smeltGoal_40 : decode cX1_smeltGoal 40 = .ok (.iload 6, 2) := by decide +kernel
theorem dX1_smeltGoal_42 : decode cX1_smeltGoal 42 = .ok (.iload_n 1, 1) := by decide +kernel
theorem dX1_smeltGoal_43 : decode cX1_smeltGoal 43 = .ok (.iload_n 2, 1) := by decide +kernel
theorem dX1_smeltGoal_44 : decode cX1_smeltGoal 44 = .ok (.invokevirtual 78, 3) := by decide +kernel
theorem dX1_smeltGoal_47 : decode cX1_smeltGoal 47 = .ok (.istore 7, 2) := by decide +kernel
theorem dX1_smeltGoal_49 : decode cX1_smeltGoal 49 = .ok (.iload 7, 2) := by decide +kernel
theorem dX1_smeltGoal_51 : decode cX1_smeltGoal 51 = .ok (.iload 5, 2) := by decide +kernel
theorem dX1_smeltGoal_53 : decode cX1_smeltGoal 53 = .ok (.iload_n 2, 1) := by decide +kernel
theorem dX1_smeltGoal_54 : decode cX1_smeltGoal 54 = .ok (.invokestatic 82, 3) := by decide +kernel
theorem dX1_smeltGoal_57 : decode cX1_smeltGoal 57 = .ok (.ifCond .eq 11, 3) := by decide +kernel
theorem dX1_smeltGoal_60 : decode cX1_smeltGoal 60 = .ok (.iload 6, 2) := by decide +kernel
theorem dX1_smeltGoal_62 : decode cX1_smeltGoal 62 = .ok (.istore 4, 2) := by decide +kernel
theorem dX1_smeltGoal_64 : decode cX1_smeltGoal 64 = .ok (.iload 7, 2) := by decide +kernel
theorem dX1_smeltGoal_66 : decode cX1_smeltGoal 66 = .ok (.istore 5, 2) := by decide +kernel
theorem dX1_smeltGoal_68 : decode cX1_smeltGoal 68 = .ok (.iinc 6 1, 3) := by decide +kernel
theorem dX1_smeltGoal_71 : decode cX1_smeltGoal 71 = .ok (.goto (-49), 3) := by decide +kernel
theorem dX1_smeltGoal_74 : decode cX1_smeltGoal 74 = .ok (.iload 4, 2) := by decide +kernel
theorem dX1_smeltGoal_76 : decode cX1_smeltGoal 76 = .ok (.ireturn, 1) := by decide +kernel
theorem dX1_goOn_0 : decode cX1_goOn 0 = .ok (.iconst 0, 1) := by decide +kernel
theorem dX1_goOn_1 : decode cX1_goOn 1 = .ok (.istore_n 2, 1) := by decide +kernel
theorem dX1_goOn_2 : decode cX1_goOn 2 = .ok (.iload_n 2, 1) := by decide +kernel
theorem dX1_goOn_3 : decode cX1_goOn 3 = .ok (.iload_n 1, 1) := by decide +kernel
theorem dX1_goOn_4 : decode cX1_goOn 4 = .ok (.if_icmp .ge 73, 3) := by decide +kernel
theorem dX1_goOn_7 : decode cX1_goOn 7 = .ok (.iconst 0, 1) := by decide +kernel
theorem dX1_goOn_8 : decode cX1_goOn 8 = .ok (.istore_n 3, 1) := by decide +kernel
theorem dX1_goOn_9 : decode cX1_goOn 9 = .ok (.iload_n 3, 1) := by decide +kernel
theorem dX1_goOn_10 : decode cX1_goOn 10 = .ok (.aload_n 0, 1) := by decide +kernel
theorem dX1_goOn_11 : decode cX1_goOn 11 = .ok (.getfield 22, 3) := by decide +kernel
theorem dX1_goOn_14 : decode cX1_goOn 14 = .ok (.if_icmp .ge 20, 3) := by decide +kernel
theorem dX1_goOn_17 : decode cX1_goOn 17 = .ok (.aload_n 0, 1) := by decide +kernel
theorem dX1_goOn_18 : decode cX1_goOn 18 = .ok (.getfield 31, 3) := by decide +kernel
theorem dX1_goOn_21 : decode cX1_goOn 21 = .ok (.iload_n 3, 1) := by decide +kernel
theorem dX1_goOn_22 : decode cX1_goOn 22 = .ok (.aload_n 0, 1) := by decide +kernel
theorem dX1_goOn_23 : decode cX1_goOn 23 = .ok (.iload_n 3, 1) := by decide +kernel
theorem dX1_goOn_24 : decode cX1_goOn 24 = .ok (.invokevirtual 86, 3) := by decide +kernel
theorem dX1_goOn_27 : decode cX1_goOn 27 = .ok (.iastore, 1) := by decide +kernel
theorem dX1_goOn_28 : decode cX1_goOn 28 = .ok (.iinc 3 1, 3) := by decide +kernel
theorem dX1_goOn_31 : decode cX1_goOn 31 = .ok (.goto (-22), 3) := by decide +kernel
theorem dX1_goOn_34 : decode cX1_goOn 34 = .ok (.aload_n 0, 1) := by decide +kernel
theorem dX1_goOn_35 : decode cX1_goOn 35 = .ok (.dup, 1) := by decide +kernel
theorem dX1_goOn_36 : decode cX1_goOn 36 = .ok (.getfield 45, 3) := by decide +kernel
theorem dX1_goOn_39 : decode cX1_goOn 39 = .ok (.iconst 1, 1) := by decide +kernel
theorem dX1_goOn_40 : decode cX1_goOn 40 = .ok (.iadd, 1) := by decide +kernel
theorem dX1_goOn_41 : decode cX1_goOn 41 = .ok (.putfield 45, 3) := by decide +kernel
theorem dX1_goOn_44 : decode cX1_goOn 44 = .ok (.iconst 0, 1) := by decide +kernel
theorem dX1_goOn_45 : decode cX1_goOn 45 = .ok (.istore_n 3, 1) := by decide +kernel
theorem dX1_goOn_46 : decode cX1_goOn 46 = .ok (.iload_n 3, 1) := by decide +kernel
theorem dX1_goOn_47 : decode cX1_goOn 47 = .ok (.aload_n 0, 1) := by decide +kernel
theorem dX1_goOn_48 : decode cX1_goOn 48 = .ok (.getfield 22, 3) := by decide +kernel
theorem dX1_goOn_51 : decode cX1_goOn 51 = .ok (.if_icmp .ge 20, 3) := by decide +kernel
theorem dX1_goOn_54 : decode cX1_goOn 54 = .ok (.aload_n 0, 1) := by decide +kernel
theorem dX1_goOn_55 : decode cX1_goOn 55 = .ok (.iload_n 3, 1) := by decide +kernel
theorem dX1_goOn_56 : decode cX1_goOn 56 = .ok (.aload_n 0, 1) := by decide +kernel
theorem dX1_goOn_57 : decode cX1_goOn 57 = .ok (.getfield 31, 3) := by decide +kernel
theorem dX1_goOn_60 : decode cX1_goOn 60 = .ok (.iload_n 3, 1) := by decide +kernel
theorem dX1_goOn_61 : decode cX1_goOn 61 = .ok (.iaload, 1) := by decide +kernel
theorem dX1_goOn_62 : decode cX1_goOn 62 = .ok (.invokevirtual 89, 3) := by decide +kernel
theorem dX1_goOn_65 : decode cX1_goOn 65 = .ok (.iinc 3 1, 3) := by decide +kernel
theorem dX1_goOn_68 : decode cX1_goOn 68 = .ok (.goto (-22), 3) := by decide +kernel
theorem dX1_goOn_71 : decode cX1_goOn 71 = .ok (.iinc 2 1, 3) := by decide +kernel
theorem dX1_goOn_74 : decode cX1_goOn 74 = .ok (.goto (-72), 3) := by decide +kernel
theorem dX1_goOn_77 : decode cX1_goOn 77 = .ok (.return_, 1) := by decide +kernel
theorem dX1_arrive_0 : decode cX1_arrive 0 = .ok (.iload_n 2, 1) := by decide +kernel
theorem dX1_arrive_1 : decode cX1_arrive 1 = .ok (.aload_n 0, 1) := by decide +kernel
theorem dX1_arrive_2 : decode cX1_arrive 2 = .ok (.getfield 28, 3) := by decide +kernel
theorem dX1_arrive_5 : decode cX1_arrive 5 = .ok (.iload_n 1, 1) := by decide +kernel
theorem dX1_arrive_6 : decode cX1_arrive 6 = .ok (.iaload, 1) := by decide +kernel
theorem dX1_arrive_7 : decode cX1_arrive 7 = .ok (.if_icmp .ne 7, 3) := by decide +kernel
theorem dX1_arrive_10 : decode cX1_arrive 10 = .ok (.iconst 1, 1) := by decide +kernel
theorem dX1_arrive_11 : decode cX1_arrive 11 = .ok (.goto 4, 3) := by decide +kernel
theorem dX1_arrive_14 : decode cX1_arrive 14 = .ok (.iconst 0, 1) := by decide +kernel
theorem dX1_arrive_15 : decode cX1_arrive 15 = .ok (.istore_n 3, 1) := by decide +kernel
theorem dX1_arrive_16 : decode cX1_arrive 16 = .ok (.aload_n 0, 1) := by decide +kernel
theorem dX1_arrive_17 : decode cX1_arrive 17 = .ok (.getfield 28, 3) := by decide +kernel
theorem dX1_arrive_20 : decode cX1_arrive 20 = .ok (.iload_n 1, 1) := by decide +kernel
theorem dX1_arrive_21 : decode cX1_arrive 21 = .ok (.iload_n 2, 1) := by decide +kernel
theorem dX1_arrive_22 : decode cX1_arrive 22 = .ok (.iastore, 1) := by decide +kernel
theorem dX1_arrive_23 : decode cX1_arrive 23 = .ok (.iload_n 3, 1) := by decide +kernel
theorem dX1_arrive_24 : decode cX1_arrive 24 = .ok (.ifCond .ne 13, 3) := by decide +kernel
theorem dX1_arrive_27 : decode cX1_arrive 27 = .ok (.aload_n 0, 1) := by decide +kernel
theorem dX1_arrive_28 : decode cX1_arrive 28 = .ok (.getfield 25, 3) := by decide +kernel
theorem dX1_arrive_31 : decode cX1_arrive 31 = .ok (.iload_n 1, 1) := by decide +kernel
theorem dX1_arrive_32 : decode cX1_arrive 32 = .ok (.iaload, 1) := by decide +kernel
theorem dX1_arrive_33 : decode cX1_arrive 33 = .ok (.iconst 1, 1) := by decide +kernel
theorem dX1_arrive_34 : decode cX1_arrive 34 = .ok (.if_icmp .eq 8, 3) := by decide +kernel
theorem dX1_arrive_37 : decode cX1_arrive 37 = .ok (.aload_n 0, 1) := by decide +kernel
theorem dX1_arrive_38 : decode cX1_arrive 38 = .ok (.iload_n 1, 1) := by decide +kernel
theorem dX1_arrive_39 : decode cX1_arrive 39 = .ok (.invokevirtual 63, 3) := by decide +kernel
theorem dX1_arrive_42 : decode cX1_arrive 42 = .ok (.return_, 1) := by decide +kernel
theorem dX1_leaveTrace_0 : decode cX1_leaveTrace 0 = .ok (.aload_n 0, 1) := by decide +kernel
theorem dX1_leaveTrace_1 : decode cX1_leaveTrace 1 = .ok (.getfield 25, 3) := by decide +kernel
theorem dX1_leaveTrace_4 : decode cX1_leaveTrace 4 = .ok (.iload_n 1, 1) := by decide +kernel
theorem dX1_leaveTrace_5 : decode cX1_leaveTrace 5 = .ok (.iaload, 1) := by decide +kernel
theorem dX1_leaveTrace_6 : decode cX1_leaveTrace 6 = .ok (.iconst 5, 1) := by decide +kernel
theorem dX1_leaveTrace_7 : decode cX1_leaveTrace 7 = .ok (.if_icmp .eq 20, 3) := by decide +kernel
theorem dX1_leaveTrace_10 : decode cX1_leaveTrace 10 = .ok (.aload_n 0, 1) := by decide +kernel
theorem dX1_leaveTrace_11 : decode cX1_leaveTrace 11 = .ok (.getfield 42, 3) := by decide +kernel
theorem dX1_leaveTrace_14 : decode cX1_leaveTrace 14 = .ok (.iload_n 1, 1) := by decide +kernel
theorem dX1_leaveTrace_15 : decode cX1_leaveTrace 15 = .ok (.aaload, 1) := by decide +kernel
theorem dX1_leaveTrace_16 : decode cX1_leaveTrace 16 = .ok (.aload_n 0, 1) := by decide +kernel
theorem dX1_leaveTrace_17 : decode cX1_leaveTrace 17 = .ok (.getfield 28, 3) := by decide +kernel
theorem dX1_leaveTrace_20 : decode cX1_leaveTrace 20 = .ok (.iload_n 1, 1) := by decide +kernel
theorem dX1_leaveTrace_21 : decode cX1_leaveTrace 21 = .ok (.iaload, 1) := by decide +kernel
theorem dX1_leaveTrace_22 : decode cX1_leaveTrace 22 = .ok (.aload_n 0, 1) := by decide +kernel
theorem dX1_leaveTrace_23 : decode cX1_leaveTrace 23 = .ok (.getfield 45, 3) := by decide +kernel
theorem dX1_leaveTrace_26 : decode cX1_leaveTrace 26 = .ok (.iastore, 1) := by decide +kernel
theorem dX1_leaveTrace_27 : decode cX1_leaveTrace 27 = .ok (.return_, 1) := by decide +kernel
theorem dX1_scatter_0 : decode cX1_scatter 0 = .ok (.iload_n 1, 1) := by decide +kernel
theorem dX1_scatter_1 : decode cX1_scatter 1 = .ok (.istore_n 2, 1) := by decide +kernel
theorem dX1_scatter_2 : decode cX1_scatter 2 = .ok (.iconst 0, 1) := by decide +kernel
theorem dX1_scatter_3 : decode cX1_scatter 3 = .ok (.istore_n 3, 1) := by decide +kernel
theorem dX1_scatter_4 : decode cX1_scatter 4 = .ok (.iload_n 3, 1) := by decide +kernel
theorem dX1_scatter_5 : decode cX1_scatter 5 = .ok (.aload_n 0, 1) := by decide +kernel
theorem dX1_scatter_6 : decode cX1_scatter 6 = .ok (.getfield 22, 3) := by decide +kernel
theorem dX1_scatter_9 : decode cX1_scatter 9 = .ok (.if_icmp .ge 34, 3) := by decide +kernel
theorem dX1_scatter_12 : decode cX1_scatter 12 = .ok (.iload_n 2, 1) := by decide +kernel
theorem dX1_scatter_13 : decode cX1_scatter 13 = .ok (.ldc 93, 2) := by decide +kernel
theorem dX1_scatter_15 : decode cX1_scatter 15 = .ok (.imul, 1) := by decide +kernel
theorem dX1_scatter_16 : decode cX1_scatter 16 = .ok (.ldc 94, 2) := by decide +kernel
theorem dX1_scatter_18 : decode cX1_scatter 18 = .ok (.iadd, 1) := by decide +kernel
theorem dX1_scatter_19 : decode cX1_scatter 19 = .ok (.istore_n 2, 1) := by decide +kernel
theorem dX1_scatter_20 : decode cX1_scatter 20 = .ok (.aload_n 0, 1) := by decide +kernel
theorem dX1_scatter_21 : decode cX1_scatter 21 = .ok (.getfield 28, 3) := by decide +kernel
theorem dX1_scatter_24 : decode cX1_scatter 24 = .ok (.iload_n 3, 1) := by decide +kernel
theorem dX1_scatter_25 : decode cX1_scatter 25 = .ok (.iload_n 2, 1) := by decide +kernel
theorem dX1_scatter_26 : decode cX1_scatter 26 = .ok (.ldc 95, 2) := by decide +kernel
theorem dX1_scatter_28 : decode cX1_scatter 28 = .ok (.iand, 1) := by decide +kernel
theorem dX1_scatter_29 : decode cX1_scatter 29 = .ok (.sipush 256, 3) := by decide +kernel
theorem dX1_scatter_32 : decode cX1_scatter 32 = .ok (.idiv, 1) := by decide +kernel
theorem dX1_scatter_33 : decode cX1_scatter 33 = .ok (.bipush 6, 2) := by decide +kernel
theorem dX1_scatter_35 : decode cX1_scatter 35 = .ok (.irem, 1) := by decide +kernel
theorem dX1_scatter_36 : decode cX1_scatter 36 = .ok (.iastore, 1) := by decide +kernel
theorem dX1_scatter_37 : decode cX1_scatter 37 = .ok (.iinc 3 1, 3) := by decide +kernel
theorem dX1_scatter_40 : decode cX1_scatter 40 = .ok (.goto (-36), 3) := by decide +kernel
theorem dX1_scatter_43 : decode cX1_scatter 43 = .ok (.iload_n 2, 1) := by decide +kernel
theorem dX1_scatter_44 : decode cX1_scatter 44 = .ok (.ireturn, 1) := by decide +kernel
theorem dX1_washOut_0 : decode cX1_washOut 0 = .ok (.iconst 0, 1) := by decide +kernel
theorem dX1_washOut_1 : decode cX1_washOut 1 = .ok (.istore_n 1, 1) := by decide +kernel
theorem dX1_washOut_2 : decode cX1_washOut 2 = .ok (.iconst 0, 1) := by decide +kernel
theorem dX1_washOut_3 : decode cX1_washOut 3 = .ok (.istore_n 2, 1) := by decide +kernel
theorem dX1_washOut_4 : decode cX1_washOut 4 = .ok (.iload_n 2, 1) := by decide +kernel
theorem dX1_washOut_5 : decode cX1_washOut 5 = .ok (.bipush 6, 2) := by decide +kernel
theorem dX1_washOut_7 : decode cX1_washOut 7 = .ok (.if_icmp .ge 30, 3) := by decide +kernel
theorem dX1_washOut_10 : decode cX1_washOut 10 = .ok (.aload_n 0, 1) := by decide +kernel
theorem dX1_washOut_11 : decode cX1_washOut 11 = .ok (.iload_n 2, 1) := by decide +kernel
theorem dX1_washOut_12 : decode cX1_washOut 12 = .ok (.invokevirtual 96, 3) := by decide +kernel
theorem dX1_washOut_15 : decode cX1_washOut 15 = .ok (.ifCond .ne 16, 3) := by decide +kernel
theorem dX1_washOut_18 : decode cX1_washOut 18 = .ok (.iload_n 1, 1) := by decide +kernel
theorem dX1_washOut_19 : decode cX1_washOut 19 = .ok (.aload_n 0, 1) := by decide +kernel
theorem dX1_washOut_20 : decode cX1_washOut 20 = .ok (.iload_n 2, 1) := by decide +kernel
theorem dX1_washOut_21 : decode cX1_washOut 21 = .ok (.invokevirtual 100, 3) := by decide +kernel
theorem dX1_washOut_24 : decode cX1_washOut 24 = .ok (.iadd, 1) := by decide +kernel
theorem dX1_washOut_25 : decode cX1_washOut 25 = .ok (.istore_n 1, 1) := by decide +kernel
theorem dX1_washOut_26 : decode cX1_washOut 26 = .ok (.aload_n 0, 1) := by decide +kernel
theorem dX1_washOut_27 : decode cX1_washOut 27 = .ok (.iload_n 2, 1) := by decide +kernel
theorem dX1_washOut_28 : decode cX1_washOut 28 = .ok (.invokevirtual 103, 3) := by decide +kernel
theorem dX1_washOut_31 : decode cX1_washOut 31 = .ok (.iinc 2 1, 3) := by decide +kernel
theorem dX1_washOut_34 : decode cX1_washOut 34 = .ok (.goto (-30), 3) := by decide +kernel
theorem dX1_washOut_37 : decode cX1_washOut 37 = .ok (.iload_n 1, 1) := by decide +kernel
theorem dX1_washOut_38 : decode cX1_washOut 38 = .ok (.ireturn, 1) := by decide +kernel
theorem dX1_forgetTraces_0 : decode cX1_forgetTraces 0 = .ok (.iconst 0, 1) := by decide +kernel
theorem dX1_forgetTraces_1 : decode cX1_forgetTraces 1 = .ok (.istore_n 2, 1) := by decide +kernel
theorem dX1_forgetTraces_2 : decode cX1_forgetTraces 2 = .ok (.iload_n 2, 1) := by decide +kernel
theorem dX1_forgetTraces_3 : decode cX1_forgetTraces 3 = .ok (.aload_n 0, 1) := by decide +kernel
theorem dX1_forgetTraces_4 : decode cX1_forgetTraces 4 = .ok (.getfield 22, 3) := by decide +kernel
theorem dX1_forgetTraces_7 : decode cX1_forgetTraces 7 = .ok (.if_icmp .ge 18, 3) := by decide +kernel
theorem dX1_forgetTraces_10 : decode cX1_forgetTraces 10 = .ok (.aload_n 0, 1) := by decide +kernel
theorem dX1_forgetTraces_11 : decode cX1_forgetTraces 11 = .ok (.getfield 42, 3) := by decide +kernel
theorem dX1_forgetTraces_14 : decode cX1_forgetTraces 14 = .ok (.iload_n 2, 1) := by decide +kernel
theorem dX1_forgetTraces_15 : decode cX1_forgetTraces 15 = .ok (.aaload, 1) := by decide +kernel
theorem dX1_forgetTraces_16 : decode cX1_forgetTraces 16 = .ok (.iload_n 1, 1) := by decide +kernel
theorem dX1_forgetTraces_17 : decode cX1_forgetTraces 17 = .ok (.iconst (-1), 1) := by decide +kernel
theorem dX1_forgetTraces_18 : decode cX1_forgetTraces 18 = .ok (.iastore, 1) := by decide +kernel
theorem dX1_forgetTraces_19 : decode cX1_forgetTraces 19 = .ok (.iinc 2 1, 3) := by decide +kernel
theorem dX1_forgetTraces_22 : decode cX1_forgetTraces 22 = .ok (.goto (-20), 3) := by decide +kernel
theorem dX1_forgetTraces_25 : decode cX1_forgetTraces 25 = .ok (.return_, 1) := by decide +kernel
theorem dX1_hasTrace_0 : decode cX1_hasTrace 0 = .ok (.aload_n 0, 1) := by decide +kernel
theorem dX1_hasTrace_1 : decode cX1_hasTrace 1 = .ok (.getfield 42, 3) := by decide +kernel
theorem dX1_hasTrace_4 : decode cX1_hasTrace 4 = .ok (.iload_n 1, 1) := by decide +kernel
theorem dX1_hasTrace_5 : decode cX1_hasTrace 5 = .ok (.aaload, 1) := by decide +kernel
theorem dX1_hasTrace_6 : decode cX1_hasTrace 6 = .ok (.iload_n 2, 1) := by decide +kernel
theorem dX1_hasTrace_7 : decode cX1_hasTrace 7 = .ok (.iaload, 1) := by decide +kernel
theorem dX1_hasTrace_8 : decode cX1_hasTrace 8 = .ok (.iconst (-1), 1) := by decide +kernel
theorem dX1_hasTrace_9 : decode cX1_hasTrace 9 = .ok (.if_icmp .eq 7, 3) := by decide +kernel
theorem dX1_hasTrace_12 : decode cX1_hasTrace 12 = .ok (.iconst 1, 1) := by decide +kernel
theorem dX1_hasTrace_13 : decode cX1_hasTrace 13 = .ok (.goto 4, 3) := by decide +kernel
theorem dX1_hasTrace_16 : decode cX1_hasTrace 16 = .ok (.iconst 0, 1) := by decide +kernel
theorem dX1_hasTrace_17 : decode cX1_hasTrace 17 = .ok (.ireturn, 1) := by decide +kernel
theorem dX1_ageOf_0 : decode cX1_ageOf 0 = .ok (.aload_n 0, 1) := by decide +kernel
theorem dX1_ageOf_1 : decode cX1_ageOf 1 = .ok (.getfield 42, 3) := by decide +kernel
theorem dX1_ageOf_4 : decode cX1_ageOf 4 = .ok (.iload_n 1, 1) := by decide +kernel
theorem dX1_ageOf_5 : decode cX1_ageOf 5 = .ok (.aaload, 1) := by decide +kernel
theorem dX1_ageOf_6 : decode cX1_ageOf 6 = .ok (.iload_n 2, 1) := by decide +kernel
theorem dX1_ageOf_7 : decode cX1_ageOf 7 = .ok (.iaload, 1) := by decide +kernel
theorem dX1_ageOf_8 : decode cX1_ageOf 8 = .ok (.iconst (-1), 1) := by decide +kernel
theorem dX1_ageOf_9 : decode cX1_ageOf 9 = .ok (.if_icmp .ne 6, 3) := by decide +kernel
theorem dX1_ageOf_12 : decode cX1_ageOf 12 = .ok (.bipush (-9), 2) := by decide +kernel
theorem dX1_ageOf_14 : decode cX1_ageOf 14 = .ok (.ireturn, 1) := by decide +kernel
theorem dX1_ageOf_15 : decode cX1_ageOf 15 = .ok (.aload_n 0, 1) := by decide +kernel
theorem dX1_ageOf_16 : decode cX1_ageOf 16 = .ok (.getfield 45, 3) := by decide +kernel
theorem dX1_ageOf_19 : decode cX1_ageOf 19 = .ok (.iload_n 3, 1) := by decide +kernel
theorem dX1_ageOf_20 : decode cX1_ageOf 20 = .ok (.iadd, 1) := by decide +kernel
theorem dX1_ageOf_21 : decode cX1_ageOf 21 = .ok (.aload_n 0, 1) := by decide +kernel
theorem dX1_ageOf_22 : decode cX1_ageOf 22 = .ok (.getfield 42, 3) := by decide +kernel
theorem dX1_ageOf_25 : decode cX1_ageOf 25 = .ok (.iload_n 1, 1) := by decide +kernel
theorem dX1_ageOf_26 : decode cX1_ageOf 26 = .ok (.aaload, 1) := by decide +kernel
theorem dX1_ageOf_27 : decode cX1_ageOf 27 = .ok (.iload_n 2, 1) := by decide +kernel
theorem dX1_ageOf_28 : decode cX1_ageOf 28 = .ok (.iaload, 1) := by decide +kernel
theorem dX1_ageOf_29 : decode cX1_ageOf 29 = .ok (.isub, 1) := by decide +kernel
theorem dX1_ageOf_30 : decode cX1_ageOf 30 = .ok (.iconst 1, 1) := by decide +kernel
theorem dX1_ageOf_31 : decode cX1_ageOf 31 = .ok (.aload_n 0, 1) := by decide +kernel
theorem dX1_ageOf_32 : decode cX1_ageOf 32 = .ok (.getfield 9, 3) := by decide +kernel
theorem dX1_ageOf_35 : decode cX1_ageOf 35 = .ok (.iload_n 2, 1) := by decide +kernel
theorem dX1_ageOf_36 : decode cX1_ageOf 36 = .ok (.iaload, 1) := by decide +kernel
theorem dX1_ageOf_37 : decode cX1_ageOf 37 = .ok (.iadd, 1) := by decide +kernel
theorem dX1_ageOf_38 : decode cX1_ageOf 38 = .ok (.imul, 1) := by decide +kernel
theorem dX1_ageOf_39 : decode cX1_ageOf 39 = .ok (.istore 4, 2) := by decide +kernel
theorem dX1_ageOf_41 : decode cX1_ageOf 41 = .ok (.aload_n 0, 1) := by decide +kernel
theorem dX1_ageOf_42 : decode cX1_ageOf 42 = .ok (.getfield 25, 3) := by decide +kernel
theorem dX1_ageOf_45 : decode cX1_ageOf 45 = .ok (.iload_n 1, 1) := by decide +kernel
theorem dX1_ageOf_46 : decode cX1_ageOf 46 = .ok (.iaload, 1) := by decide +kernel
theorem dX1_ageOf_47 : decode cX1_ageOf 47 = .ok (.iconst 3, 1) := by decide +kernel
theorem dX1_ageOf_48 : decode cX1_ageOf 48 = .ok (.if_icmp .ne 10, 3) := by decide +kernel
theorem dX1_ageOf_51 : decode cX1_ageOf 51 = .ok (.iload 4, 2) := by decide +kernel
theorem dX1_ageOf_53 : decode cX1_ageOf 53 = .ok (.iconst 2, 1) := by decide +kernel
theorem dX1_ageOf_54 : decode cX1_ageOf 54 = .ok (.idiv, 1) := by decide +kernel
theorem dX1_ageOf_55 : decode cX1_ageOf 55 = .ok (.goto 5, 3) := by decide +kernel
theorem dX1_ageOf_58 : decode cX1_ageOf 58 = .ok (.iload 4, 2) := by decide +kernel
theorem dX1_ageOf_60 : decode cX1_ageOf 60 = .ok (.ireturn, 1) := by decide +kernel
theorem dX1_smellOf_0 : decode cX1_smellOf 0 = .ok (.aload_n 0, 1) := by decide +kernel
theorem dX1_smellOf_1 : decode cX1_smellOf 1 = .ok (.iload_n 1, 1) := by decide +kernel
theorem dX1_smellOf_2 : decode cX1_smellOf 2 = .ok (.iload_n 2, 1) := by decide +kernel
theorem dX1_smellOf_3 : decode cX1_smellOf 3 = .ok (.iload_n 3, 1) := by decide +kernel
theorem dX1_smellOf_4 : decode cX1_smellOf 4 = .ok (.invokevirtual 106, 3) := by decide +kernel
theorem dX1_smellOf_7 : decode cX1_smellOf 7 = .ok (.aload_n 0, 1) := by decide +kernel
theorem dX1_smellOf_8 : decode cX1_smellOf 8 = .ok (.getfield 48, 3) := by decide +kernel
theorem dX1_smellOf_11 : decode cX1_smellOf 11 = .ok (.idiv, 1) := by decide +kernel
theorem dX1_smellOf_12 : decode cX1_smellOf 12 = .ok (.ireturn, 1) := by decide +kernel
theorem dX1_tracesIn_0 : decode cX1_tracesIn 0 = .ok (.iconst 0, 1) := by decide +kernel
theorem dX1_tracesIn_1 : decode cX1_tracesIn 1 = .ok (.istore_n 2, 1) := by decide +kernel
theorem dX1_tracesIn_2 : decode cX1_tracesIn 2 = .ok (.iconst 0, 1) := by decide +kernel
theorem dX1_tracesIn_3 : decode cX1_tracesIn 3 = .ok (.istore_n 3, 1) := by decide +kernel
theorem dX1_tracesIn_4 : decode cX1_tracesIn 4 = .ok (.iload_n 3, 1) := by decide +kernel
theorem dX1_tracesIn_5 : decode cX1_tracesIn 5 = .ok (.aload_n 0, 1) := by decide +kernel
theorem dX1_tracesIn_6 : decode cX1_tracesIn 6 = .ok (.getfield 22, 3) := by decide +kernel
theorem dX1_tracesIn_9 : decode cX1_tracesIn 9 = .ok (.if_icmp .ge 21, 3) := by decide +kernel
theorem dX1_tracesIn_12 : decode cX1_tracesIn 12 = .ok (.aload_n 0, 1) := by decide +kernel
theorem dX1_tracesIn_13 : decode cX1_tracesIn 13 = .ok (.iload_n 3, 1) := by decide +kernel
theorem dX1_tracesIn_14 : decode cX1_tracesIn 14 = .ok (.iload_n 1, 1) := by decide +kernel
theorem dX1_tracesIn_15 : decode cX1_tracesIn 15 = .ok (.invokevirtual 110, 3) := by decide +kernel
theorem dX1_tracesIn_18 : decode cX1_tracesIn 18 = .ok (.ifCond .eq 6, 3) := by decide +kernel
theorem dX1_tracesIn_21 : decode cX1_tracesIn 21 = .ok (.iinc 2 1, 3) := by decide +kernel
theorem dX1_tracesIn_24 : decode cX1_tracesIn 24 = .ok (.iinc 3 1, 3) := by decide +kernel
theorem dX1_tracesIn_27 : decode cX1_tracesIn 27 = .ok (.goto (-23), 3) := by decide +kernel
theorem dX1_tracesIn_30 : decode cX1_tracesIn 30 = .ok (.iload_n 2, 1) := by decide +kernel
theorem dX1_tracesIn_31 : decode cX1_tracesIn 31 = .ok (.ireturn, 1) := by decide +kernel
theorem dX1_allTraces_0 : decode cX1_allTraces 0 = .ok (.iconst 0, 1) := by decide +kernel
theorem dX1_allTraces_1 : decode cX1_allTraces 1 = .ok (.istore_n 1, 1) := by decide +kernel
theorem dX1_allTraces_2 : decode cX1_allTraces 2 = .ok (.iconst 0, 1) := by decide +kernel
theorem dX1_allTraces_3 : decode cX1_allTraces 3 = .ok (.istore_n 2, 1) := by decide +kernel
theorem dX1_allTraces_4 : decode cX1_allTraces 4 = .ok (.iload_n 2, 1) := by decide +kernel
theorem dX1_allTraces_5 : decode cX1_allTraces 5 = .ok (.bipush 6, 2) := by decide +kernel
theorem dX1_allTraces_7 : decode cX1_allTraces 7 = .ok (.if_icmp .ge 17, 3) := by decide +kernel
theorem dX1_allTraces_10 : decode cX1_allTraces 10 = .ok (.iload_n 1, 1) := by decide +kernel
theorem dX1_allTraces_11 : decode cX1_allTraces 11 = .ok (.aload_n 0, 1) := by decide +kernel
theorem dX1_allTraces_12 : decode cX1_allTraces 12 = .ok (.iload_n 2, 1) := by decide +kernel
theorem dX1_allTraces_13 : decode cX1_allTraces 13 = .ok (.invokevirtual 100, 3) := by decide +kernel
theorem dX1_allTraces_16 : decode cX1_allTraces 16 = .ok (.iadd, 1) := by decide +kernel
theorem dX1_allTraces_17 : decode cX1_allTraces 17 = .ok (.istore_n 1, 1) := by decide +kernel
theorem dX1_allTraces_18 : decode cX1_allTraces 18 = .ok (.iinc 2 1, 3) := by decide +kernel
theorem dX1_allTraces_21 : decode cX1_allTraces 21 = .ok (.goto (-17), 3) := by decide +kernel
theorem dX1_allTraces_24 : decode cX1_allTraces 24 = .ok (.iload_n 1, 1) := by decide +kernel
theorem dX1_allTraces_25 : decode cX1_allTraces 25 = .ok (.ireturn, 1) := by decide +kernel
theorem dX1_leastAge_0 : decode cX1_leastAge 0 = .ok (.aload_n 0, 1) := by decide +kernel
theorem dX1_leastAge_1 : decode cX1_leastAge 1 = .ok (.iload_n 1, 1) := by decide +kernel
theorem dX1_leastAge_2 : decode cX1_leastAge 2 = .ok (.iconst (-1), 1) := by decide +kernel
theorem dX1_leastAge_3 : decode cX1_leastAge 3 = .ok (.iconst 0, 1) := by decide +kernel
theorem dX1_leastAge_4 : decode cX1_leastAge 4 = .ok (.invokevirtual 78, 3) := by decide +kernel
theorem dX1_leastAge_7 : decode cX1_leastAge 7 = .ok (.ireturn, 1) := by decide +kernel
theorem dX1_greatestAge_0 : decode cX1_greatestAge 0 = .ok (.aload_n 0, 1) := by decide +kernel
theorem dX1_greatestAge_1 : decode cX1_greatestAge 1 = .ok (.iload_n 1, 1) := by decide +kernel
theorem dX1_greatestAge_2 : decode cX1_greatestAge 2 = .ok (.iconst (-1), 1) := by decide +kernel
theorem dX1_greatestAge_3 : decode cX1_greatestAge 3 = .ok (.iconst 1, 1) := by decide +kernel
theorem dX1_greatestAge_4 : decode cX1_greatestAge 4 = .ok (.invokevirtual 78, 3) := by decide +kernel
theorem dX1_greatestAge_7 : decode cX1_greatestAge 7 = .ok (.ireturn, 1) := by decide +kernel
theorem dX1_ageAmong_0 : decode cX1_ageAmong 0 = .ok (.bipush (-9), 2) := by decide +kernel
theorem dX1_ageAmong_2 : decode cX1_ageAmong 2 = .ok (.istore 4, 2) := by decide +kernel
theorem dX1_ageAmong_4 : decode cX1_ageAmong 4 = .ok (.iconst 0, 1) := by decide +kernel
theorem dX1_ageAmong_5 : decode cX1_ageAmong 5 = .ok (.istore 5, 2) := by decide +kernel
theorem dX1_ageAmong_7 : decode cX1_ageAmong 7 = .ok (.iload 5, 2) := by decide +kernel
theorem dX1_ageAmong_9 : decode cX1_ageAmong 9 = .ok (.aload_n 0, 1) := by decide +kernel
theorem dX1_ageAmong_10 : decode cX1_ageAmong 10 = .ok (.getfield 22, 3) := by decide +kernel
theorem dX1_ageAmong_13 : decode cX1_ageAmong 13 = .ok (.if_icmp .ge 40, 3) := by decide +kernel
theorem dX1_ageAmong_16 : decode cX1_ageAmong 16 = .ok (.iload 5, 2) := by decide +kernel
theorem dX1_ageAmong_18 : decode cX1_ageAmong 18 = .ok (.iload_n 2, 1) := by decide +kernel
theorem dX1_ageAmong_19 : decode cX1_ageAmong 19 = .ok (.if_icmp .eq 28, 3) := by decide +kernel
theorem dX1_ageAmong_22 : decode cX1_ageAmong 22 = .ok (.aload_n 0, 1) := by decide +kernel
theorem dX1_ageAmong_23 : decode cX1_ageAmong 23 = .ok (.iload 5, 2) := by decide +kernel
theorem dX1_ageAmong_25 : decode cX1_ageAmong 25 = .ok (.iload_n 1, 1) := by decide +kernel
theorem dX1_ageAmong_26 : decode cX1_ageAmong 26 = .ok (.iconst 0, 1) := by decide +kernel
theorem dX1_ageAmong_27 : decode cX1_ageAmong 27 = .ok (.invokevirtual 106, 3) := by decide +kernel
theorem dX1_ageAmong_30 : decode cX1_ageAmong 30 = .ok (.istore 6, 2) := by decide +kernel
theorem dX1_ageAmong_32 : decode cX1_ageAmong 32 = .ok (.iload 6, 2) := by decide +kernel
theorem dX1_ageAmong_34 : decode cX1_ageAmong 34 = .ok (.iload 4, 2) := by decide +kernel
theorem dX1_ageAmong_36 : decode cX1_ageAmong 36 = .ok (.iload_n 3, 1) := by decide +kernel
theorem dX1_ageAmong_37 : decode cX1_ageAmong 37 = .ok (.invokestatic 82, 3) := by decide +kernel
theorem dX1_ageAmong_40 : decode cX1_ageAmong 40 = .ok (.ifCond .eq 7, 3) := by decide +kernel
theorem dX1_ageAmong_43 : decode cX1_ageAmong 43 = .ok (.iload 6, 2) := by decide +kernel
theorem dX1_ageAmong_45 : decode cX1_ageAmong 45 = .ok (.istore 4, 2) := by decide +kernel
theorem dX1_ageAmong_47 : decode cX1_ageAmong 47 = .ok (.iinc 5 1, 3) := by decide +kernel
theorem dX1_ageAmong_50 : decode cX1_ageAmong 50 = .ok (.goto (-43), 3) := by decide +kernel
theorem dX1_ageAmong_53 : decode cX1_ageAmong 53 = .ok (.iload 4, 2) := by decide +kernel
theorem dX1_ageAmong_55 : decode cX1_ageAmong 55 = .ok (.ireturn, 1) := by decide +kernel
theorem dX1_isBeyond_0 : decode cX1_isBeyond 0 = .ok (.iload_n 0, 1) := by decide +kernel
theorem dX1_isBeyond_1 : decode cX1_isBeyond 1 = .ok (.bipush (-9), 2) := by decide +kernel
theorem dX1_isBeyond_3 : decode cX1_isBeyond 3 = .ok (.if_icmp .eq 9, 3) := by decide +kernel
theorem dX1_isBeyond_6 : decode cX1_isBeyond 6 = .ok (.iload_n 1, 1) := by decide +kernel
theorem dX1_isBeyond_7 : decode cX1_isBeyond 7 = .ok (.bipush (-9), 2) := by decide +kernel
theorem dX1_isBeyond_9 : decode cX1_isBeyond 9 = .ok (.if_icmp .ne 15, 3) := by decide +kernel
theorem dX1_isBeyond_12 : decode cX1_isBeyond 12 = .ok (.iload_n 0, 1) := by decide +kernel
theorem dX1_isBeyond_13 : decode cX1_isBeyond 13 = .ok (.bipush (-9), 2) := by decide +kernel
theorem dX1_isBeyond_15 : decode cX1_isBeyond 15 = .ok (.if_icmp .eq 7, 3) := by decide +kernel
theorem dX1_isBeyond_18 : decode cX1_isBeyond 18 = .ok (.iconst 1, 1) := by decide +kernel
theorem dX1_isBeyond_19 : decode cX1_isBeyond 19 = .ok (.goto 4, 3) := by decide +kernel
theorem dX1_isBeyond_22 : decode cX1_isBeyond 22 = .ok (.iconst 0, 1) := by decide +kernel
theorem dX1_isBeyond_23 : decode cX1_isBeyond 23 = .ok (.ireturn, 1) := by decide +kernel
theorem dX1_isBeyond_24 : decode cX1_isBeyond 24 = .ok (.iload_n 2, 1) := by decide +kernel
theorem dX1_isBeyond_25 : decode cX1_isBeyond 25 = .ok (.ifCond .eq 16, 3) := by decide +kernel
theorem dX1_isBeyond_28 : decode cX1_isBeyond 28 = .ok (.iload_n 0, 1) := by decide +kernel
theorem dX1_isBeyond_29 : decode cX1_isBeyond 29 = .ok (.iload_n 1, 1) := by decide +kernel
theorem dX1_isBeyond_30 : decode cX1_isBeyond 30 = .ok (.if_icmp .le 7, 3) := by decide +kernel
theorem dX1_isBeyond_33 : decode cX1_isBeyond 33 = .ok (.iconst 1, 1) := by decide +kernel
theorem dX1_isBeyond_34 : decode cX1_isBeyond 34 = .ok (.goto 17, 3) := by decide +kernel
theorem dX1_isBeyond_37 : decode cX1_isBeyond 37 = .ok (.iconst 0, 1) := by decide +kernel
theorem dX1_isBeyond_38 : decode cX1_isBeyond 38 = .ok (.goto 13, 3) := by decide +kernel
theorem dX1_isBeyond_41 : decode cX1_isBeyond 41 = .ok (.iload_n 0, 1) := by decide +kernel
theorem dX1_isBeyond_42 : decode cX1_isBeyond 42 = .ok (.iload_n 1, 1) := by decide +kernel
theorem dX1_isBeyond_43 : decode cX1_isBeyond 43 = .ok (.if_icmp .ge 7, 3) := by decide +kernel
theorem dX1_isBeyond_46 : decode cX1_isBeyond 46 = .ok (.iconst 1, 1) := by decide +kernel
theorem dX1_isBeyond_47 : decode cX1_isBeyond 47 = .ok (.goto 4, 3) := by decide +kernel
theorem dX1_isBeyond_50 : decode cX1_isBeyond 50 = .ok (.iconst 0, 1) := by decide +kernel
theorem dX1_isBeyond_51 : decode cX1_isBeyond 51 = .ok (.ireturn, 1) := by decide +kernel
theorem dX1_toldApartIn_0 : decode cX1_toldApartIn 0 = .ok (.iconst 0, 1) := by decide +kernel
theorem dX1_toldApartIn_1 : decode cX1_toldApartIn 1 = .ok (.istore_n 2, 1) := by decide +kernel
theorem dX1_toldApartIn_2 : decode cX1_toldApartIn 2 = .ok (.iconst 0, 1) := by decide +kernel
theorem dX1_toldApartIn_3 : decode cX1_toldApartIn 3 = .ok (.istore_n 3, 1) := by decide +kernel
theorem dX1_toldApartIn_4 : decode cX1_toldApartIn 4 = .ok (.iload_n 3, 1) := by decide +kernel
theorem dX1_toldApartIn_5 : decode cX1_toldApartIn 5 = .ok (.aload_n 0, 1) := by decide +kernel
theorem dX1_toldApartIn_6 : decode cX1_toldApartIn 6 = .ok (.getfield 22, 3) := by decide +kernel
theorem dX1_toldApartIn_9 : decode cX1_toldApartIn 9 = .ok (.if_icmp .ge 30, 3) := by decide +kernel
theorem dX1_toldApartIn_12 : decode cX1_toldApartIn 12 = .ok (.aload_n 0, 1) := by decide +kernel
theorem dX1_toldApartIn_13 : decode cX1_toldApartIn 13 = .ok (.iload_n 3, 1) := by decide +kernel
theorem dX1_toldApartIn_14 : decode cX1_toldApartIn 14 = .ok (.iload_n 1, 1) := by decide +kernel
theorem dX1_toldApartIn_15 : decode cX1_toldApartIn 15 = .ok (.invokevirtual 110, 3) := by decide +kernel
theorem dX1_toldApartIn_18 : decode cX1_toldApartIn 18 = .ok (.ifCond .eq 15, 3) := by decide +kernel
theorem dX1_toldApartIn_21 : decode cX1_toldApartIn 21 = .ok (.aload_n 0, 1) := by decide +kernel
theorem dX1_toldApartIn_22 : decode cX1_toldApartIn 22 = .ok (.iload_n 3, 1) := by decide +kernel
theorem dX1_toldApartIn_23 : decode cX1_toldApartIn 23 = .ok (.iload_n 1, 1) := by decide +kernel
theorem dX1_toldApartIn_24 : decode cX1_toldApartIn 24 = .ok (.invokevirtual 113, 3) := by decide +kernel
theorem dX1_toldApartIn_27 : decode cX1_toldApartIn 27 = .ok (.ifCond .ne 6, 3) := by decide +kernel
theorem dX1_toldApartIn_30 : decode cX1_toldApartIn 30 = .ok (.iinc 2 1, 3) := by decide +kernel
theorem dX1_toldApartIn_33 : decode cX1_toldApartIn 33 = .ok (.iinc 3 1, 3) := by decide +kernel
theorem dX1_toldApartIn_36 : decode cX1_toldApartIn 36 = .ok (.goto (-32), 3) := by decide +kernel
theorem dX1_toldApartIn_39 : decode cX1_toldApartIn 39 = .ok (.iload_n 2, 1) := by decide +kernel
theorem dX1_toldApartIn_40 : decode cX1_toldApartIn 40 = .ok (.ireturn, 1) := by decide +kernel
theorem dX1_smellsAsOneBefore_0 : decode cX1_smellsAsOneBefore 0 = .ok (.aload_n 0, 1) := by decide +kernel
theorem dX1_smellsAsOneBefore_1 : decode cX1_smellsAsOneBefore 1 = .ok (.iload_n 1, 1) := by decide +kernel
theorem dX1_smellsAsOneBefore_2 : decode cX1_smellsAsOneBefore 2 = .ok (.iload_n 2, 1) := by decide +kernel
theorem dX1_smellsAsOneBefore_3 : decode cX1_smellsAsOneBefore 3 = .ok (.iconst 0, 1) := by decide +kernel
theorem dX1_smellsAsOneBefore_4 : decode cX1_smellsAsOneBefore 4 = .ok (.invokevirtual 116, 3) := by decide +kernel
theorem dX1_smellsAsOneBefore_7 : decode cX1_smellsAsOneBefore 7 = .ok (.istore_n 3, 1) := by decide +kernel
theorem dX1_smellsAsOneBefore_8 : decode cX1_smellsAsOneBefore 8 = .ok (.iconst 0, 1) := by decide +kernel
theorem dX1_smellsAsOneBefore_9 : decode cX1_smellsAsOneBefore 9 = .ok (.istore 4, 2) := by decide +kernel
theorem dX1_smellsAsOneBefore_11 : decode cX1_smellsAsOneBefore 11 = .ok (.iload 4, 2) := by decide +kernel
theorem dX1_smellsAsOneBefore_13 : decode cX1_smellsAsOneBefore 13 = .ok (.iload_n 1, 1) := by decide +kernel
theorem dX1_smellsAsOneBefore_14 : decode cX1_smellsAsOneBefore 14 = .ok (.if_icmp .ge 33, 3) := by decide +kernel
theorem dX1_smellsAsOneBefore_17 : decode cX1_smellsAsOneBefore 17 = .ok (.aload_n 0, 1) := by decide +kernel
theorem dX1_smellsAsOneBefore_18 : decode cX1_smellsAsOneBefore 18 = .ok (.iload 4, 2) := by decide +kernel
theorem dX1_smellsAsOneBefore_20 : decode cX1_smellsAsOneBefore 20 = .ok (.iload_n 2, 1) := by decide +kernel
theorem dX1_smellsAsOneBefore_21 : decode cX1_smellsAsOneBefore 21 = .ok (.invokevirtual 110, 3) := by decide +kernel
theorem dX1_smellsAsOneBefore_24 : decode cX1_smellsAsOneBefore 24 = .ok (.ifCond .eq 17, 3) := by decide +kernel
theorem dX1_smellsAsOneBefore_27 : decode cX1_smellsAsOneBefore 27 = .ok (.aload_n 0, 1) := by decide +kernel
theorem dX1_smellsAsOneBefore_28 : decode cX1_smellsAsOneBefore 28 = .ok (.iload 4, 2) := by decide +kernel
theorem dX1_smellsAsOneBefore_30 : decode cX1_smellsAsOneBefore 30 = .ok (.iload_n 2, 1) := by decide +kernel
theorem dX1_smellsAsOneBefore_31 : decode cX1_smellsAsOneBefore 31 = .ok (.iconst 0, 1) := by decide +kernel
theorem dX1_smellsAsOneBefore_32 : decode cX1_smellsAsOneBefore 32 = .ok (.invokevirtual 116, 3) := by decide +kernel
theorem dX1_smellsAsOneBefore_35 : decode cX1_smellsAsOneBefore 35 = .ok (.iload_n 3, 1) := by decide +kernel
theorem dX1_smellsAsOneBefore_36 : decode cX1_smellsAsOneBefore 36 = .ok (.if_icmp .ne 5, 3) := by decide +kernel
theorem dX1_smellsAsOneBefore_39 : decode cX1_smellsAsOneBefore 39 = .ok (.iconst 1, 1) := by decide +kernel
theorem dX1_smellsAsOneBefore_40 : decode cX1_smellsAsOneBefore 40 = .ok (.ireturn, 1) := by decide +kernel
theorem dX1_smellsAsOneBefore_41 : decode cX1_smellsAsOneBefore 41 = .ok (.iinc 4 1, 3) := by decide +kernel
theorem dX1_smellsAsOneBefore_44 : decode cX1_smellsAsOneBefore 44 = .ok (.goto (-33), 3) := by decide +kernel
theorem dX1_smellsAsOneBefore_47 : decode cX1_smellsAsOneBefore 47 = .ok (.iconst 0, 1) := by decide +kernel
theorem dX1_smellsAsOneBefore_48 : decode cX1_smellsAsOneBefore 48 = .ok (.ireturn, 1) := by decide +kernel
theorem dX1_isFreshestApart_0 : decode cX1_isFreshestApart 0 = .ok (.iconst 0, 1) := by decide +kernel
theorem dX1_isFreshestApart_1 : decode cX1_isFreshestApart 1 = .ok (.istore_n 3, 1) := by decide +kernel
theorem dX1_isFreshestApart_2 : decode cX1_isFreshestApart 2 = .ok (.iconst 0, 1) := by decide +kernel
theorem dX1_isFreshestApart_3 : decode cX1_isFreshestApart 3 = .ok (.istore 4, 2) := by decide +kernel
theorem dX1_isFreshestApart_5 : decode cX1_isFreshestApart 5 = .ok (.iconst 0, 1) := by decide +kernel
theorem dX1_isFreshestApart_6 : decode cX1_isFreshestApart 6 = .ok (.istore 5, 2) := by decide +kernel
theorem dX1_isFreshestApart_8 : decode cX1_isFreshestApart 8 = .ok (.iload 5, 2) := by decide +kernel
theorem dX1_isFreshestApart_10 : decode cX1_isFreshestApart 10 = .ok (.aload_n 0, 1) := by decide +kernel
theorem dX1_isFreshestApart_11 : decode cX1_isFreshestApart 11 = .ok (.getfield 22, 3) := by decide +kernel
theorem dX1_isFreshestApart_14 : decode cX1_isFreshestApart 14 = .ok (.if_icmp .ge 58, 3) := by decide +kernel
theorem dX1_isFreshestApart_17 : decode cX1_isFreshestApart 17 = .ok (.aload_n 0, 1) := by decide +kernel
theorem dX1_isFreshestApart_18 : decode cX1_isFreshestApart 18 = .ok (.iload 5, 2) := by decide +kernel
theorem dX1_isFreshestApart_20 : decode cX1_isFreshestApart 20 = .ok (.iload_n 1, 1) := by decide +kernel
theorem dX1_isFreshestApart_21 : decode cX1_isFreshestApart 21 = .ok (.invokevirtual 110, 3) := by decide +kernel
theorem dX1_isFreshestApart_24 : decode cX1_isFreshestApart 24 = .ok (.ifCond .eq 42, 3) := by decide +kernel
theorem dX1_isFreshestApart_27 : decode cX1_isFreshestApart 27 = .ok (.aload_n 0, 1) := by decide +kernel
theorem dX1_isFreshestApart_28 : decode cX1_isFreshestApart 28 = .ok (.iload 5, 2) := by decide +kernel
theorem dX1_isFreshestApart_30 : decode cX1_isFreshestApart 30 = .ok (.iload_n 1, 1) := by decide +kernel
theorem dX1_isFreshestApart_31 : decode cX1_isFreshestApart 31 = .ok (.iload_n 2, 1) := by decide +kernel
theorem dX1_isFreshestApart_32 : decode cX1_isFreshestApart 32 = .ok (.invokevirtual 116, 3) := by decide +kernel
theorem dX1_isFreshestApart_35 : decode cX1_isFreshestApart 35 = .ok (.istore 6, 2) := by decide +kernel
theorem dX1_isFreshestApart_37 : decode cX1_isFreshestApart 37 = .ok (.iload 4, 2) := by decide +kernel
theorem dX1_isFreshestApart_39 : decode cX1_isFreshestApart 39 = .ok (.ifCond .eq 9, 3) := by decide +kernel
theorem dX1_isFreshestApart_42 : decode cX1_isFreshestApart 42 = .ok (.iload 6, 2) := by decide +kernel
theorem dX1_isFreshestApart_44 : decode cX1_isFreshestApart 44 = .ok (.iload_n 3, 1) := by decide +kernel
theorem dX1_isFreshestApart_45 : decode cX1_isFreshestApart 45 = .ok (.if_icmp .ge 12, 3) := by decide +kernel
theorem dX1_isFreshestApart_48 : decode cX1_isFreshestApart 48 = .ok (.iload 6, 2) := by decide +kernel
theorem dX1_isFreshestApart_50 : decode cX1_isFreshestApart 50 = .ok (.istore_n 3, 1) := by decide +kernel
theorem dX1_isFreshestApart_51 : decode cX1_isFreshestApart 51 = .ok (.iconst 1, 1) := by decide +kernel
theorem dX1_isFreshestApart_52 : decode cX1_isFreshestApart 52 = .ok (.istore 4, 2) := by decide +kernel
theorem dX1_isFreshestApart_54 : decode cX1_isFreshestApart 54 = .ok (.goto 12, 3) := by decide +kernel
theorem dX1_isFreshestApart_57 : decode cX1_isFreshestApart 57 = .ok (.iload 6, 2) := by decide +kernel
theorem dX1_isFreshestApart_59 : decode cX1_isFreshestApart 59 = .ok (.iload_n 3, 1) := by decide +kernel
theorem dX1_isFreshestApart_60 : decode cX1_isFreshestApart 60 = .ok (.if_icmp .ne 6, 3) := by decide +kernel
theorem dX1_isFreshestApart_63 : decode cX1_isFreshestApart 63 = .ok (.iinc 4 1, 3) := by decide +kernel
theorem dX1_isFreshestApart_66 : decode cX1_isFreshestApart 66 = .ok (.iinc 5 1, 3) := by decide +kernel
theorem dX1_isFreshestApart_69 : decode cX1_isFreshestApart 69 = .ok (.goto (-61), 3) := by decide +kernel
theorem dX1_isFreshestApart_72 : decode cX1_isFreshestApart 72 = .ok (.iload 4, 2) := by decide +kernel
theorem dX1_isFreshestApart_74 : decode cX1_isFreshestApart 74 = .ok (.iconst 2, 1) := by decide +kernel
theorem dX1_isFreshestApart_75 : decode cX1_isFreshestApart 75 = .ok (.if_icmp .ge 7, 3) := by decide +kernel
theorem dX1_isFreshestApart_78 : decode cX1_isFreshestApart 78 = .ok (.iconst 1, 1) := by decide +kernel
theorem dX1_isFreshestApart_79 : decode cX1_isFreshestApart 79 = .ok (.goto 4, 3) := by decide +kernel
theorem dX1_isFreshestApart_82 : decode cX1_isFreshestApart 82 = .ok (.iconst 0, 1) := by decide +kernel
theorem dX1_isFreshestApart_83 : decode cX1_isFreshestApart 83 = .ok (.ireturn, 1) := by decide +kernel
theorem dX1_walkersAmongOthersTraces_0 : decode cX1_walkersAmongOthersTraces 0 = .ok (.iconst 0, 1) := by decide +kernel
theorem dX1_walkersAmongOthersTraces_1 : decode cX1_walkersAmongOthersTraces 1 = .ok (.istore_n 1, 1) := by decide +kernel
theorem dX1_walkersAmongOthersTraces_2 : decode cX1_walkersAmongOthersTraces 2 = .ok (.iconst 0, 1) := by decide +kernel
theorem dX1_walkersAmongOthersTraces_3 : decode cX1_walkersAmongOthersTraces 3 = .ok (.istore_n 2, 1) := by decide +kernel
theorem dX1_walkersAmongOthersTraces_4 : decode cX1_walkersAmongOthersTraces 4 = .ok (.iload_n 2, 1) := by decide +kernel
theorem dX1_walkersAmongOthersTraces_5 : decode cX1_walkersAmongOthersTraces 5 = .ok (.aload_n 0, 1) := by decide +kernel
theorem dX1_walkersAmongOthersTraces_6 : decode cX1_walkersAmongOthersTraces 6 = .ok (.getfield 22, 3) := by decide +kernel
theorem dX1_walkersAmongOthersTraces_9 : decode cX1_walkersAmongOthersTraces 9 = .ok (.if_icmp .ge 32, 3) := by decide +kernel
theorem dX1_walkersAmongOthersTraces_12 : decode cX1_walkersAmongOthersTraces 12 = .ok (.aload_n 0, 1) := by decide +kernel
theorem dX1_walkersAmongOthersTraces_13 : decode cX1_walkersAmongOthersTraces 13 = .ok (.aload_n 0, 1) := by decide +kernel
theorem dX1_walkersAmongOthersTraces_14 : decode cX1_walkersAmongOthersTraces 14 = .ok (.getfield 28, 3) := by decide +kernel
theorem dX1_walkersAmongOthersTraces_17 : decode cX1_walkersAmongOthersTraces 17 = .ok (.iload_n 2, 1) := by decide +kernel
theorem dX1_walkersAmongOthersTraces_18 : decode cX1_walkersAmongOthersTraces 18 = .ok (.iaload, 1) := by decide +kernel
theorem dX1_walkersAmongOthersTraces_19 : decode cX1_walkersAmongOthersTraces 19 = .ok (.iload_n 2, 1) := by decide +kernel
theorem dX1_walkersAmongOthersTraces_20 : decode cX1_walkersAmongOthersTraces 20 = .ok (.iconst 0, 1) := by decide +kernel
theorem dX1_walkersAmongOthersTraces_21 : decode cX1_walkersAmongOthersTraces 21 = .ok (.invokevirtual 78, 3) := by decide +kernel
theorem dX1_walkersAmongOthersTraces_24 : decode cX1_walkersAmongOthersTraces 24 = .ok (.bipush (-9), 2) := by decide +kernel
theorem dX1_walkersAmongOthersTraces_26 : decode cX1_walkersAmongOthersTraces 26 = .ok (.if_icmp .eq 9, 3) := by decide +kernel
theorem dX1_walkersAmongOthersTraces_29 : decode cX1_walkersAmongOthersTraces 29 = .ok (.iload_n 1, 1) := by decide +kernel
theorem dX1_walkersAmongOthersTraces_30 : decode cX1_walkersAmongOthersTraces 30 = .ok (.iconst 1, 1) := by decide +kernel
theorem dX1_walkersAmongOthersTraces_31 : decode cX1_walkersAmongOthersTraces 31 = .ok (.iload_n 2, 1) := by decide +kernel
theorem dX1_walkersAmongOthersTraces_32 : decode cX1_walkersAmongOthersTraces 32 = .ok (.ishl, 1) := by decide +kernel
theorem dX1_walkersAmongOthersTraces_33 : decode cX1_walkersAmongOthersTraces 33 = .ok (.ior, 1) := by decide +kernel
theorem dX1_walkersAmongOthersTraces_34 : decode cX1_walkersAmongOthersTraces 34 = .ok (.istore_n 1, 1) := by decide +kernel
theorem dX1_walkersAmongOthersTraces_35 : decode cX1_walkersAmongOthersTraces 35 = .ok (.iinc 2 1, 3) := by decide +kernel
theorem dX1_walkersAmongOthersTraces_38 : decode cX1_walkersAmongOthersTraces 38 = .ok (.goto (-34), 3) := by decide +kernel
theorem dX1_walkersAmongOthersTraces_41 : decode cX1_walkersAmongOthersTraces 41 = .ok (.iload_n 1, 1) := by decide +kernel
theorem dX1_walkersAmongOthersTraces_42 : decode cX1_walkersAmongOthersTraces 42 = .ok (.ireturn, 1) := by decide +kernel
theorem dX1_emptyRooms_0 : decode cX1_emptyRooms 0 = .ok (.bipush 63, 2) := by decide +kernel
theorem dX1_emptyRooms_2 : decode cX1_emptyRooms 2 = .ok (.istore_n 1, 1) := by decide +kernel
theorem dX1_emptyRooms_3 : decode cX1_emptyRooms 3 = .ok (.iconst 0, 1) := by decide +kernel
theorem dX1_emptyRooms_4 : decode cX1_emptyRooms 4 = .ok (.istore_n 2, 1) := by decide +kernel
theorem dX1_emptyRooms_5 : decode cX1_emptyRooms 5 = .ok (.iload_n 2, 1) := by decide +kernel
theorem dX1_emptyRooms_6 : decode cX1_emptyRooms 6 = .ok (.aload_n 0, 1) := by decide +kernel
theorem dX1_emptyRooms_7 : decode cX1_emptyRooms 7 = .ok (.getfield 22, 3) := by decide +kernel
theorem dX1_emptyRooms_10 : decode cX1_emptyRooms 10 = .ok (.if_icmp .ge 22, 3) := by decide +kernel
theorem dX1_emptyRooms_13 : decode cX1_emptyRooms 13 = .ok (.iload_n 1, 1) := by decide +kernel
theorem dX1_emptyRooms_14 : decode cX1_emptyRooms 14 = .ok (.iconst 1, 1) := by decide +kernel
theorem dX1_emptyRooms_15 : decode cX1_emptyRooms 15 = .ok (.aload_n 0, 1) := by decide +kernel
theorem dX1_emptyRooms_16 : decode cX1_emptyRooms 16 = .ok (.getfield 28, 3) := by decide +kernel
theorem dX1_emptyRooms_19 : decode cX1_emptyRooms 19 = .ok (.iload_n 2, 1) := by decide +kernel
theorem dX1_emptyRooms_20 : decode cX1_emptyRooms 20 = .ok (.iaload, 1) := by decide +kernel
theorem dX1_emptyRooms_21 : decode cX1_emptyRooms 21 = .ok (.ishl, 1) := by decide +kernel
theorem dX1_emptyRooms_22 : decode cX1_emptyRooms 22 = .ok (.iconst (-1), 1) := by decide +kernel
theorem dX1_emptyRooms_23 : decode cX1_emptyRooms 23 = .ok (.ixor, 1) := by decide +kernel
theorem dX1_emptyRooms_24 : decode cX1_emptyRooms 24 = .ok (.iand, 1) := by decide +kernel
theorem dX1_emptyRooms_25 : decode cX1_emptyRooms 25 = .ok (.istore_n 1, 1) := by decide +kernel
theorem dX1_emptyRooms_26 : decode cX1_emptyRooms 26 = .ok (.iinc 2 1, 3) := by decide +kernel
theorem dX1_emptyRooms_29 : decode cX1_emptyRooms 29 = .ok (.goto (-24), 3) := by decide +kernel
theorem dX1_emptyRooms_32 : decode cX1_emptyRooms 32 = .ok (.iload_n 1, 1) := by decide +kernel
theorem dX1_emptyRooms_33 : decode cX1_emptyRooms 33 = .ok (.ireturn, 1) := by decide +kernel
theorem dX1_roomsWithTraceUpTo_0 : decode cX1_roomsWithTraceUpTo 0 = .ok (.iconst 0, 1) := by decide +kernel
theorem dX1_roomsWithTraceUpTo_1 : decode cX1_roomsWithTraceUpTo 1 = .ok (.istore_n 2, 1) := by decide +kernel
theorem dX1_roomsWithTraceUpTo_2 : decode cX1_roomsWithTraceUpTo 2 = .ok (.iconst 0, 1) := by decide +kernel
theorem dX1_roomsWithTraceUpTo_3 : decode cX1_roomsWithTraceUpTo 3 = .ok (.istore_n 3, 1) := by decide +kernel
theorem dX1_roomsWithTraceUpTo_4 : decode cX1_roomsWithTraceUpTo 4 = .ok (.iload_n 3, 1) := by decide +kernel
theorem dX1_roomsWithTraceUpTo_5 : decode cX1_roomsWithTraceUpTo 5 = .ok (.bipush 6, 2) := by decide +kernel
theorem dX1_roomsWithTraceUpTo_7 : decode cX1_roomsWithTraceUpTo 7 = .ok (.if_icmp .ge 35, 3) := by decide +kernel
theorem dX1_roomsWithTraceUpTo_10 : decode cX1_roomsWithTraceUpTo 10 = .ok (.aload_n 0, 1) := by decide +kernel
theorem dX1_roomsWithTraceUpTo_11 : decode cX1_roomsWithTraceUpTo 11 = .ok (.iload_n 3, 1) := by decide +kernel
theorem dX1_roomsWithTraceUpTo_12 : decode cX1_roomsWithTraceUpTo 12 = .ok (.invokevirtual 119, 3) := by decide +kernel
theorem dX1_roomsWithTraceUpTo_15 : decode cX1_roomsWithTraceUpTo 15 = .ok (.istore 4, 2) := by decide +kernel
theorem dX1_roomsWithTraceUpTo_17 : decode cX1_roomsWithTraceUpTo 17 = .ok (.iload 4, 2) := by decide +kernel
theorem dX1_roomsWithTraceUpTo_19 : decode cX1_roomsWithTraceUpTo 19 = .ok (.bipush (-9), 2) := by decide +kernel
theorem dX1_roomsWithTraceUpTo_21 : decode cX1_roomsWithTraceUpTo 21 = .ok (.if_icmp .eq 15, 3) := by decide +kernel
theorem dX1_roomsWithTraceUpTo_24 : decode cX1_roomsWithTraceUpTo 24 = .ok (.iload 4, 2) := by decide +kernel
theorem dX1_roomsWithTraceUpTo_26 : decode cX1_roomsWithTraceUpTo 26 = .ok (.iload_n 1, 1) := by decide +kernel
theorem dX1_roomsWithTraceUpTo_27 : decode cX1_roomsWithTraceUpTo 27 = .ok (.if_icmp .gt 9, 3) := by decide +kernel
theorem dX1_roomsWithTraceUpTo_30 : decode cX1_roomsWithTraceUpTo 30 = .ok (.iload_n 2, 1) := by decide +kernel
theorem dX1_roomsWithTraceUpTo_31 : decode cX1_roomsWithTraceUpTo 31 = .ok (.iconst 1, 1) := by decide +kernel
theorem dX1_roomsWithTraceUpTo_32 : decode cX1_roomsWithTraceUpTo 32 = .ok (.iload_n 3, 1) := by decide +kernel
theorem dX1_roomsWithTraceUpTo_33 : decode cX1_roomsWithTraceUpTo 33 = .ok (.ishl, 1) := by decide +kernel
theorem dX1_roomsWithTraceUpTo_34 : decode cX1_roomsWithTraceUpTo 34 = .ok (.ior, 1) := by decide +kernel
theorem dX1_roomsWithTraceUpTo_35 : decode cX1_roomsWithTraceUpTo 35 = .ok (.istore_n 2, 1) := by decide +kernel
theorem dX1_roomsWithTraceUpTo_36 : decode cX1_roomsWithTraceUpTo 36 = .ok (.iinc 3 1, 3) := by decide +kernel
theorem dX1_roomsWithTraceUpTo_39 : decode cX1_roomsWithTraceUpTo 39 = .ok (.goto (-35), 3) := by decide +kernel
theorem dX1_roomsWithTraceUpTo_42 : decode cX1_roomsWithTraceUpTo 42 = .ok (.iload_n 2, 1) := by decide +kernel
theorem dX1_roomsWithTraceUpTo_43 : decode cX1_roomsWithTraceUpTo 43 = .ok (.ireturn, 1) := by decide +kernel
theorem dX2_init_0 : decode cX2_init 0 = .ok (.aload_n 0, 1) := by decide +kernel
theorem dX2_init_1 : decode cX2_init 1 = .ok (.invokespecial 3, 3) := by decide +kernel
theorem dX2_init_4 : decode cX2_init 4 = .ok (.aload_n 0, 1) := by decide +kernel
theorem dX2_init_5 : decode cX2_init 5 = .ok (.bipush 9, 2) := by decide +kernel
theorem dX2_init_7 : decode cX2_init 7 = .ok (.newarray .int, 2) := by decide +kernel
theorem dX2_init_9 : decode cX2_init 9 = .ok (.putfield 11, 3) := by decide +kernel
theorem dX2_init_12 : decode cX2_init 12 = .ok (.aload_n 0, 1) := by decide +kernel
theorem dX2_init_13 : decode cX2_init 13 = .ok (.bipush 9, 2) := by decide +kernel
theorem dX2_init_15 : decode cX2_init 15 = .ok (.bipush 6, 2) := by decide +kernel
theorem dX2_init_17 : decode cX2_init 17 = .ok (.multianewarray 15 2, 4) := by decide +kernel
theorem dX2_init_21 : decode cX2_init 21 = .ok (.putfield 17, 3) := by decide +kernel
theorem dX2_init_24 : decode cX2_init 24 = .ok (.aload_n 0, 1) := by decide +kernel
theorem dX2_init_25 : decode cX2_init 25 = .ok (.bipush 9, 2) := by decide +kernel
theorem dX2_init_27 : decode cX2_init 27 = .ok (.bipush 6, 2) := by decide +kernel
theorem dX2_init_29 : decode cX2_init 29 = .ok (.multianewarray 15 2, 4) := by decide +kernel
theorem dX2_init_33 : decode cX2_init 33 = .ok (.putfield 20, 3) := by decide +kernel
theorem dX2_init_36 : decode cX2_init 36 = .ok (.aload_n 0, 1) := by decide +kernel
theorem dX2_init_37 : decode cX2_init 37 = .ok (.iconst 0, 1) := by decide +kernel
theorem dX2_init_38 : decode cX2_init 38 = .ok (.putfield 23, 3) := by decide +kernel
theorem dX2_init_41 : decode cX2_init 41 = .ok (.return_, 1) := by decide +kernel
theorem dX2_find_0 : decode cX2_find 0 = .ok (.aload_n 0, 1) := by decide +kernel
theorem dX2_find_1 : decode cX2_find 1 = .ok (.iload_n 2, 1) := by decide +kernel
theorem dX2_find_2 : decode cX2_find 2 = .ok (.putfield 23, 3) := by decide +kernel
theorem dX2_find_5 : decode cX2_find 5 = .ok (.iconst 0, 1) := by decide +kernel
theorem dX2_find_6 : decode cX2_find 6 = .ok (.istore 4, 2) := by decide +kernel
theorem dX2_find_8 : decode cX2_find 8 = .ok (.iload 4, 2) := by decide +kernel
theorem dX2_find_10 : decode cX2_find 10 = .ok (.iload_n 2, 1) := by decide +kernel
theorem dX2_find_11 : decode cX2_find 11 = .ok (.if_icmp .gt 25, 3) := by decide +kernel
theorem dX2_find_14 : decode cX2_find 14 = .ok (.aload_n 0, 1) := by decide +kernel
theorem dX2_find_15 : decode cX2_find 15 = .ok (.getfield 11, 3) := by decide +kernel
theorem dX2_find_18 : decode cX2_find 18 = .ok (.iload 4, 2) := by decide +kernel
theorem dX2_find_20 : decode cX2_find 20 = .ok (.aload_n 0, 1) := by decide +kernel
theorem dX2_find_21 : decode cX2_find 21 = .ok (.aload_n 1, 1) := by decide +kernel
theorem dX2_find_22 : decode cX2_find 22 = .ok (.iload_n 2, 1) := by decide +kernel
theorem dX2_find_23 : decode cX2_find 23 = .ok (.iload 4, 2) := by decide +kernel
theorem dX2_find_25 : decode cX2_find 25 = .ok (.isub, 1) := by decide +kernel
theorem dX2_find_26 : decode cX2_find 26 = .ok (.invokevirtual 27, 3) := by decide +kernel
theorem dX2_find_29 : decode cX2_find 29 = .ok (.iastore, 1) := by decide +kernel
theorem dX2_find_30 : decode cX2_find 30 = .ok (.iinc 4 1, 3) := by decide +kernel
theorem dX2_find_33 : decode cX2_find 33 = .ok (.goto (-25), 3) := by decide +kernel
theorem dX2_find_36 : decode cX2_find 36 = .ok (.iconst 0, 1) := by decide +kernel
theorem dX2_find_37 : decode cX2_find 37 = .ok (.istore 4, 2) := by decide +kernel
theorem dX2_find_39 : decode cX2_find 39 = .ok (.iload 4, 2) := by decide +kernel
theorem dX2_find_41 : decode cX2_find 41 = .ok (.iload_n 2, 1) := by decide +kernel
theorem dX2_find_42 : decode cX2_find 42 = .ok (.if_icmp .gt 74, 3) := by decide +kernel
theorem dX2_find_45 : decode cX2_find 45 = .ok (.iconst 0, 1) := by decide +kernel
theorem dX2_find_46 : decode cX2_find 46 = .ok (.istore 5, 2) := by decide +kernel
theorem dX2_find_48 : decode cX2_find 48 = .ok (.iload 5, 2) := by decide +kernel
theorem dX2_find_50 : decode cX2_find 50 = .ok (.bipush 6, 2) := by decide +kernel
theorem dX2_find_52 : decode cX2_find 52 = .ok (.if_icmp .ge 58, 3) := by decide +kernel
theorem dX2_find_55 : decode cX2_find 55 = .ok (.aload_n 0, 1) := by decide +kernel
theorem dX2_find_56 : decode cX2_find 56 = .ok (.getfield 17, 3) := by decide +kernel
theorem dX2_find_59 : decode cX2_find 59 = .ok (.iload 4, 2) := by decide +kernel
theorem dX2_find_61 : decode cX2_find 61 = .ok (.aaload, 1) := by decide +kernel
theorem dX2_find_62 : decode cX2_find 62 = .ok (.iload 5, 2) := by decide +kernel
theorem dX2_find_64 : decode cX2_find 64 = .ok (.iload 4, 2) := by decide +kernel
theorem dX2_find_66 : decode cX2_find 66 = .ok (.ifCond .ne 14, 3) := by decide +kernel
theorem dX2_find_69 : decode cX2_find 69 = .ok (.aload_n 0, 1) := by decide +kernel
theorem dX2_find_70 : decode cX2_find 70 = .ok (.iconst 0, 1) := by decide +kernel
theorem dX2_find_71 : decode cX2_find 71 = .ok (.iload 5, 2) := by decide +kernel
theorem dX2_find_73 : decode cX2_find 73 = .ok (.iconst 1, 1) := by decide +kernel
theorem dX2_find_74 : decode cX2_find 74 = .ok (.invokevirtual 31, 3) := by decide +kernel
theorem dX2_find_77 : decode cX2_find 77 = .ok (.goto 26, 3) := by decide +kernel
theorem dX2_find_80 : decode cX2_find 80 = .ok (.aload_n 0, 1) := by decide +kernel
theorem dX2_find_81 : decode cX2_find 81 = .ok (.iload 4, 2) := by decide +kernel
theorem dX2_find_83 : decode cX2_find 83 = .ok (.iload 5, 2) := by decide +kernel
theorem dX2_find_85 : decode cX2_find 85 = .ok (.aload_n 0, 1) := by decide +kernel
theorem dX2_find_86 : decode cX2_find 86 = .ok (.getfield 17, 3) := by decide +kernel
theorem dX2_find_89 : decode cX2_find 89 = .ok (.iload 4, 2) := by decide +kernel
theorem dX2_find_91 : decode cX2_find 91 = .ok (.iconst 1, 1) := by decide +kernel
theorem dX2_find_92 : decode cX2_find 92 = .ok (.isub, 1) := by decide +kernel
theorem dX2_find_93 : decode cX2_find 93 = .ok (.aaload, 1) := by decide +kernel
theorem dX2_find_94 : decode cX2_find 94 = .ok (.iload 5, 2) := by decide +kernel
theorem dX2_find_96 : decode cX2_find 96 = .ok (.aload_n 3, 1) := by decide +kernel
theorem dX2_find_97 : decode cX2_find 97 = .ok (.invokestatic 35, 3) := by decide +kernel
theorem dX2_find_100 : decode cX2_find 100 = .ok (.invokevirtual 31, 3) := by decide +kernel
theorem dX2_find_103 : decode cX2_find 103 = .ok (.iastore, 1) := by decide +kernel
theorem dX2_find_104 : decode cX2_find 104 = .ok (.iinc 5 1, 3) := by decide +kernel
theorem dX2_find_107 : decode cX2_find 107 = .ok (.goto (-59), 3) := by decide +kernel
theorem dX2_find_110 : decode cX2_find 110 = .ok (.iinc 4 1, 3) := by decide +kernel
theorem dX2_find_113 : decode cX2_find 113 = .ok (.goto (-74), 3) := by decide +kernel
theorem dX2_find_116 : decode cX2_find 116 = .ok (.iload_n 2, 1) := by decide +kernel
theorem dX2_find_117 : decode cX2_find 117 = .ok (.istore 4, 2) := by decide +kernel
theorem dX2_find_119 : decode cX2_find 119 = .ok (.iload 4, 2) := by decide +kernel
theorem dX2_find_121 : decode cX2_find 121 = .ok (.ifCond .lt 75, 3) := by decide +kernel
theorem dX2_find_124 : decode cX2_find 124 = .ok (.iconst 0, 1) := by decide +kernel
theorem dX2_find_125 : decode cX2_find 125 = .ok (.istore 5, 2) := by decide +kernel
theorem dX2_find_127 : decode cX2_find 127 = .ok (.iload 5, 2) := by decide +kernel
theorem dX2_find_129 : decode cX2_find 129 = .ok (.bipush 6, 2) := by decide +kernel
theorem dX2_find_131 : decode cX2_find 131 = .ok (.if_icmp .ge 59, 3) := by decide +kernel
theorem dX2_find_134 : decode cX2_find 134 = .ok (.aload_n 0, 1) := by decide +kernel
theorem dX2_find_135 : decode cX2_find 135 = .ok (.getfield 20, 3) := by decide +kernel
theorem dX2_find_138 : decode cX2_find 138 = .ok (.iload 4, 2) := by decide +kernel
theorem dX2_find_140 : decode cX2_find 140 = .ok (.aaload, 1) := by decide +kernel
theorem dX2_find_141 : decode cX2_find 141 = .ok (.iload 5, 2) := by decide +kernel
theorem dX2_find_143 : decode cX2_find 143 = .ok (.iload 4, 2) := by decide +kernel
theorem dX2_find_145 : decode cX2_find 145 = .ok (.iload_n 2, 1) := by decide +kernel
theorem dX2_find_146 : decode cX2_find 146 = .ok (.if_icmp .ne 14, 3) := by decide +kernel
theorem dX2_find_149 : decode cX2_find 149 = .ok (.aload_n 0, 1) := by decide +kernel
theorem dX2_find_150 : decode cX2_find 150 = .ok (.iload_n 2, 1) := by decide +kernel
theorem dX2_find_151 : decode cX2_find 151 = .ok (.iload 5, 2) := by decide +kernel
theorem dX2_find_153 : decode cX2_find 153 = .ok (.iconst 1, 1) := by decide +kernel
theorem dX2_find_154 : decode cX2_find 154 = .ok (.invokevirtual 31, 3) := by decide +kernel
theorem dX2_find_157 : decode cX2_find 157 = .ok (.goto 26, 3) := by decide +kernel
theorem dX2_find_160 : decode cX2_find 160 = .ok (.aload_n 0, 1) := by decide +kernel
theorem dX2_find_161 : decode cX2_find 161 = .ok (.iload 4, 2) := by decide +kernel
theorem dX2_find_163 : decode cX2_find 163 = .ok (.iload 5, 2) := by decide +kernel
theorem dX2_find_165 : decode cX2_find 165 = .ok (.aload_n 0, 1) := by decide +kernel
theorem dX2_find_166 : decode cX2_find 166 = .ok (.getfield 20, 3) := by decide +kernel
theorem dX2_find_169 : decode cX2_find 169 = .ok (.iload 4, 2) := by decide +kernel
theorem dX2_find_171 : decode cX2_find 171 = .ok (.iconst 1, 1) := by decide +kernel
theorem dX2_find_172 : decode cX2_find 172 = .ok (.iadd, 1) := by decide +kernel
theorem dX2_find_173 : decode cX2_find 173 = .ok (.aaload, 1) := by decide +kernel
theorem dX2_find_174 : decode cX2_find 174 = .ok (.iload 5, 2) := by decide +kernel
theorem dX2_find_176 : decode cX2_find 176 = .ok (.aload_n 3, 1) := by decide +kernel
theorem dX2_find_177 : decode cX2_find 177 = .ok (.invokestatic 35, 3) := by decide +kernel
theorem dX2_find_180 : decode cX2_find 180 = .ok (.invokevirtual 31, 3) := by decide +kernel
theorem dX2_find_183 : decode cX2_find 183 = .ok (.iastore, 1) := by decide +kernel
theorem dX2_find_184 : decode cX2_find 184 = .ok (.iinc 5 1, 3) := by decide +kernel
theorem dX2_find_187 : decode cX2_find 187 = .ok (.goto (-60), 3) := by decide +kernel
theorem dX2_find_190 : decode cX2_find 190 = .ok (.iinc 4 (-1), 3) := by decide +kernel
theorem dX2_find_193 : decode cX2_find 193 = .ok (.goto (-74), 3) := by decide +kernel
theorem dX2_find_196 : decode cX2_find 196 = .ok (.return_, 1) := by decide +kernel
theorem dX2_openRooms_0 : decode cX2_openRooms 0 = .ok (.iconst 0, 1) := by decide +kernel
theorem dX2_openRooms_1 : decode cX2_openRooms 1 = .ok (.istore_n 3, 1) := by decide +kernel
theorem dX2_openRooms_2 : decode cX2_openRooms 2 = .ok (.iconst 0, 1) := by decide +kernel
theorem dX2_openRooms_3 : decode cX2_openRooms 3 = .ok (.istore 4, 2) := by decide +kernel
theorem dX2_openRooms_5 : decode cX2_openRooms 5 = .ok (.iconst 0, 1) := by decide +kernel
theorem dX2_openRooms_6 : decode cX2_openRooms 6 = .ok (.istore 5, 2) := by decide +kernel
theorem dX2_openRooms_8 : decode cX2_openRooms 8 = .ok (.iload 5, 2) := by decide +kernel
theorem dX2_openRooms_10 : decode cX2_openRooms 10 = .ok (.bipush 6, 2) := by decide +kernel
theorem dX2_openRooms_12 : decode cX2_openRooms 12 = .ok (.if_icmp .ge 61, 3) := by decide +kernel
theorem dX2_openRooms_15 : decode cX2_openRooms 15 = .ok (.aload_n 1, 1) := by decide +kernel
theorem dX2_openRooms_16 : decode cX2_openRooms 16 = .ok (.iload 5, 2) := by decide +kernel
theorem dX2_openRooms_18 : decode cX2_openRooms 18 = .ok (.iaload, 1) := by decide +kernel
theorem dX2_openRooms_19 : decode cX2_openRooms 19 = .ok (.istore 6, 2) := by decide +kernel
theorem dX2_openRooms_21 : decode cX2_openRooms 21 = .ok (.iload 6, 2) := by decide +kernel
theorem dX2_openRooms_23 : decode cX2_openRooms 23 = .ok (.bipush 30, 2) := by decide +kernel
theorem dX2_openRooms_25 : decode cX2_openRooms 25 = .ok (.if_icmp .eq 14, 3) := by decide +kernel
theorem dX2_openRooms_28 : decode cX2_openRooms 28 = .ok (.iload 6, 2) := by decide +kernel
theorem dX2_openRooms_30 : decode cX2_openRooms 30 = .ok (.aload_n 0, 1) := by decide +kernel
theorem dX2_openRooms_31 : decode cX2_openRooms 31 = .ok (.getfield 23, 3) := by decide +kernel
theorem dX2_openRooms_34 : decode cX2_openRooms 34 = .ok (.if_icmp .le 5, 3) := by decide +kernel
theorem dX2_openRooms_37 : decode cX2_openRooms 37 = .ok (.iconst 0, 1) := by decide +kernel
theorem dX2_openRooms_38 : decode cX2_openRooms 38 = .ok (.ireturn, 1) := by decide +kernel
theorem dX2_openRooms_39 : decode cX2_openRooms 39 = .ok (.iload 6, 2) := by decide +kernel
theorem dX2_openRooms_41 : decode cX2_openRooms 41 = .ok (.iload_n 2, 1) := by decide +kernel
theorem dX2_openRooms_42 : decode cX2_openRooms 42 = .ok (.if_icmp .ne 12, 3) := by decide +kernel
theorem dX2_openRooms_45 : decode cX2_openRooms 45 = .ok (.iload 4, 2) := by decide +kernel
theorem dX2_openRooms_47 : decode cX2_openRooms 47 = .ok (.iconst 1, 1) := by decide +kernel
theorem dX2_openRooms_48 : decode cX2_openRooms 48 = .ok (.iload 5, 2) := by decide +kernel
theorem dX2_openRooms_50 : decode cX2_openRooms 50 = .ok (.ishl, 1) := by decide +kernel
theorem dX2_openRooms_51 : decode cX2_openRooms 51 = .ok (.ior, 1) := by decide +kernel
theorem dX2_openRooms_52 : decode cX2_openRooms 52 = .ok (.istore 4, 2) := by decide +kernel
theorem dX2_openRooms_54 : decode cX2_openRooms 54 = .ok (.iload 6, 2) := by decide +kernel
theorem dX2_openRooms_56 : decode cX2_openRooms 56 = .ok (.iload_n 2, 1) := by decide +kernel
theorem dX2_openRooms_57 : decode cX2_openRooms 57 = .ok (.if_icmp .gt 10, 3) := by decide +kernel
theorem dX2_openRooms_60 : decode cX2_openRooms 60 = .ok (.iload_n 3, 1) := by decide +kernel
theorem dX2_openRooms_61 : decode cX2_openRooms 61 = .ok (.iconst 1, 1) := by decide +kernel
theorem dX2_openRooms_62 : decode cX2_openRooms 62 = .ok (.iload 5, 2) := by decide +kernel
theorem dX2_openRooms_64 : decode cX2_openRooms 64 = .ok (.ishl, 1) := by decide +kernel
theorem dX2_openRooms_65 : decode cX2_openRooms 65 = .ok (.ior, 1) := by decide +kernel
theorem dX2_openRooms_66 : decode cX2_openRooms 66 = .ok (.istore_n 3, 1) := by decide +kernel
theorem dX2_openRooms_67 : decode cX2_openRooms 67 = .ok (.iinc 5 1, 3) := by decide +kernel
theorem dX2_openRooms_70 : decode cX2_openRooms 70 = .ok (.goto (-62), 3) := by decide +kernel
theorem dX2_openRooms_73 : decode cX2_openRooms 73 = .ok (.iload 4, 2) := by decide +kernel
theorem dX2_openRooms_75 : decode cX2_openRooms 75 = .ok (.ifCond .ne 5, 3) := by decide +kernel
theorem dX2_openRooms_78 : decode cX2_openRooms 78 = .ok (.iload_n 3, 1) := by decide +kernel
theorem dX2_openRooms_79 : decode cX2_openRooms 79 = .ok (.ireturn, 1) := by decide +kernel
theorem dX2_openRooms_80 : decode cX2_openRooms 80 = .ok (.iload 4, 2) := by decide +kernel
theorem dX2_openRooms_82 : decode cX2_openRooms 82 = .ok (.invokestatic 39, 3) := by decide +kernel
theorem dX2_openRooms_85 : decode cX2_openRooms 85 = .ok (.iconst 1, 1) := by decide +kernel
theorem dX2_openRooms_86 : decode cX2_openRooms 86 = .ok (.if_icmp .ne 8, 3) := by decide +kernel
theorem dX2_openRooms_89 : decode cX2_openRooms 89 = .ok (.iload 4, 2) := by decide +kernel
theorem dX2_openRooms_91 : decode cX2_openRooms 91 = .ok (.goto 4, 3) := by decide +kernel
theorem dX2_openRooms_94 : decode cX2_openRooms 94 = .ok (.iconst 0, 1) := by decide +kernel
theorem dX2_openRooms_95 : decode cX2_openRooms 95 = .ok (.ireturn, 1) := by decide +kernel
theorem dX2_openWays_0 : decode cX2_openWays 0 = .ok (.aload_n 0, 1) := by decide +kernel
theorem dX2_openWays_1 : decode cX2_openWays 1 = .ok (.getfield 11, 3) := by decide +kernel
theorem dX2_openWays_4 : decode cX2_openWays 4 = .ok (.iload_n 1, 1) := by decide +kernel
theorem dX2_openWays_5 : decode cX2_openWays 5 = .ok (.iaload, 1) := by decide +kernel
theorem dX2_openWays_6 : decode cX2_openWays 6 = .ok (.iload_n 2, 1) := by decide +kernel
theorem dX2_openWays_7 : decode cX2_openWays 7 = .ok (.ishr, 1) := by decide +kernel
theorem dX2_openWays_8 : decode cX2_openWays 8 = .ok (.iconst 1, 1) := by decide +kernel
theorem dX2_openWays_9 : decode cX2_openWays 9 = .ok (.iand, 1) := by decide +kernel
theorem dX2_openWays_10 : decode cX2_openWays 10 = .ok (.iconst 1, 1) := by decide +kernel
theorem dX2_openWays_11 : decode cX2_openWays 11 = .ok (.if_icmp .ne 7, 3) := by decide +kernel
theorem dX2_openWays_14 : decode cX2_openWays 14 = .ok (.iload_n 3, 1) := by decide +kernel
theorem dX2_openWays_15 : decode cX2_openWays 15 = .ok (.goto 4, 3) := by decide +kernel
theorem dX2_openWays_18 : decode cX2_openWays 18 = .ok (.iconst 0, 1) := by decide +kernel
theorem dX2_openWays_19 : decode cX2_openWays 19 = .ok (.ireturn, 1) := by decide +kernel
theorem dX2_sumWithin_0 : decode cX2_sumWithin 0 = .ok (.aload_n 0, 1) := by decide +kernel
theorem dX2_sumWithin_1 : decode cX2_sumWithin 1 = .ok (.iload_n 1, 1) := by decide +kernel
theorem dX2_sumWithin_2 : decode cX2_sumWithin 2 = .ok (.iaload, 1) := by decide +kernel
theorem dX2_sumWithin_3 : decode cX2_sumWithin 3 = .ok (.istore_n 3, 1) := by decide +kernel
theorem dX2_sumWithin_4 : decode cX2_sumWithin 4 = .ok (.iconst 0, 1) := by decide +kernel
theorem dX2_sumWithin_5 : decode cX2_sumWithin 5 = .ok (.istore 4, 2) := by decide +kernel
theorem dX2_sumWithin_7 : decode cX2_sumWithin 7 = .ok (.iload 4, 2) := by decide +kernel
theorem dX2_sumWithin_9 : decode cX2_sumWithin 9 = .ok (.bipush 6, 2) := by decide +kernel
theorem dX2_sumWithin_11 : decode cX2_sumWithin 11 = .ok (.if_icmp .ge 26, 3) := by decide +kernel
theorem dX2_sumWithin_14 : decode cX2_sumWithin 14 = .ok (.aload_n 2, 1) := by decide +kernel
theorem dX2_sumWithin_15 : decode cX2_sumWithin 15 = .ok (.iload_n 1, 1) := by decide +kernel
theorem dX2_sumWithin_16 : decode cX2_sumWithin 16 = .ok (.iload 4, 2) := by decide +kernel
theorem dX2_sumWithin_18 : decode cX2_sumWithin 18 = .ok (.invokevirtual 45, 3) := by decide +kernel
theorem dX2_sumWithin_21 : decode cX2_sumWithin 21 = .ok (.ifCond .eq 10, 3) := by decide +kernel
theorem dX2_sumWithin_24 : decode cX2_sumWithin 24 = .ok (.iload_n 3, 1) := by decide +kernel
theorem dX2_sumWithin_25 : decode cX2_sumWithin 25 = .ok (.aload_n 0, 1) := by decide +kernel
theorem dX2_sumWithin_26 : decode cX2_sumWithin 26 = .ok (.iload 4, 2) := by decide +kernel
theorem dX2_sumWithin_28 : decode cX2_sumWithin 28 = .ok (.iaload, 1) := by decide +kernel
theorem dX2_sumWithin_29 : decode cX2_sumWithin 29 = .ok (.iadd, 1) := by decide +kernel
theorem dX2_sumWithin_30 : decode cX2_sumWithin 30 = .ok (.istore_n 3, 1) := by decide +kernel
theorem dX2_sumWithin_31 : decode cX2_sumWithin 31 = .ok (.iinc 4 1, 3) := by decide +kernel
theorem dX2_sumWithin_34 : decode cX2_sumWithin 34 = .ok (.goto (-27), 3) := by decide +kernel
theorem dX2_sumWithin_37 : decode cX2_sumWithin 37 = .ok (.iload_n 3, 1) := by decide +kernel
theorem dX2_sumWithin_38 : decode cX2_sumWithin 38 = .ok (.ireturn, 1) := by decide +kernel
theorem dX2_waysThrough_0 : decode cX2_waysThrough 0 = .ok (.aload_n 0, 1) := by decide +kernel
theorem dX2_waysThrough_1 : decode cX2_waysThrough 1 = .ok (.getfield 17, 3) := by decide +kernel
theorem dX2_waysThrough_4 : decode cX2_waysThrough 4 = .ok (.iload_n 1, 1) := by decide +kernel
theorem dX2_waysThrough_5 : decode cX2_waysThrough 5 = .ok (.aaload, 1) := by decide +kernel
theorem dX2_waysThrough_6 : decode cX2_waysThrough 6 = .ok (.iload_n 2, 1) := by decide +kernel
theorem dX2_waysThrough_7 : decode cX2_waysThrough 7 = .ok (.iaload, 1) := by decide +kernel
theorem dX2_waysThrough_8 : decode cX2_waysThrough 8 = .ok (.aload_n 0, 1) := by decide +kernel
theorem dX2_waysThrough_9 : decode cX2_waysThrough 9 = .ok (.getfield 20, 3) := by decide +kernel
theorem dX2_waysThrough_12 : decode cX2_waysThrough 12 = .ok (.iload_n 1, 1) := by decide +kernel
theorem dX2_waysThrough_13 : decode cX2_waysThrough 13 = .ok (.aaload, 1) := by decide +kernel
theorem dX2_waysThrough_14 : decode cX2_waysThrough 14 = .ok (.iload_n 2, 1) := by decide +kernel
theorem dX2_waysThrough_15 : decode cX2_waysThrough 15 = .ok (.iaload, 1) := by decide +kernel
theorem dX2_waysThrough_16 : decode cX2_waysThrough 16 = .ok (.imul, 1) := by decide +kernel
theorem dX2_waysThrough_17 : decode cX2_waysThrough 17 = .ok (.ireturn, 1) := by decide +kernel
theorem dX2_ways_0 : decode cX2_ways 0 = .ok (.iconst 0, 1) := by decide +kernel
theorem dX2_ways_1 : decode cX2_ways 1 = .ok (.istore_n 1, 1) := by decide +kernel
theorem dX2_ways_2 : decode cX2_ways 2 = .ok (.iconst 0, 1) := by decide +kernel
theorem dX2_ways_3 : decode cX2_ways 3 = .ok (.istore_n 2, 1) := by decide +kernel
theorem dX2_ways_4 : decode cX2_ways 4 = .ok (.iload_n 2, 1) := by decide +kernel
theorem dX2_ways_5 : decode cX2_ways 5 = .ok (.bipush 6, 2) := by decide +kernel
theorem dX2_ways_7 : decode cX2_ways 7 = .ok (.if_icmp .ge 23, 3) := by decide +kernel
theorem dX2_ways_10 : decode cX2_ways 10 = .ok (.iload_n 1, 1) := by decide +kernel
theorem dX2_ways_11 : decode cX2_ways 11 = .ok (.aload_n 0, 1) := by decide +kernel
theorem dX2_ways_12 : decode cX2_ways 12 = .ok (.getfield 17, 3) := by decide +kernel
theorem dX2_ways_15 : decode cX2_ways 15 = .ok (.aload_n 0, 1) := by decide +kernel
theorem dX2_ways_16 : decode cX2_ways 16 = .ok (.getfield 23, 3) := by decide +kernel
theorem dX2_ways_19 : decode cX2_ways 19 = .ok (.aaload, 1) := by decide +kernel
theorem dX2_ways_20 : decode cX2_ways 20 = .ok (.iload_n 2, 1) := by decide +kernel
theorem dX2_ways_21 : decode cX2_ways 21 = .ok (.iaload, 1) := by decide +kernel
theorem dX2_ways_22 : decode cX2_ways 22 = .ok (.iadd, 1) := by decide +kernel
theorem dX2_ways_23 : decode cX2_ways 23 = .ok (.istore_n 1, 1) := by decide +kernel
theorem dX2_ways_24 : decode cX2_ways 24 = .ok (.iinc 2 1, 3) := by decide +kernel
theorem dX2_ways_27 : decode cX2_ways 27 = .ok (.goto (-23), 3) := by decide +kernel
theorem dX2_ways_30 : decode cX2_ways 30 = .ok (.iload_n 1, 1) := by decide +kernel
theorem dX2_ways_31 : decode cX2_ways 31 = .ok (.ireturn, 1) := by decide +kernel
theorem dX2_commonestRoom_0 : decode cX2_commonestRoom 0 = .ok (.bipush (-9), 2) := by decide +kernel
theorem dX2_commonestRoom_2 : decode cX2_commonestRoom 2 = .ok (.istore_n 2, 1) := by decide +kernel
theorem dX2_commonestRoom_3 : decode cX2_commonestRoom 3 = .ok (.iconst 0, 1) := by decide +kernel
theorem dX2_commonestRoom_4 : decode cX2_commonestRoom 4 = .ok (.istore_n 3, 1) := by decide +kernel
theorem dX2_commonestRoom_5 : decode cX2_commonestRoom 5 = .ok (.iconst 0, 1) := by decide +kernel
theorem dX2_commonestRoom_6 : decode cX2_commonestRoom 6 = .ok (.istore 4, 2) := by decide +kernel
theorem dX2_commonestRoom_8 : decode cX2_commonestRoom 8 = .ok (.iload 4, 2) := by decide +kernel
theorem dX2_commonestRoom_10 : decode cX2_commonestRoom 10 = .ok (.bipush 6, 2) := by decide +kernel
theorem dX2_commonestRoom_12 : decode cX2_commonestRoom 12 = .ok (.if_icmp .ge 30, 3) := by decide +kernel
theorem dX2_commonestRoom_15 : decode cX2_commonestRoom 15 = .ok (.aload_n 0, 1) := by decide +kernel
theorem dX2_commonestRoom_16 : decode cX2_commonestRoom 16 = .ok (.iload_n 1, 1) := by decide +kernel
theorem dX2_commonestRoom_17 : decode cX2_commonestRoom 17 = .ok (.iload 4, 2) := by decide +kernel
theorem dX2_commonestRoom_19 : decode cX2_commonestRoom 19 = .ok (.invokevirtual 51, 3) := by decide +kernel
theorem dX2_commonestRoom_22 : decode cX2_commonestRoom 22 = .ok (.istore 5, 2) := by decide +kernel
theorem dX2_commonestRoom_24 : decode cX2_commonestRoom 24 = .ok (.iload 5, 2) := by decide +kernel
theorem dX2_commonestRoom_26 : decode cX2_commonestRoom 26 = .ok (.iload_n 3, 1) := by decide +kernel
theorem dX2_commonestRoom_27 : decode cX2_commonestRoom 27 = .ok (.if_icmp .le 9, 3) := by decide +kernel
theorem dX2_commonestRoom_30 : decode cX2_commonestRoom 30 = .ok (.iload 5, 2) := by decide +kernel
theorem dX2_commonestRoom_32 : decode cX2_commonestRoom 32 = .ok (.istore_n 3, 1) := by decide +kernel
theorem dX2_commonestRoom_33 : decode cX2_commonestRoom 33 = .ok (.iload 4, 2) := by decide +kernel
theorem dX2_commonestRoom_35 : decode cX2_commonestRoom 35 = .ok (.istore_n 2, 1) := by decide +kernel
theorem dX2_commonestRoom_36 : decode cX2_commonestRoom 36 = .ok (.iinc 4 1, 3) := by decide +kernel
theorem dX2_commonestRoom_39 : decode cX2_commonestRoom 39 = .ok (.goto (-31), 3) := by decide +kernel
theorem dX2_commonestRoom_42 : decode cX2_commonestRoom 42 = .ok (.iload_n 2, 1) := by decide +kernel
theorem dX2_commonestRoom_43 : decode cX2_commonestRoom 43 = .ok (.ireturn, 1) := by decide +kernel
theorem dX2_roomsThen_0 : decode cX2_roomsThen 0 = .ok (.iconst 0, 1) := by decide +kernel
theorem dX2_roomsThen_1 : decode cX2_roomsThen 1 = .ok (.istore_n 2, 1) := by decide +kernel
theorem dX2_roomsThen_2 : decode cX2_roomsThen 2 = .ok (.iconst 0, 1) := by decide +kernel
theorem dX2_roomsThen_3 : decode cX2_roomsThen 3 = .ok (.istore_n 3, 1) := by decide +kernel
theorem dX2_roomsThen_4 : decode cX2_roomsThen 4 = .ok (.iload_n 3, 1) := by decide +kernel
theorem dX2_roomsThen_5 : decode cX2_roomsThen 5 = .ok (.bipush 6, 2) := by decide +kernel
theorem dX2_roomsThen_7 : decode cX2_roomsThen 7 = .ok (.if_icmp .ge 24, 3) := by decide +kernel
theorem dX2_roomsThen_10 : decode cX2_roomsThen 10 = .ok (.aload_n 0, 1) := by decide +kernel
theorem dX2_roomsThen_11 : decode cX2_roomsThen 11 = .ok (.iload_n 1, 1) := by decide +kernel
theorem dX2_roomsThen_12 : decode cX2_roomsThen 12 = .ok (.iload_n 3, 1) := by decide +kernel
theorem dX2_roomsThen_13 : decode cX2_roomsThen 13 = .ok (.invokevirtual 51, 3) := by decide +kernel
theorem dX2_roomsThen_16 : decode cX2_roomsThen 16 = .ok (.ifCond .le 9, 3) := by decide +kernel
theorem dX2_roomsThen_19 : decode cX2_roomsThen 19 = .ok (.iload_n 2, 1) := by decide +kernel
theorem dX2_roomsThen_20 : decode cX2_roomsThen 20 = .ok (.iconst 1, 1) := by decide +kernel
theorem dX2_roomsThen_21 : decode cX2_roomsThen 21 = .ok (.iload_n 3, 1) := by decide +kernel
theorem dX2_roomsThen_22 : decode cX2_roomsThen 22 = .ok (.ishl, 1) := by decide +kernel
theorem dX2_roomsThen_23 : decode cX2_roomsThen 23 = .ok (.ior, 1) := by decide +kernel
theorem dX2_roomsThen_24 : decode cX2_roomsThen 24 = .ok (.istore_n 2, 1) := by decide +kernel
theorem dX2_roomsThen_25 : decode cX2_roomsThen 25 = .ok (.iinc 3 1, 3) := by decide +kernel
theorem dX2_roomsThen_28 : decode cX2_roomsThen 28 = .ok (.goto (-24), 3) := by decide +kernel
theorem dX2_roomsThen_31 : decode cX2_roomsThen 31 = .ok (.iload_n 2, 1) := by decide +kernel
theorem dX2_roomsThen_32 : decode cX2_roomsThen 32 = .ok (.ireturn, 1) := by decide +kernel
theorem dX3_init_0 : decode cX3_init 0 = .ok (.aload_n 0, 1) := by decide +kernel
theorem dX3_init_1 : decode cX3_init 1 = .ok (.invokespecial 1, 3) := by decide +kernel
theorem dX3_init_4 : decode cX3_init 4 = .ok (.aload_n 0, 1) := by decide +kernel
theorem dX3_init_5 : decode cX3_init 5 = .ok (.new 7, 3) := by decide +kernel
theorem dX3_init_8 : decode cX3_init 8 = .ok (.dup, 1) := by decide +kernel
theorem dX3_init_9 : decode cX3_init 9 = .ok (.invokespecial 9, 3) := by decide +kernel
theorem dX3_init_12 : decode cX3_init 12 = .ok (.putfield 10, 3) := by decide +kernel
theorem dX3_init_15 : decode cX3_init 15 = .ok (.aload_n 0, 1) := by decide +kernel
theorem dX3_init_16 : decode cX3_init 16 = .ok (.new 7, 3) := by decide +kernel
theorem dX3_init_19 : decode cX3_init 19 = .ok (.dup, 1) := by decide +kernel
theorem dX3_init_20 : decode cX3_init 20 = .ok (.invokespecial 9, 3) := by decide +kernel
theorem dX3_init_23 : decode cX3_init 23 = .ok (.putfield 16, 3) := by decide +kernel
theorem dX3_init_26 : decode cX3_init 26 = .ok (.aload_n 0, 1) := by decide +kernel
theorem dX3_init_27 : decode cX3_init 27 = .ok (.new 7, 3) := by decide +kernel
theorem dX3_init_30 : decode cX3_init 30 = .ok (.dup, 1) := by decide +kernel
theorem dX3_init_31 : decode cX3_init 31 = .ok (.invokespecial 9, 3) := by decide +kernel
theorem dX3_init_34 : decode cX3_init 34 = .ok (.putfield 19, 3) := by decide +kernel
theorem dX3_init_37 : decode cX3_init 37 = .ok (.aload_n 0, 1) := by decide +kernel
theorem dX3_init_38 : decode cX3_init 38 = .ok (.iconst 0, 1) := by decide +kernel
theorem dX3_init_39 : decode cX3_init 39 = .ok (.putfield 22, 3) := by decide +kernel
theorem dX3_init_42 : decode cX3_init 42 = .ok (.aload_n 0, 1) := by decide +kernel
theorem dX3_init_43 : decode cX3_init 43 = .ok (.new 26, 3) := by decide +kernel
theorem dX3_init_46 : decode cX3_init 46 = .ok (.dup, 1) := by decide +kernel
theorem dX3_init_47 : decode cX3_init 47 = .ok (.invokespecial 28, 3) := by decide +kernel
theorem dX3_init_50 : decode cX3_init 50 = .ok (.putfield 29, 3) := by decide +kernel
theorem dX3_init_53 : decode cX3_init 53 = .ok (.aload_n 0, 1) := by decide +kernel
theorem dX3_init_54 : decode cX3_init 54 = .ok (.new 33, 3) := by decide +kernel
theorem dX3_init_57 : decode cX3_init 57 = .ok (.dup, 1) := by decide +kernel
theorem dX3_init_58 : decode cX3_init 58 = .ok (.invokespecial 35, 3) := by decide +kernel
theorem dX3_init_61 : decode cX3_init 61 = .ok (.putfield 36, 3) := by decide +kernel
theorem dX3_init_64 : decode cX3_init 64 = .ok (.aload_n 0, 1) := by decide +kernel
theorem dX3_init_65 : decode cX3_init 65 = .ok (.bipush 12, 2) := by decide +kernel
theorem dX3_init_67 : decode cX3_init 67 = .ok (.newarray .int, 2) := by decide +kernel
theorem dX3_init_69 : decode cX3_init 69 = .ok (.putfield 40, 3) := by decide +kernel
theorem dX3_init_72 : decode cX3_init 72 = .ok (.aload_n 0, 1) := by decide +kernel
theorem dX3_init_73 : decode cX3_init 73 = .ok (.iconst 0, 1) := by decide +kernel
theorem dX3_init_74 : decode cX3_init 74 = .ok (.putfield 44, 3) := by decide +kernel
theorem dX3_init_77 : decode cX3_init 77 = .ok (.aload_n 0, 1) := by decide +kernel
theorem dX3_init_78 : decode cX3_init 78 = .ok (.bipush 7, 2) := by decide +kernel
theorem dX3_init_80 : decode cX3_init 80 = .ok (.newarray .int, 2) := by decide +kernel
theorem dX3_init_82 : decode cX3_init 82 = .ok (.putfield 48, 3) := by decide +kernel
theorem dX3_init_85 : decode cX3_init 85 = .ok (.return_, 1) := by decide +kernel
theorem dX3_letter_0 : decode cX3_letter 0 = .ok (.iload_n 1, 1) := by decide +kernel
theorem dX3_letter_1 : decode cX3_letter 1 = .ok (.ifCond .ge 10, 3) := by decide +kernel
theorem dX3_letter_4 : decode cX3_letter 4 = .ok (.aload_n 0, 1) := by decide +kernel
theorem dX3_letter_5 : decode cX3_letter 5 = .ok (.bipush (-4), 2) := by decide +kernel
theorem dX3_letter_7 : decode cX3_letter 7 = .ok (.invokevirtual 51, 3) := by decide +kernel
theorem dX3_letter_10 : decode cX3_letter 10 = .ok (.ireturn, 1) := by decide +kernel
theorem dX3_letter_11 : decode cX3_letter 11 = .ok (.iload_n 1, 1) := by decide +kernel
theorem dX3_letter_12 : decode cX3_letter 12 = .ok (.sipush 255, 3) := by decide +kernel
theorem dX3_letter_15 : decode cX3_letter 15 = .ok (.if_icmp .gt 13, 3) := by decide +kernel
theorem dX3_letter_18 : decode cX3_letter 18 = .ok (.aload_n 0, 1) := by decide +kernel
theorem dX3_letter_19 : decode cX3_letter 19 = .ok (.getfield 29, 3) := by decide +kernel
theorem dX3_letter_22 : decode cX3_letter 22 = .ok (.invokevirtual 55, 3) := by decide +kernel
theorem dX3_letter_25 : decode cX3_letter 25 = .ok (.ifCond .eq 10, 3) := by decide +kernel
theorem dX3_letter_28 : decode cX3_letter 28 = .ok (.aload_n 0, 1) := by decide +kernel
theorem dX3_letter_29 : decode cX3_letter 29 = .ok (.bipush (-6), 2) := by decide +kernel
theorem dX3_letter_31 : decode cX3_letter 31 = .ok (.invokevirtual 51, 3) := by decide +kernel
theorem dX3_letter_34 : decode cX3_letter 34 = .ok (.ireturn, 1) := by decide +kernel
theorem dX3_letter_35 : decode cX3_letter 35 = .ok (.aload_n 0, 1) := by decide +kernel
theorem dX3_letter_36 : decode cX3_letter 36 = .ok (.getfield 29, 3) := by decide +kernel
theorem dX3_letter_39 : decode cX3_letter 39 = .ok (.iload_n 1, 1) := by decide +kernel
theorem dX3_letter_40 : decode cX3_letter 40 = .ok (.invokevirtual 59, 3) := by decide +kernel
theorem dX3_letter_43 : decode cX3_letter 43 = .ok (.ireturn, 1) := by decide +kernel
theorem dX3_town_0 : decode cX3_town 0 = .ok (.aload_n 0, 1) := by decide +kernel
theorem dX3_town_1 : decode cX3_town 1 = .ok (.invokevirtual 62, 3) := by decide +kernel
theorem dX3_town_4 : decode cX3_town 4 = .ok (.istore_n 1, 1) := by decide +kernel
theorem dX3_town_5 : decode cX3_town 5 = .ok (.aload_n 0, 1) := by decide +kernel
theorem dX3_town_6 : decode cX3_town 6 = .ok (.getfield 29, 3) := by decide +kernel
theorem dX3_town_9 : decode cX3_town 9 = .ok (.invokevirtual 66, 3) := by decide +kernel
theorem dX3_town_12 : decode cX3_town 12 = .ok (.iload_n 1, 1) := by decide +kernel
theorem dX3_town_13 : decode cX3_town 13 = .ok (.ireturn, 1) := by decide +kernel
theorem dX3_room_0 : decode cX3_room 0 = .ok (.iload_n 1, 1) := by decide +kernel
theorem dX3_room_1 : decode cX3_room 1 = .ok (.invokestatic 69, 3) := by decide +kernel
theorem dX3_room_4 : decode cX3_room 4 = .ok (.ifCond .ne 9, 3) := by decide +kernel
theorem dX3_room_7 : decode cX3_room 7 = .ok (.aload_n 0, 1) := by decide +kernel
theorem dX3_room_8 : decode cX3_room 8 = .ok (.iconst (-1), 1) := by decide +kernel
theorem dX3_room_9 : decode cX3_room 9 = .ok (.invokevirtual 51, 3) := by decide +kernel
theorem dX3_room_12 : decode cX3_room 12 = .ok (.ireturn, 1) := by decide +kernel
theorem dX3_room_13 : decode cX3_room 13 = .ok (.iload_n 2, 1) := by decide +kernel
theorem dX3_room_14 : decode cX3_room 14 = .ok (.tableswitch 61 0 2 #[26, 35, 52], 26) := by decide +kernel
theorem dX3_room_40 : decode cX3_room 40 = .ok (.aload_n 0, 1) := by decide +kernel
theorem dX3_room_41 : decode cX3_room 41 = .ok (.getfield 10, 3) := by decide +kernel
theorem dX3_room_44 : decode cX3_room 44 = .ok (.iload_n 1, 1) := by decide +kernel
theorem dX3_room_45 : decode cX3_room 45 = .ok (.invokevirtual 73, 3) := by decide +kernel
theorem dX3_room_48 : decode cX3_room 48 = .ok (.ireturn, 1) := by decide +kernel
theorem dX3_room_49 : decode cX3_room 49 = .ok (.aload_n 0, 1) := by decide +kernel
theorem dX3_room_50 : decode cX3_room 50 = .ok (.getfield 10, 3) := by decide +kernel
theorem dX3_room_53 : decode cX3_room 53 = .ok (.iload_n 1, 1) := by decide +kernel
theorem dX3_room_54 : decode cX3_room 54 = .ok (.invokevirtual 76, 3) := by decide +kernel
theorem dX3_room_57 : decode cX3_room 57 = .ok (.ifCond .eq 7, 3) := by decide +kernel
theorem dX3_room_60 : decode cX3_room 60 = .ok (.iconst 1, 1) := by decide +kernel
theorem dX3_room_61 : decode cX3_room 61 = .ok (.goto 4, 3) := by decide +kernel
theorem dX3_room_64 : decode cX3_room 64 = .ok (.iconst 0, 1) := by decide +kernel
theorem dX3_room_65 : decode cX3_room 65 = .ok (.ireturn, 1) := by decide +kernel
theorem dX3_room_66 : decode cX3_room 66 = .ok (.aload_n 0, 1) := by decide +kernel
theorem dX3_room_67 : decode cX3_room 67 = .ok (.getfield 10, 3) := by decide +kernel
theorem dX3_room_70 : decode cX3_room 70 = .ok (.iload_n 1, 1) := by decide +kernel
theorem dX3_room_71 : decode cX3_room 71 = .ok (.invokevirtual 79, 3) := by decide +kernel
theorem dX3_room_74 : decode cX3_room 74 = .ok (.ireturn, 1) := by decide +kernel
theorem dX3_room_75 : decode cX3_room 75 = .ok (.aload_n 0, 1) := by decide +kernel
theorem dX3_room_76 : decode cX3_room 76 = .ok (.bipush (-2), 2) := by decide +kernel
theorem dX3_room_78 : decode cX3_room 78 = .ok (.invokevirtual 51, 3) := by decide +kernel
theorem dX3_room_81 : decode cX3_room 81 = .ok (.ireturn, 1) := by decide +kernel
theorem dX3_walker_0 : decode cX3_walker 0 = .ok (.aload_n 0, 1) := by decide +kernel
theorem dX3_walker_1 : decode cX3_walker 1 = .ok (.getfield 10, 3) := by decide +kernel
theorem dX3_walker_4 : decode cX3_walker 4 = .ok (.iload_n 1, 1) := by decide +kernel
theorem dX3_walker_5 : decode cX3_walker 5 = .ok (.invokevirtual 82, 3) := by decide +kernel
theorem dX3_walker_8 : decode cX3_walker 8 = .ok (.ifCond .ne 9, 3) := by decide +kernel
theorem dX3_walker_11 : decode cX3_walker 11 = .ok (.aload_n 0, 1) := by decide +kernel
theorem dX3_walker_12 : decode cX3_walker 12 = .ok (.iconst (-1), 1) := by decide +kernel
theorem dX3_walker_13 : decode cX3_walker 13 = .ok (.invokevirtual 51, 3) := by decide +kernel
theorem dX3_walker_16 : decode cX3_walker 16 = .ok (.ireturn, 1) := by decide +kernel
theorem dX3_walker_17 : decode cX3_walker 17 = .ok (.iload_n 2, 1) := by decide +kernel
theorem dX3_walker_18 : decode cX3_walker 18 = .ok (.tableswitch 66 0 3 #[30, 39, 48, 57], 30) := by decide +kernel
theorem dX3_walker_48 : decode cX3_walker 48 = .ok (.aload_n 0, 1) := by decide +kernel
theorem dX3_walker_49 : decode cX3_walker 49 = .ok (.getfield 10, 3) := by decide +kernel
theorem dX3_walker_52 : decode cX3_walker 52 = .ok (.iload_n 1, 1) := by decide +kernel
theorem dX3_walker_53 : decode cX3_walker 53 = .ok (.invokevirtual 85, 3) := by decide +kernel
theorem dX3_walker_56 : decode cX3_walker 56 = .ok (.ireturn, 1) := by decide +kernel
theorem dX3_walker_57 : decode cX3_walker 57 = .ok (.aload_n 0, 1) := by decide +kernel
theorem dX3_walker_58 : decode cX3_walker 58 = .ok (.getfield 10, 3) := by decide +kernel
theorem dX3_walker_61 : decode cX3_walker 61 = .ok (.iload_n 1, 1) := by decide +kernel
theorem dX3_walker_62 : decode cX3_walker 62 = .ok (.invokevirtual 88, 3) := by decide +kernel
theorem dX3_walker_65 : decode cX3_walker 65 = .ok (.ireturn, 1) := by decide +kernel
theorem dX3_walker_66 : decode cX3_walker 66 = .ok (.aload_n 0, 1) := by decide +kernel
theorem dX3_walker_67 : decode cX3_walker 67 = .ok (.getfield 10, 3) := by decide +kernel
theorem dX3_walker_70 : decode cX3_walker 70 = .ok (.iload_n 1, 1) := by decide +kernel
theorem dX3_walker_71 : decode cX3_walker 71 = .ok (.invokevirtual 91, 3) := by decide +kernel
theorem dX3_walker_74 : decode cX3_walker 74 = .ok (.ireturn, 1) := by decide +kernel
theorem dX3_walker_75 : decode cX3_walker 75 = .ok (.aload_n 0, 1) := by decide +kernel
theorem dX3_walker_76 : decode cX3_walker 76 = .ok (.getfield 10, 3) := by decide +kernel
theorem dX3_walker_79 : decode cX3_walker 79 = .ok (.iload_n 1, 1) := by decide +kernel
theorem dX3_walker_80 : decode cX3_walker 80 = .ok (.invokevirtual 94, 3) := by decide +kernel
theorem dX3_walker_83 : decode cX3_walker 83 = .ok (.ireturn, 1) := by decide +kernel
theorem dX3_walker_84 : decode cX3_walker 84 = .ok (.aload_n 0, 1) := by decide +kernel
theorem dX3_walker_85 : decode cX3_walker 85 = .ok (.bipush (-2), 2) := by decide +kernel
theorem dX3_walker_87 : decode cX3_walker 87 = .ok (.invokevirtual 51, 3) := by decide +kernel
theorem dX3_walker_90 : decode cX3_walker 90 = .ok (.ireturn, 1) := by decide +kernel
theorem dX3_put_0 : decode cX3_put 0 = .ok (.aload_n 0, 1) := by decide +kernel
theorem dX3_put_1 : decode cX3_put 1 = .ok (.getfield 10, 3) := by decide +kernel
theorem dX3_put_4 : decode cX3_put 4 = .ok (.iload_n 1, 1) := by decide +kernel
theorem dX3_put_5 : decode cX3_put 5 = .ok (.invokevirtual 82, 3) := by decide +kernel
theorem dX3_put_8 : decode cX3_put 8 = .ok (.ifCond .eq 10, 3) := by decide +kernel
theorem dX3_put_11 : decode cX3_put 11 = .ok (.iload_n 2, 1) := by decide +kernel
theorem dX3_put_12 : decode cX3_put 12 = .ok (.invokestatic 69, 3) := by decide +kernel
theorem dX3_put_15 : decode cX3_put 15 = .ok (.ifCond .ne 9, 3) := by decide +kernel
theorem dX3_put_18 : decode cX3_put 18 = .ok (.aload_n 0, 1) := by decide +kernel
theorem dX3_put_19 : decode cX3_put 19 = .ok (.iconst (-1), 1) := by decide +kernel
theorem dX3_put_20 : decode cX3_put 20 = .ok (.invokevirtual 51, 3) := by decide +kernel
theorem dX3_put_23 : decode cX3_put 23 = .ok (.ireturn, 1) := by decide +kernel
theorem dX3_put_24 : decode cX3_put 24 = .ok (.aload_n 0, 1) := by decide +kernel
theorem dX3_put_25 : decode cX3_put 25 = .ok (.getfield 10, 3) := by decide +kernel
theorem dX3_put_28 : decode cX3_put 28 = .ok (.iload_n 1, 1) := by decide +kernel
theorem dX3_put_29 : decode cX3_put 29 = .ok (.invokevirtual 88, 3) := by decide +kernel
theorem dX3_put_32 : decode cX3_put 32 = .ok (.istore_n 3, 1) := by decide +kernel
theorem dX3_put_33 : decode cX3_put 33 = .ok (.aload_n 0, 1) := by decide +kernel
theorem dX3_put_34 : decode cX3_put 34 = .ok (.getfield 10, 3) := by decide +kernel
theorem dX3_put_37 : decode cX3_put 37 = .ok (.iload_n 1, 1) := by decide +kernel
theorem dX3_put_38 : decode cX3_put 38 = .ok (.iload_n 2, 1) := by decide +kernel
theorem dX3_put_39 : decode cX3_put 39 = .ok (.invokevirtual 97, 3) := by decide +kernel
theorem dX3_put_42 : decode cX3_put 42 = .ok (.iload_n 3, 1) := by decide +kernel
theorem dX3_put_43 : decode cX3_put 43 = .ok (.ireturn, 1) := by decide +kernel
theorem dX3_wind_0 : decode cX3_wind 0 = .ok (.iload_n 1, 1) := by decide +kernel
theorem dX3_wind_1 : decode cX3_wind 1 = .ok (.invokestatic 69, 3) := by decide +kernel
theorem dX3_wind_4 : decode cX3_wind 4 = .ok (.ifCond .eq 12, 3) := by decide +kernel
theorem dX3_wind_7 : decode cX3_wind 7 = .ok (.iload_n 2, 1) := by decide +kernel
theorem dX3_wind_8 : decode cX3_wind 8 = .ok (.iconst 0, 1) := by decide +kernel
theorem dX3_wind_9 : decode cX3_wind 9 = .ok (.iconst 3, 1) := by decide +kernel
theorem dX3_wind_10 : decode cX3_wind 10 = .ok (.invokestatic 101, 3) := by decide +kernel
theorem dX3_wind_13 : decode cX3_wind 13 = .ok (.goto 4, 3) := by decide +kernel
theorem dX3_wind_16 : decode cX3_wind 16 = .ok (.iconst (-1), 1) := by decide +kernel
theorem dX3_wind_17 : decode cX3_wind 17 = .ok (.istore_n 3, 1) := by decide +kernel
theorem dX3_wind_18 : decode cX3_wind 18 = .ok (.iload_n 3, 1) := by decide +kernel
theorem dX3_wind_19 : decode cX3_wind 19 = .ok (.ifCond .eq 9, 3) := by decide +kernel
theorem dX3_wind_22 : decode cX3_wind 22 = .ok (.aload_n 0, 1) := by decide +kernel
theorem dX3_wind_23 : decode cX3_wind 23 = .ok (.iload_n 3, 1) := by decide +kernel
theorem dX3_wind_24 : decode cX3_wind 24 = .ok (.invokevirtual 51, 3) := by decide +kernel
theorem dX3_wind_27 : decode cX3_wind 27 = .ok (.ireturn, 1) := by decide +kernel
theorem dX3_wind_28 : decode cX3_wind 28 = .ok (.aload_n 0, 1) := by decide +kernel
theorem dX3_wind_29 : decode cX3_wind 29 = .ok (.getfield 10, 3) := by decide +kernel
theorem dX3_wind_32 : decode cX3_wind 32 = .ok (.iload_n 1, 1) := by decide +kernel
theorem dX3_wind_33 : decode cX3_wind 33 = .ok (.invokevirtual 73, 3) := by decide +kernel
theorem dX3_wind_36 : decode cX3_wind 36 = .ok (.istore 4, 2) := by decide +kernel
theorem dX3_wind_38 : decode cX3_wind 38 = .ok (.aload_n 0, 1) := by decide +kernel
theorem dX3_wind_39 : decode cX3_wind 39 = .ok (.getfield 10, 3) := by decide +kernel
theorem dX3_wind_42 : decode cX3_wind 42 = .ok (.iload_n 1, 1) := by decide +kernel
theorem dX3_wind_43 : decode cX3_wind 43 = .ok (.iload_n 2, 1) := by decide +kernel
theorem dX3_wind_44 : decode cX3_wind 44 = .ok (.invokevirtual 105, 3) := by decide +kernel
theorem dX3_wind_47 : decode cX3_wind 47 = .ok (.iload 4, 2) := by decide +kernel
theorem dX3_wind_49 : decode cX3_wind 49 = .ok (.ireturn, 1) := by decide +kernel
theorem dX3_nose_0 : decode cX3_nose 0 = .ok (.iload_n 1, 1) := by decide +kernel
theorem dX3_nose_1 : decode cX3_nose 1 = .ok (.iconst 1, 1) := by decide +kernel
theorem dX3_nose_2 : decode cX3_nose 2 = .ok (.bipush 9, 2) := by decide +kernel
theorem dX3_nose_4 : decode cX3_nose 4 = .ok (.invokestatic 101, 3) := by decide +kernel
theorem dX3_nose_7 : decode cX3_nose 7 = .ok (.istore_n 2, 1) := by decide +kernel
theorem dX3_nose_8 : decode cX3_nose 8 = .ok (.iload_n 2, 1) := by decide +kernel
theorem dX3_nose_9 : decode cX3_nose 9 = .ok (.ifCond .eq 9, 3) := by decide +kernel
theorem dX3_nose_12 : decode cX3_nose 12 = .ok (.aload_n 0, 1) := by decide +kernel
theorem dX3_nose_13 : decode cX3_nose 13 = .ok (.iload_n 2, 1) := by decide +kernel
theorem dX3_nose_14 : decode cX3_nose 14 = .ok (.invokevirtual 51, 3) := by decide +kernel
theorem dX3_nose_17 : decode cX3_nose 17 = .ok (.ireturn, 1) := by decide +kernel
theorem dX3_nose_18 : decode cX3_nose 18 = .ok (.aload_n 0, 1) := by decide +kernel
theorem dX3_nose_19 : decode cX3_nose 19 = .ok (.getfield 10, 3) := by decide +kernel
theorem dX3_nose_22 : decode cX3_nose 22 = .ok (.invokevirtual 108, 3) := by decide +kernel
theorem dX3_nose_25 : decode cX3_nose 25 = .ok (.istore_n 3, 1) := by decide +kernel
theorem dX3_nose_26 : decode cX3_nose 26 = .ok (.aload_n 0, 1) := by decide +kernel
theorem dX3_nose_27 : decode cX3_nose 27 = .ok (.getfield 10, 3) := by decide +kernel
theorem dX3_nose_30 : decode cX3_nose 30 = .ok (.iload_n 1, 1) := by decide +kernel
theorem dX3_nose_31 : decode cX3_nose 31 = .ok (.invokevirtual 111, 3) := by decide +kernel
theorem dX3_nose_34 : decode cX3_nose 34 = .ok (.iload_n 3, 1) := by decide +kernel
theorem dX3_nose_35 : decode cX3_nose 35 = .ok (.ireturn, 1) := by decide +kernel
theorem dX3_pass_0 : decode cX3_pass 0 = .ok (.iload_n 1, 1) := by decide +kernel
theorem dX3_pass_1 : decode cX3_pass 1 = .ok (.iconst 1, 1) := by decide +kernel
theorem dX3_pass_2 : decode cX3_pass 2 = .ok (.bipush 40, 2) := by decide +kernel
theorem dX3_pass_4 : decode cX3_pass 4 = .ok (.bipush 99, 2) := by decide +kernel
theorem dX3_pass_6 : decode cX3_pass 6 = .ok (.aload_n 0, 1) := by decide +kernel
theorem dX3_pass_7 : decode cX3_pass 7 = .ok (.getfield 10, 3) := by decide +kernel
theorem dX3_pass_10 : decode cX3_pass 10 = .ok (.invokevirtual 115, 3) := by decide +kernel
theorem dX3_pass_13 : decode cX3_pass 13 = .ok (.isub, 1) := by decide +kernel
theorem dX3_pass_14 : decode cX3_pass 14 = .ok (.invokestatic 118, 3) := by decide +kernel
theorem dX3_pass_17 : decode cX3_pass 17 = .ok (.invokestatic 101, 3) := by decide +kernel
theorem dX3_pass_20 : decode cX3_pass 20 = .ok (.istore_n 2, 1) := by decide +kernel
theorem dX3_pass_21 : decode cX3_pass 21 = .ok (.iload_n 2, 1) := by decide +kernel
theorem dX3_pass_22 : decode cX3_pass 22 = .ok (.ifCond .eq 9, 3) := by decide +kernel
theorem dX3_pass_25 : decode cX3_pass 25 = .ok (.aload_n 0, 1) := by decide +kernel
theorem dX3_pass_26 : decode cX3_pass 26 = .ok (.iload_n 2, 1) := by decide +kernel
theorem dX3_pass_27 : decode cX3_pass 27 = .ok (.invokevirtual 51, 3) := by decide +kernel
theorem dX3_pass_30 : decode cX3_pass 30 = .ok (.ireturn, 1) := by decide +kernel
theorem dX3_pass_31 : decode cX3_pass 31 = .ok (.aload_n 0, 1) := by decide +kernel
theorem dX3_pass_32 : decode cX3_pass 32 = .ok (.getfield 10, 3) := by decide +kernel
theorem dX3_pass_35 : decode cX3_pass 35 = .ok (.iload_n 1, 1) := by decide +kernel
theorem dX3_pass_36 : decode cX3_pass 36 = .ok (.invokevirtual 124, 3) := by decide +kernel
theorem dX3_pass_39 : decode cX3_pass 39 = .ok (.aload_n 0, 1) := by decide +kernel
theorem dX3_pass_40 : decode cX3_pass 40 = .ok (.getfield 10, 3) := by decide +kernel
theorem dX3_pass_43 : decode cX3_pass 43 = .ok (.invokevirtual 115, 3) := by decide +kernel
theorem dX3_pass_46 : decode cX3_pass 46 = .ok (.ireturn, 1) := by decide +kernel
theorem dX3_rain_0 : decode cX3_rain 0 = .ok (.aload_n 0, 1) := by decide +kernel
theorem dX3_rain_1 : decode cX3_rain 1 = .ok (.getfield 10, 3) := by decide +kernel
theorem dX3_rain_4 : decode cX3_rain 4 = .ok (.invokevirtual 127, 3) := by decide +kernel
theorem dX3_rain_7 : decode cX3_rain 7 = .ok (.ireturn, 1) := by decide +kernel
theorem dX3_age_0 : decode cX3_age 0 = .ok (.aload_n 0, 1) := by decide +kernel
theorem dX3_age_1 : decode cX3_age 1 = .ok (.getfield 10, 3) := by decide +kernel
theorem dX3_age_4 : decode cX3_age 4 = .ok (.iload_n 1, 1) := by decide +kernel
theorem dX3_age_5 : decode cX3_age 5 = .ok (.invokevirtual 82, 3) := by decide +kernel
theorem dX3_age_8 : decode cX3_age 8 = .ok (.ifCond .eq 10, 3) := by decide +kernel
theorem dX3_age_11 : decode cX3_age 11 = .ok (.iload_n 2, 1) := by decide +kernel
theorem dX3_age_12 : decode cX3_age 12 = .ok (.invokestatic 69, 3) := by decide +kernel
theorem dX3_age_15 : decode cX3_age 15 = .ok (.ifCond .ne 9, 3) := by decide +kernel
theorem dX3_age_18 : decode cX3_age 18 = .ok (.aload_n 0, 1) := by decide +kernel
theorem dX3_age_19 : decode cX3_age 19 = .ok (.iconst (-1), 1) := by decide +kernel
theorem dX3_age_20 : decode cX3_age 20 = .ok (.invokevirtual 51, 3) := by decide +kernel
theorem dX3_age_23 : decode cX3_age 23 = .ok (.ireturn, 1) := by decide +kernel
theorem dX3_age_24 : decode cX3_age 24 = .ok (.aload_n 0, 1) := by decide +kernel
theorem dX3_age_25 : decode cX3_age 25 = .ok (.getfield 10, 3) := by decide +kernel
theorem dX3_age_28 : decode cX3_age 28 = .ok (.iload_n 1, 1) := by decide +kernel
theorem dX3_age_29 : decode cX3_age 29 = .ok (.iload_n 2, 1) := by decide +kernel
theorem dX3_age_30 : decode cX3_age 30 = .ok (.iconst 0, 1) := by decide +kernel
theorem dX3_age_31 : decode cX3_age 31 = .ok (.invokevirtual 130, 3) := by decide +kernel
theorem dX3_age_34 : decode cX3_age 34 = .ok (.ireturn, 1) := by decide +kernel
theorem dX3_smelt_0 : decode cX3_smelt 0 = .ok (.iload_n 1, 1) := by decide +kernel
theorem dX3_smelt_1 : decode cX3_smelt 1 = .ok (.invokestatic 69, 3) := by decide +kernel
theorem dX3_smelt_4 : decode cX3_smelt 4 = .ok (.ifCond .ne 9, 3) := by decide +kernel
theorem dX3_smelt_7 : decode cX3_smelt 7 = .ok (.aload_n 0, 1) := by decide +kernel
theorem dX3_smelt_8 : decode cX3_smelt 8 = .ok (.iconst (-1), 1) := by decide +kernel
theorem dX3_smelt_9 : decode cX3_smelt 9 = .ok (.invokevirtual 51, 3) := by decide +kernel
theorem dX3_smelt_12 : decode cX3_smelt 12 = .ok (.ireturn, 1) := by decide +kernel
theorem dX3_smelt_13 : decode cX3_smelt 13 = .ok (.iload_n 2, 1) := by decide +kernel
theorem dX3_smelt_14 : decode cX3_smelt 14 = .ok (.tableswitch 66 0 3 #[30, 39, 48, 57], 30) := by decide +kernel
theorem dX3_smelt_44 : decode cX3_smelt 44 = .ok (.aload_n 0, 1) := by decide +kernel
theorem dX3_smelt_45 : decode cX3_smelt 45 = .ok (.getfield 10, 3) := by decide +kernel
theorem dX3_smelt_48 : decode cX3_smelt 48 = .ok (.iload_n 1, 1) := by decide +kernel
theorem dX3_smelt_49 : decode cX3_smelt 49 = .ok (.invokevirtual 133, 3) := by decide +kernel
theorem dX3_smelt_52 : decode cX3_smelt 52 = .ok (.ireturn, 1) := by decide +kernel
theorem dX3_smelt_53 : decode cX3_smelt 53 = .ok (.aload_n 0, 1) := by decide +kernel
theorem dX3_smelt_54 : decode cX3_smelt 54 = .ok (.getfield 10, 3) := by decide +kernel
theorem dX3_smelt_57 : decode cX3_smelt 57 = .ok (.iload_n 1, 1) := by decide +kernel
theorem dX3_smelt_58 : decode cX3_smelt 58 = .ok (.invokevirtual 136, 3) := by decide +kernel
theorem dX3_smelt_61 : decode cX3_smelt 61 = .ok (.ireturn, 1) := by decide +kernel
theorem dX3_smelt_62 : decode cX3_smelt 62 = .ok (.aload_n 0, 1) := by decide +kernel
theorem dX3_smelt_63 : decode cX3_smelt 63 = .ok (.getfield 10, 3) := by decide +kernel
theorem dX3_smelt_66 : decode cX3_smelt 66 = .ok (.iload_n 1, 1) := by decide +kernel
theorem dX3_smelt_67 : decode cX3_smelt 67 = .ok (.invokevirtual 139, 3) := by decide +kernel
theorem dX3_smelt_70 : decode cX3_smelt 70 = .ok (.ireturn, 1) := by decide +kernel
theorem dX3_smelt_71 : decode cX3_smelt 71 = .ok (.aload_n 0, 1) := by decide +kernel
theorem dX3_smelt_72 : decode cX3_smelt 72 = .ok (.getfield 10, 3) := by decide +kernel
theorem dX3_smelt_75 : decode cX3_smelt 75 = .ok (.iload_n 1, 1) := by decide +kernel
theorem dX3_smelt_76 : decode cX3_smelt 76 = .ok (.invokevirtual 142, 3) := by decide +kernel
theorem dX3_smelt_79 : decode cX3_smelt 79 = .ok (.ireturn, 1) := by decide +kernel
theorem dX3_smelt_80 : decode cX3_smelt 80 = .ok (.aload_n 0, 1) := by decide +kernel
theorem dX3_smelt_81 : decode cX3_smelt 81 = .ok (.bipush (-2), 2) := by decide +kernel
theorem dX3_smelt_83 : decode cX3_smelt 83 = .ok (.invokevirtual 51, 3) := by decide +kernel
theorem dX3_smelt_86 : decode cX3_smelt 86 = .ok (.ireturn, 1) := by decide +kernel
theorem dX3_behind_0 : decode cX3_behind 0 = .ok (.aload_n 0, 1) := by decide +kernel
theorem dX3_behind_1 : decode cX3_behind 1 = .ok (.getfield 10, 3) := by decide +kernel
theorem dX3_behind_4 : decode cX3_behind 4 = .ok (.iload_n 1, 1) := by decide +kernel
theorem dX3_behind_5 : decode cX3_behind 5 = .ok (.invokevirtual 82, 3) := by decide +kernel
theorem dX3_behind_8 : decode cX3_behind 8 = .ok (.ifCond .eq 13, 3) := by decide +kernel
theorem dX3_behind_11 : decode cX3_behind 11 = .ok (.iload_n 2, 1) := by decide +kernel
theorem dX3_behind_12 : decode cX3_behind 12 = .ok (.iconst 0, 1) := by decide +kernel
theorem dX3_behind_13 : decode cX3_behind 13 = .ok (.bipush 40, 2) := by decide +kernel
theorem dX3_behind_15 : decode cX3_behind 15 = .ok (.invokestatic 101, 3) := by decide +kernel
theorem dX3_behind_18 : decode cX3_behind 18 = .ok (.goto 4, 3) := by decide +kernel
theorem dX3_behind_21 : decode cX3_behind 21 = .ok (.iconst (-1), 1) := by decide +kernel
theorem dX3_behind_22 : decode cX3_behind 22 = .ok (.istore_n 3, 1) := by decide +kernel
theorem dX3_behind_23 : decode cX3_behind 23 = .ok (.iload_n 3, 1) := by decide +kernel
theorem dX3_behind_24 : decode cX3_behind 24 = .ok (.ifCond .eq 9, 3) := by decide +kernel
theorem dX3_behind_27 : decode cX3_behind 27 = .ok (.aload_n 0, 1) := by decide +kernel
theorem dX3_behind_28 : decode cX3_behind 28 = .ok (.iload_n 3, 1) := by decide +kernel
theorem dX3_behind_29 : decode cX3_behind 29 = .ok (.invokevirtual 51, 3) := by decide +kernel
theorem dX3_behind_32 : decode cX3_behind 32 = .ok (.ireturn, 1) := by decide +kernel
theorem dX3_behind_33 : decode cX3_behind 33 = .ok (.aload_n 0, 1) := by decide +kernel
theorem dX3_behind_34 : decode cX3_behind 34 = .ok (.iload_n 2, 1) := by decide +kernel
theorem dX3_behind_35 : decode cX3_behind 35 = .ok (.invokevirtual 145, 3) := by decide +kernel
theorem dX3_behind_38 : decode cX3_behind 38 = .ok (.aload_n 0, 1) := by decide +kernel
theorem dX3_behind_39 : decode cX3_behind 39 = .ok (.getfield 16, 3) := by decide +kernel
theorem dX3_behind_42 : decode cX3_behind 42 = .ok (.iload_n 1, 1) := by decide +kernel
theorem dX3_behind_43 : decode cX3_behind 43 = .ok (.invokevirtual 88, 3) := by decide +kernel
theorem dX3_behind_46 : decode cX3_behind 46 = .ok (.ireturn, 1) := by decide +kernel
theorem dX3_freshest_0 : decode cX3_freshest 0 = .ok (.iload_n 1, 1) := by decide +kernel
theorem dX3_freshest_1 : decode cX3_freshest 1 = .ok (.invokestatic 69, 3) := by decide +kernel
theorem dX3_freshest_4 : decode cX3_freshest 4 = .ok (.ifCond .eq 13, 3) := by decide +kernel
theorem dX3_freshest_7 : decode cX3_freshest 7 = .ok (.iload_n 2, 1) := by decide +kernel
theorem dX3_freshest_8 : decode cX3_freshest 8 = .ok (.iconst 0, 1) := by decide +kernel
theorem dX3_freshest_9 : decode cX3_freshest 9 = .ok (.bipush 40, 2) := by decide +kernel
theorem dX3_freshest_11 : decode cX3_freshest 11 = .ok (.invokestatic 101, 3) := by decide +kernel
theorem dX3_freshest_14 : decode cX3_freshest 14 = .ok (.goto 4, 3) := by decide +kernel
theorem dX3_freshest_17 : decode cX3_freshest 17 = .ok (.iconst (-1), 1) := by decide +kernel
theorem dX3_freshest_18 : decode cX3_freshest 18 = .ok (.istore_n 3, 1) := by decide +kernel
theorem dX3_freshest_19 : decode cX3_freshest 19 = .ok (.iload_n 3, 1) := by decide +kernel
theorem dX3_freshest_20 : decode cX3_freshest 20 = .ok (.ifCond .eq 9, 3) := by decide +kernel
theorem dX3_freshest_23 : decode cX3_freshest 23 = .ok (.aload_n 0, 1) := by decide +kernel
theorem dX3_freshest_24 : decode cX3_freshest 24 = .ok (.iload_n 3, 1) := by decide +kernel
theorem dX3_freshest_25 : decode cX3_freshest 25 = .ok (.invokevirtual 51, 3) := by decide +kernel
theorem dX3_freshest_28 : decode cX3_freshest 28 = .ok (.ireturn, 1) := by decide +kernel
theorem dX3_freshest_29 : decode cX3_freshest 29 = .ok (.aload_n 0, 1) := by decide +kernel
theorem dX3_freshest_30 : decode cX3_freshest 30 = .ok (.iload_n 2, 1) := by decide +kernel
theorem dX3_freshest_31 : decode cX3_freshest 31 = .ok (.invokevirtual 145, 3) := by decide +kernel
theorem dX3_freshest_34 : decode cX3_freshest 34 = .ok (.aload_n 0, 1) := by decide +kernel
theorem dX3_freshest_35 : decode cX3_freshest 35 = .ok (.getfield 16, 3) := by decide +kernel
theorem dX3_freshest_38 : decode cX3_freshest 38 = .ok (.iload_n 1, 1) := by decide +kernel
theorem dX3_freshest_39 : decode cX3_freshest 39 = .ok (.invokevirtual 136, 3) := by decide +kernel
theorem dX3_freshest_42 : decode cX3_freshest 42 = .ok (.ireturn, 1) := by decide +kernel
theorem dX3_meet_0 : decode cX3_meet 0 = .ok (.aload_n 0, 1) := by decide +kernel
theorem dX3_meet_1 : decode cX3_meet 1 = .ok (.getfield 10, 3) := by decide +kernel
theorem dX3_meet_4 : decode cX3_meet 4 = .ok (.iload_n 1, 1) := by decide +kernel
theorem dX3_meet_5 : decode cX3_meet 5 = .ok (.invokevirtual 82, 3) := by decide +kernel
theorem dX3_meet_8 : decode cX3_meet 8 = .ok (.ifCond .eq 19, 3) := by decide +kernel
theorem dX3_meet_11 : decode cX3_meet 11 = .ok (.aload_n 0, 1) := by decide +kernel
theorem dX3_meet_12 : decode cX3_meet 12 = .ok (.getfield 10, 3) := by decide +kernel
theorem dX3_meet_15 : decode cX3_meet 15 = .ok (.iload_n 2, 1) := by decide +kernel
theorem dX3_meet_16 : decode cX3_meet 16 = .ok (.invokevirtual 82, 3) := by decide +kernel
theorem dX3_meet_19 : decode cX3_meet 19 = .ok (.ifCond .eq 8, 3) := by decide +kernel
theorem dX3_meet_22 : decode cX3_meet 22 = .ok (.iload_n 1, 1) := by decide +kernel
theorem dX3_meet_23 : decode cX3_meet 23 = .ok (.iload_n 2, 1) := by decide +kernel
theorem dX3_meet_24 : decode cX3_meet 24 = .ok (.if_icmp .ne 9, 3) := by decide +kernel
theorem dX3_meet_27 : decode cX3_meet 27 = .ok (.aload_n 0, 1) := by decide +kernel
theorem dX3_meet_28 : decode cX3_meet 28 = .ok (.iconst (-1), 1) := by decide +kernel
theorem dX3_meet_29 : decode cX3_meet 29 = .ok (.invokevirtual 51, 3) := by decide +kernel
theorem dX3_meet_32 : decode cX3_meet 32 = .ok (.ireturn, 1) := by decide +kernel
theorem dX3_meet_33 : decode cX3_meet 33 = .ok (.aload_n 0, 1) := by decide +kernel
theorem dX3_meet_34 : decode cX3_meet 34 = .ok (.getfield 16, 3) := by decide +kernel
theorem dX3_meet_37 : decode cX3_meet 37 = .ok (.aload_n 0, 1) := by decide +kernel
theorem dX3_meet_38 : decode cX3_meet 38 = .ok (.getfield 10, 3) := by decide +kernel
theorem dX3_meet_41 : decode cX3_meet 41 = .ok (.invokevirtual 148, 3) := by decide +kernel
theorem dX3_meet_44 : decode cX3_meet 44 = .ok (.iconst 0, 1) := by decide +kernel
theorem dX3_meet_45 : decode cX3_meet 45 = .ok (.istore_n 3, 1) := by decide +kernel
theorem dX3_meet_46 : decode cX3_meet 46 = .ok (.iload_n 3, 1) := by decide +kernel
theorem dX3_meet_47 : decode cX3_meet 47 = .ok (.bipush 40, 2) := by decide +kernel
theorem dX3_meet_49 : decode cX3_meet 49 = .ok (.if_icmp .gt 38, 3) := by decide +kernel
theorem dX3_meet_52 : decode cX3_meet 52 = .ok (.aload_n 0, 1) := by decide +kernel
theorem dX3_meet_53 : decode cX3_meet 53 = .ok (.getfield 16, 3) := by decide +kernel
theorem dX3_meet_56 : decode cX3_meet 56 = .ok (.iload_n 1, 1) := by decide +kernel
theorem dX3_meet_57 : decode cX3_meet 57 = .ok (.invokevirtual 88, 3) := by decide +kernel
theorem dX3_meet_60 : decode cX3_meet 60 = .ok (.aload_n 0, 1) := by decide +kernel
theorem dX3_meet_61 : decode cX3_meet 61 = .ok (.getfield 16, 3) := by decide +kernel
theorem dX3_meet_64 : decode cX3_meet 64 = .ok (.iload_n 2, 1) := by decide +kernel
theorem dX3_meet_65 : decode cX3_meet 65 = .ok (.invokevirtual 88, 3) := by decide +kernel
theorem dX3_meet_68 : decode cX3_meet 68 = .ok (.if_icmp .ne 5, 3) := by decide +kernel
theorem dX3_meet_71 : decode cX3_meet 71 = .ok (.iload_n 3, 1) := by decide +kernel
theorem dX3_meet_72 : decode cX3_meet 72 = .ok (.ireturn, 1) := by decide +kernel
theorem dX3_meet_73 : decode cX3_meet 73 = .ok (.aload_n 0, 1) := by decide +kernel
theorem dX3_meet_74 : decode cX3_meet 74 = .ok (.getfield 16, 3) := by decide +kernel
theorem dX3_meet_77 : decode cX3_meet 77 = .ok (.iconst 1, 1) := by decide +kernel
theorem dX3_meet_78 : decode cX3_meet 78 = .ok (.invokevirtual 124, 3) := by decide +kernel
theorem dX3_meet_81 : decode cX3_meet 81 = .ok (.iinc 3 1, 3) := by decide +kernel
theorem dX3_meet_84 : decode cX3_meet 84 = .ok (.goto (-38), 3) := by decide +kernel
theorem dX3_meet_87 : decode cX3_meet 87 = .ok (.bipush (-9), 2) := by decide +kernel
theorem dX3_meet_89 : decode cX3_meet 89 = .ok (.ireturn, 1) := by decide +kernel
theorem dX3_scented_0 : decode cX3_scented 0 = .ok (.iload_n 1, 1) := by decide +kernel
theorem dX3_scented_1 : decode cX3_scented 1 = .ok (.iconst 0, 1) := by decide +kernel
theorem dX3_scented_2 : decode cX3_scented 2 = .ok (.bipush 40, 2) := by decide +kernel
theorem dX3_scented_4 : decode cX3_scented 4 = .ok (.invokestatic 101, 3) := by decide +kernel
theorem dX3_scented_7 : decode cX3_scented 7 = .ok (.istore_n 2, 1) := by decide +kernel
theorem dX3_scented_8 : decode cX3_scented 8 = .ok (.iload_n 2, 1) := by decide +kernel
theorem dX3_scented_9 : decode cX3_scented 9 = .ok (.ifCond .eq 9, 3) := by decide +kernel
theorem dX3_scented_12 : decode cX3_scented 12 = .ok (.aload_n 0, 1) := by decide +kernel
theorem dX3_scented_13 : decode cX3_scented 13 = .ok (.iload_n 2, 1) := by decide +kernel
theorem dX3_scented_14 : decode cX3_scented 14 = .ok (.invokevirtual 51, 3) := by decide +kernel
theorem dX3_scented_17 : decode cX3_scented 17 = .ok (.ireturn, 1) := by decide +kernel
theorem dX3_scented_18 : decode cX3_scented 18 = .ok (.aload_n 0, 1) := by decide +kernel
theorem dX3_scented_19 : decode cX3_scented 19 = .ok (.iload_n 1, 1) := by decide +kernel
theorem dX3_scented_20 : decode cX3_scented 20 = .ok (.invokevirtual 145, 3) := by decide +kernel
theorem dX3_scented_23 : decode cX3_scented 23 = .ok (.aload_n 0, 1) := by decide +kernel
theorem dX3_scented_24 : decode cX3_scented 24 = .ok (.getfield 16, 3) := by decide +kernel
theorem dX3_scented_27 : decode cX3_scented 27 = .ok (.invokevirtual 152, 3) := by decide +kernel
theorem dX3_scented_30 : decode cX3_scented 30 = .ok (.ireturn, 1) := by decide +kernel
theorem dX3_walked_0 : decode cX3_walked 0 = .ok (.aload_n 0, 1) := by decide +kernel
theorem dX3_walked_1 : decode cX3_walked 1 = .ok (.iload_n 1, 1) := by decide +kernel
theorem dX3_walked_2 : decode cX3_walked 2 = .ok (.iconst 0, 1) := by decide +kernel
theorem dX3_walked_3 : decode cX3_walked 3 = .ok (.invokevirtual 155, 3) := by decide +kernel
theorem dX3_walked_6 : decode cX3_walked 6 = .ok (.istore_n 2, 1) := by decide +kernel
theorem dX3_walked_7 : decode cX3_walked 7 = .ok (.iload_n 2, 1) := by decide +kernel
theorem dX3_walked_8 : decode cX3_walked 8 = .ok (.ifCond .eq 9, 3) := by decide +kernel
theorem dX3_walked_11 : decode cX3_walked 11 = .ok (.aload_n 0, 1) := by decide +kernel
theorem dX3_walked_12 : decode cX3_walked 12 = .ok (.iload_n 2, 1) := by decide +kernel
theorem dX3_walked_13 : decode cX3_walked 13 = .ok (.invokevirtual 51, 3) := by decide +kernel
theorem dX3_walked_16 : decode cX3_walked 16 = .ok (.ireturn, 1) := by decide +kernel
theorem dX3_walked_17 : decode cX3_walked 17 = .ok (.aload_n 0, 1) := by decide +kernel
theorem dX3_walked_18 : decode cX3_walked 18 = .ok (.getfield 36, 3) := by decide +kernel
theorem dX3_walked_21 : decode cX3_walked 21 = .ok (.aload_n 0, 1) := by decide +kernel
theorem dX3_walked_22 : decode cX3_walked 22 = .ok (.getfield 40, 3) := by decide +kernel
theorem dX3_walked_25 : decode cX3_walked 25 = .ok (.iload_n 1, 1) := by decide +kernel
theorem dX3_walked_26 : decode cX3_walked 26 = .ok (.aload_n 0, 1) := by decide +kernel
theorem dX3_walked_27 : decode cX3_walked 27 = .ok (.getfield 10, 3) := by decide +kernel
theorem dX3_walked_30 : decode cX3_walked 30 = .ok (.invokevirtual 158, 3) := by decide +kernel
theorem dX3_walked_33 : decode cX3_walked 33 = .ok (.aload_n 0, 1) := by decide +kernel
theorem dX3_walked_34 : decode cX3_walked 34 = .ok (.getfield 36, 3) := by decide +kernel
theorem dX3_walked_37 : decode cX3_walked 37 = .ok (.invokevirtual 162, 3) := by decide +kernel
theorem dX3_walked_40 : decode cX3_walked 40 = .ok (.ireturn, 1) := by decide +kernel
theorem dX3_likeliest_0 : decode cX3_likeliest 0 = .ok (.aload_n 0, 1) := by decide +kernel
theorem dX3_likeliest_1 : decode cX3_likeliest 1 = .ok (.iload_n 1, 1) := by decide +kernel
theorem dX3_likeliest_2 : decode cX3_likeliest 2 = .ok (.iload_n 2, 1) := by decide +kernel
theorem dX3_likeliest_3 : decode cX3_likeliest 3 = .ok (.invokevirtual 155, 3) := by decide +kernel
theorem dX3_likeliest_6 : decode cX3_likeliest 6 = .ok (.istore_n 3, 1) := by decide +kernel
theorem dX3_likeliest_7 : decode cX3_likeliest 7 = .ok (.iload_n 3, 1) := by decide +kernel
theorem dX3_likeliest_8 : decode cX3_likeliest 8 = .ok (.ifCond .eq 9, 3) := by decide +kernel
theorem dX3_likeliest_11 : decode cX3_likeliest 11 = .ok (.aload_n 0, 1) := by decide +kernel
theorem dX3_likeliest_12 : decode cX3_likeliest 12 = .ok (.iload_n 3, 1) := by decide +kernel
theorem dX3_likeliest_13 : decode cX3_likeliest 13 = .ok (.invokevirtual 51, 3) := by decide +kernel
theorem dX3_likeliest_16 : decode cX3_likeliest 16 = .ok (.ireturn, 1) := by decide +kernel
theorem dX3_likeliest_17 : decode cX3_likeliest 17 = .ok (.aload_n 0, 1) := by decide +kernel
theorem dX3_likeliest_18 : decode cX3_likeliest 18 = .ok (.getfield 36, 3) := by decide +kernel
theorem dX3_likeliest_21 : decode cX3_likeliest 21 = .ok (.aload_n 0, 1) := by decide +kernel
theorem dX3_likeliest_22 : decode cX3_likeliest 22 = .ok (.getfield 40, 3) := by decide +kernel
theorem dX3_likeliest_25 : decode cX3_likeliest 25 = .ok (.iload_n 1, 1) := by decide +kernel
theorem dX3_likeliest_26 : decode cX3_likeliest 26 = .ok (.aload_n 0, 1) := by decide +kernel
theorem dX3_likeliest_27 : decode cX3_likeliest 27 = .ok (.getfield 10, 3) := by decide +kernel
theorem dX3_likeliest_30 : decode cX3_likeliest 30 = .ok (.invokevirtual 158, 3) := by decide +kernel
theorem dX3_likeliest_33 : decode cX3_likeliest 33 = .ok (.aload_n 0, 1) := by decide +kernel
theorem dX3_likeliest_34 : decode cX3_likeliest 34 = .ok (.getfield 36, 3) := by decide +kernel
theorem dX3_likeliest_37 : decode cX3_likeliest 37 = .ok (.iload_n 2, 1) := by decide +kernel
theorem dX3_likeliest_38 : decode cX3_likeliest 38 = .ok (.invokevirtual 165, 3) := by decide +kernel
theorem dX3_likeliest_41 : decode cX3_likeliest 41 = .ok (.ireturn, 1) := by decide +kernel
theorem dX3_sure_0 : decode cX3_sure 0 = .ok (.aload_n 0, 1) := by decide +kernel
theorem dX3_sure_1 : decode cX3_sure 1 = .ok (.iload_n 1, 1) := by decide +kernel
theorem dX3_sure_2 : decode cX3_sure 2 = .ok (.iload_n 2, 1) := by decide +kernel
theorem dX3_sure_3 : decode cX3_sure 3 = .ok (.invokevirtual 155, 3) := by decide +kernel
theorem dX3_sure_6 : decode cX3_sure 6 = .ok (.istore_n 3, 1) := by decide +kernel
theorem dX3_sure_7 : decode cX3_sure 7 = .ok (.iload_n 3, 1) := by decide +kernel
theorem dX3_sure_8 : decode cX3_sure 8 = .ok (.ifCond .eq 9, 3) := by decide +kernel
theorem dX3_sure_11 : decode cX3_sure 11 = .ok (.aload_n 0, 1) := by decide +kernel
theorem dX3_sure_12 : decode cX3_sure 12 = .ok (.iload_n 3, 1) := by decide +kernel
theorem dX3_sure_13 : decode cX3_sure 13 = .ok (.invokevirtual 51, 3) := by decide +kernel
theorem dX3_sure_16 : decode cX3_sure 16 = .ok (.ireturn, 1) := by decide +kernel
theorem dX3_sure_17 : decode cX3_sure 17 = .ok (.aload_n 0, 1) := by decide +kernel
theorem dX3_sure_18 : decode cX3_sure 18 = .ok (.getfield 36, 3) := by decide +kernel
theorem dX3_sure_21 : decode cX3_sure 21 = .ok (.aload_n 0, 1) := by decide +kernel
theorem dX3_sure_22 : decode cX3_sure 22 = .ok (.getfield 40, 3) := by decide +kernel
theorem dX3_sure_25 : decode cX3_sure 25 = .ok (.iload_n 1, 1) := by decide +kernel
theorem dX3_sure_26 : decode cX3_sure 26 = .ok (.aload_n 0, 1) := by decide +kernel
theorem dX3_sure_27 : decode cX3_sure 27 = .ok (.getfield 10, 3) := by decide +kernel
theorem dX3_sure_30 : decode cX3_sure 30 = .ok (.invokevirtual 158, 3) := by decide +kernel
theorem dX3_sure_33 : decode cX3_sure 33 = .ok (.aload_n 0, 1) := by decide +kernel
theorem dX3_sure_34 : decode cX3_sure 34 = .ok (.getfield 36, 3) := by decide +kernel
theorem dX3_sure_37 : decode cX3_sure 37 = .ok (.iload_n 2, 1) := by decide +kernel
theorem dX3_sure_38 : decode cX3_sure 38 = .ok (.invokevirtual 168, 3) := by decide +kernel
theorem dX3_sure_41 : decode cX3_sure 41 = .ok (.ireturn, 1) := by decide +kernel
theorem dX3_across_0 : decode cX3_across 0 = .ok (.iload_n 1, 1) := by decide +kernel
theorem dX3_across_1 : decode cX3_across 1 = .ok (.invokestatic 69, 3) := by decide +kernel
theorem dX3_across_4 : decode cX3_across 4 = .ok (.ifCond .eq 10, 3) := by decide +kernel
theorem dX3_across_7 : decode cX3_across 7 = .ok (.iload_n 2, 1) := by decide +kernel
theorem dX3_across_8 : decode cX3_across 8 = .ok (.invokestatic 69, 3) := by decide +kernel
theorem dX3_across_11 : decode cX3_across 11 = .ok (.ifCond .ne 9, 3) := by decide +kernel
theorem dX3_across_14 : decode cX3_across 14 = .ok (.aload_n 0, 1) := by decide +kernel
theorem dX3_across_15 : decode cX3_across 15 = .ok (.iconst (-1), 1) := by decide +kernel
theorem dX3_across_16 : decode cX3_across 16 = .ok (.invokevirtual 51, 3) := by decide +kernel
theorem dX3_across_19 : decode cX3_across 19 = .ok (.ireturn, 1) := by decide +kernel
theorem dX3_across_20 : decode cX3_across 20 = .ok (.aload_n 0, 1) := by decide +kernel
theorem dX3_across_21 : decode cX3_across 21 = .ok (.iload_n 1, 1) := by decide +kernel
theorem dX3_across_22 : decode cX3_across 22 = .ok (.iload_n 2, 1) := by decide +kernel
theorem dX3_across_23 : decode cX3_across 23 = .ok (.iconst 0, 1) := by decide +kernel
theorem dX3_across_24 : decode cX3_across 24 = .ok (.invokevirtual 171, 3) := by decide +kernel
theorem dX3_across_27 : decode cX3_across 27 = .ok (.ireturn, 1) := by decide +kernel
theorem dX3_covered_0 : decode cX3_covered 0 = .ok (.iload_n 1, 1) := by decide +kernel
theorem dX3_covered_1 : decode cX3_covered 1 = .ok (.invokestatic 69, 3) := by decide +kernel
theorem dX3_covered_4 : decode cX3_covered 4 = .ok (.ifCond .eq 10, 3) := by decide +kernel
theorem dX3_covered_7 : decode cX3_covered 7 = .ok (.iload_n 2, 1) := by decide +kernel
theorem dX3_covered_8 : decode cX3_covered 8 = .ok (.invokestatic 69, 3) := by decide +kernel
theorem dX3_covered_11 : decode cX3_covered 11 = .ok (.ifCond .ne 9, 3) := by decide +kernel
theorem dX3_covered_14 : decode cX3_covered 14 = .ok (.aload_n 0, 1) := by decide +kernel
theorem dX3_covered_15 : decode cX3_covered 15 = .ok (.iconst (-1), 1) := by decide +kernel
theorem dX3_covered_16 : decode cX3_covered 16 = .ok (.invokevirtual 51, 3) := by decide +kernel
theorem dX3_covered_19 : decode cX3_covered 19 = .ok (.ireturn, 1) := by decide +kernel
theorem dX3_covered_20 : decode cX3_covered 20 = .ok (.aload_n 0, 1) := by decide +kernel
theorem dX3_covered_21 : decode cX3_covered 21 = .ok (.iload_n 1, 1) := by decide +kernel
theorem dX3_covered_22 : decode cX3_covered 22 = .ok (.iload_n 2, 1) := by decide +kernel
theorem dX3_covered_23 : decode cX3_covered 23 = .ok (.iconst 1, 1) := by decide +kernel
theorem dX3_covered_24 : decode cX3_covered 24 = .ok (.invokevirtual 171, 3) := by decide +kernel
theorem dX3_covered_27 : decode cX3_covered 27 = .ok (.ireturn, 1) := by decide +kernel
theorem dX3_told_0 : decode cX3_told 0 = .ok (.iload_n 1, 1) := by decide +kernel
theorem dX3_told_1 : decode cX3_told 1 = .ok (.invokestatic 69, 3) := by decide +kernel
theorem dX3_told_4 : decode cX3_told 4 = .ok (.ifCond .ne 9, 3) := by decide +kernel
theorem dX3_told_7 : decode cX3_told 7 = .ok (.aload_n 0, 1) := by decide +kernel
theorem dX3_told_8 : decode cX3_told 8 = .ok (.iconst (-1), 1) := by decide +kernel
theorem dX3_told_9 : decode cX3_told 9 = .ok (.invokevirtual 51, 3) := by decide +kernel
theorem dX3_told_12 : decode cX3_told 12 = .ok (.ireturn, 1) := by decide +kernel
theorem dX3_told_13 : decode cX3_told 13 = .ok (.aload_n 0, 1) := by decide +kernel
theorem dX3_told_14 : decode cX3_told 14 = .ok (.getfield 10, 3) := by decide +kernel
theorem dX3_told_17 : decode cX3_told 17 = .ok (.iload_n 1, 1) := by decide +kernel
theorem dX3_told_18 : decode cX3_told 18 = .ok (.invokevirtual 133, 3) := by decide +kernel
theorem dX3_told_21 : decode cX3_told 21 = .ok (.iconst 2, 1) := by decide +kernel
theorem dX3_told_22 : decode cX3_told 22 = .ok (.if_icmp .ge 6, 3) := by decide +kernel
theorem dX3_told_25 : decode cX3_told 25 = .ok (.bipush (-9), 2) := by decide +kernel
theorem dX3_told_27 : decode cX3_told 27 = .ok (.ireturn, 1) := by decide +kernel
theorem dX3_told_28 : decode cX3_told 28 = .ok (.iconst 0, 1) := by decide +kernel
theorem dX3_told_29 : decode cX3_told 29 = .ok (.istore_n 2, 1) := by decide +kernel
theorem dX3_told_30 : decode cX3_told 30 = .ok (.iload_n 2, 1) := by decide +kernel
theorem dX3_told_31 : decode cX3_told 31 = .ok (.bipush 40, 2) := by decide +kernel
theorem dX3_told_33 : decode cX3_told 33 = .ok (.if_icmp .gt 23, 3) := by decide +kernel
theorem dX3_told_36 : decode cX3_told 36 = .ok (.aload_n 0, 1) := by decide +kernel
theorem dX3_told_37 : decode cX3_told 37 = .ok (.getfield 10, 3) := by decide +kernel
theorem dX3_told_40 : decode cX3_told 40 = .ok (.iload_n 1, 1) := by decide +kernel
theorem dX3_told_41 : decode cX3_told 41 = .ok (.iload_n 2, 1) := by decide +kernel
theorem dX3_told_42 : decode cX3_told 42 = .ok (.invokevirtual 175, 3) := by decide +kernel
theorem dX3_told_45 : decode cX3_told 45 = .ok (.ifCond .ne 5, 3) := by decide +kernel
theorem dX3_told_48 : decode cX3_told 48 = .ok (.iload_n 2, 1) := by decide +kernel
theorem dX3_told_49 : decode cX3_told 49 = .ok (.ireturn, 1) := by decide +kernel
theorem dX3_told_50 : decode cX3_told 50 = .ok (.iinc 2 1, 3) := by decide +kernel
theorem dX3_told_53 : decode cX3_told 53 = .ok (.goto (-23), 3) := by decide +kernel
theorem dX3_told_56 : decode cX3_told 56 = .ok (.bipush 41, 2) := by decide +kernel
theorem dX3_told_58 : decode cX3_told 58 = .ok (.ireturn, 1) := by decide +kernel
theorem dX3_row_0 : decode cX3_row 0 = .ok (.iload_n 1, 1) := by decide +kernel
theorem dX3_row_1 : decode cX3_row 1 = .ok (.ifCond .ge 10, 3) := by decide +kernel
theorem dX3_row_4 : decode cX3_row 4 = .ok (.aload_n 0, 1) := by decide +kernel
theorem dX3_row_5 : decode cX3_row 5 = .ok (.bipush (-4), 2) := by decide +kernel
theorem dX3_row_7 : decode cX3_row 7 = .ok (.invokevirtual 51, 3) := by decide +kernel
theorem dX3_row_10 : decode cX3_row 10 = .ok (.ireturn, 1) := by decide +kernel
theorem dX3_row_11 : decode cX3_row 11 = .ok (.iload_n 1, 1) := by decide +kernel
theorem dX3_row_12 : decode cX3_row 12 = .ok (.bipush 30, 2) := by decide +kernel
theorem dX3_row_14 : decode cX3_row 14 = .ok (.if_icmp .gt 12, 3) := by decide +kernel
theorem dX3_row_17 : decode cX3_row 17 = .ok (.aload_n 0, 1) := by decide +kernel
theorem dX3_row_18 : decode cX3_row 18 = .ok (.getfield 44, 3) := by decide +kernel
theorem dX3_row_21 : decode cX3_row 21 = .ok (.bipush 12, 2) := by decide +kernel
theorem dX3_row_23 : decode cX3_row 23 = .ok (.if_icmp .lt 10, 3) := by decide +kernel
theorem dX3_row_26 : decode cX3_row 26 = .ok (.aload_n 0, 1) := by decide +kernel
theorem dX3_row_27 : decode cX3_row 27 = .ok (.bipush (-6), 2) := by decide +kernel
theorem dX3_row_29 : decode cX3_row 29 = .ok (.invokevirtual 51, 3) := by decide +kernel
theorem dX3_row_32 : decode cX3_row 32 = .ok (.ireturn, 1) := by decide +kernel
theorem dX3_row_33 : decode cX3_row 33 = .ok (.aload_n 0, 1) := by decide +kernel
theorem dX3_row_34 : decode cX3_row 34 = .ok (.getfield 40, 3) := by decide +kernel
theorem dX3_row_37 : decode cX3_row 37 = .ok (.aload_n 0, 1) := by decide +kernel
theorem dX3_row_38 : decode cX3_row 38 = .ok (.getfield 44, 3) := by decide +kernel
theorem dX3_row_41 : decode cX3_row 41 = .ok (.iload_n 1, 1) := by decide +kernel
theorem dX3_row_42 : decode cX3_row 42 = .ok (.iastore, 1) := by decide +kernel
theorem dX3_row_43 : decode cX3_row 43 = .ok (.aload_n 0, 1) := by decide +kernel
theorem dX3_row_44 : decode cX3_row 44 = .ok (.dup, 1) := by decide +kernel
theorem dX3_row_45 : decode cX3_row 45 = .ok (.getfield 44, 3) := by decide +kernel
theorem dX3_row_48 : decode cX3_row 48 = .ok (.iconst 1, 1) := by decide +kernel
theorem dX3_row_49 : decode cX3_row 49 = .ok (.iadd, 1) := by decide +kernel
theorem dX3_row_50 : decode cX3_row 50 = .ok (.putfield 44, 3) := by decide +kernel
theorem dX3_row_53 : decode cX3_row 53 = .ok (.aload_n 0, 1) := by decide +kernel
theorem dX3_row_54 : decode cX3_row 54 = .ok (.getfield 44, 3) := by decide +kernel
theorem dX3_row_57 : decode cX3_row 57 = .ok (.ireturn, 1) := by decide +kernel
theorem dX3_judge_0 : decode cX3_judge 0 = .ok (.aload_n 0, 1) := by decide +kernel
theorem dX3_judge_1 : decode cX3_judge 1 = .ok (.invokevirtual 179, 3) := by decide +kernel
theorem dX3_judge_4 : decode cX3_judge 4 = .ok (.istore_n 1, 1) := by decide +kernel
theorem dX3_judge_5 : decode cX3_judge 5 = .ok (.aload_n 0, 1) := by decide +kernel
theorem dX3_judge_6 : decode cX3_judge 6 = .ok (.iconst 0, 1) := by decide +kernel
theorem dX3_judge_7 : decode cX3_judge 7 = .ok (.putfield 44, 3) := by decide +kernel
theorem dX3_judge_10 : decode cX3_judge 10 = .ok (.iload_n 1, 1) := by decide +kernel
theorem dX3_judge_11 : decode cX3_judge 11 = .ok (.ireturn, 1) := by decide +kernel
theorem dX3_clear_0 : decode cX3_clear 0 = .ok (.aload_n 0, 1) := by decide +kernel
theorem dX3_clear_1 : decode cX3_clear 1 = .ok (.getfield 44, 3) := by decide +kernel
theorem dX3_clear_4 : decode cX3_clear 4 = .ok (.istore_n 1, 1) := by decide +kernel
theorem dX3_clear_5 : decode cX3_clear 5 = .ok (.aload_n 0, 1) := by decide +kernel
theorem dX3_clear_6 : decode cX3_clear 6 = .ok (.iconst 0, 1) := by decide +kernel
theorem dX3_clear_7 : decode cX3_clear 7 = .ok (.putfield 44, 3) := by decide +kernel
theorem dX3_clear_10 : decode cX3_clear 10 = .ok (.iload_n 1, 1) := by decide +kernel
theorem dX3_clear_11 : decode cX3_clear 11 = .ok (.ireturn, 1) := by decide +kernel
theorem dX3_seeds_0 : decode cX3_seeds 0 = .ok (.iload_n 3, 1) := by decide +kernel
theorem dX3_seeds_1 : decode cX3_seeds 1 = .ok (.invokestatic 69, 3) := by decide +kernel
theorem dX3_seeds_4 : decode cX3_seeds 4 = .ok (.ifCond .eq 13, 3) := by decide +kernel
theorem dX3_seeds_7 : decode cX3_seeds 7 = .ok (.iload_n 1, 1) := by decide +kernel
theorem dX3_seeds_8 : decode cX3_seeds 8 = .ok (.iconst 1, 1) := by decide +kernel
theorem dX3_seeds_9 : decode cX3_seeds 9 = .ok (.bipush 30, 2) := by decide +kernel
theorem dX3_seeds_11 : decode cX3_seeds 11 = .ok (.invokestatic 101, 3) := by decide +kernel
theorem dX3_seeds_14 : decode cX3_seeds 14 = .ok (.goto 4, 3) := by decide +kernel
theorem dX3_seeds_17 : decode cX3_seeds 17 = .ok (.iconst (-1), 1) := by decide +kernel
theorem dX3_seeds_18 : decode cX3_seeds 18 = .ok (.istore 4, 2) := by decide +kernel
theorem dX3_seeds_20 : decode cX3_seeds 20 = .ok (.iload 4, 2) := by decide +kernel
theorem dX3_seeds_22 : decode cX3_seeds 22 = .ok (.ifCond .eq 10, 3) := by decide +kernel
theorem dX3_seeds_25 : decode cX3_seeds 25 = .ok (.aload_n 0, 1) := by decide +kernel
theorem dX3_seeds_26 : decode cX3_seeds 26 = .ok (.iload 4, 2) := by decide +kernel
theorem dX3_seeds_28 : decode cX3_seeds 28 = .ok (.invokevirtual 51, 3) := by decide +kernel
theorem dX3_seeds_31 : decode cX3_seeds 31 = .ok (.ireturn, 1) := by decide +kernel
theorem dX3_seeds_32 : decode cX3_seeds 32 = .ok (.aload_n 0, 1) := by decide +kernel
theorem dX3_seeds_33 : decode cX3_seeds 33 = .ok (.getfield 16, 3) := by decide +kernel
theorem dX3_seeds_36 : decode cX3_seeds 36 = .ok (.aload_n 0, 1) := by decide +kernel
theorem dX3_seeds_37 : decode cX3_seeds 37 = .ok (.getfield 10, 3) := by decide +kernel
theorem dX3_seeds_40 : decode cX3_seeds 40 = .ok (.invokevirtual 148, 3) := by decide +kernel
theorem dX3_seeds_43 : decode cX3_seeds 43 = .ok (.iload_n 2, 1) := by decide +kernel
theorem dX3_seeds_44 : decode cX3_seeds 44 = .ok (.istore 5, 2) := by decide +kernel
theorem dX3_seeds_46 : decode cX3_seeds 46 = .ok (.iconst 0, 1) := by decide +kernel
theorem dX3_seeds_47 : decode cX3_seeds 47 = .ok (.istore 6, 2) := by decide +kernel
theorem dX3_seeds_49 : decode cX3_seeds 49 = .ok (.iload 6, 2) := by decide +kernel
theorem dX3_seeds_51 : decode cX3_seeds 51 = .ok (.iload_n 1, 1) := by decide +kernel
theorem dX3_seeds_52 : decode cX3_seeds 52 = .ok (.if_icmp .ge 28, 3) := by decide +kernel
theorem dX3_seeds_55 : decode cX3_seeds 55 = .ok (.aload_n 0, 1) := by decide +kernel
theorem dX3_seeds_56 : decode cX3_seeds 56 = .ok (.getfield 16, 3) := by decide +kernel
theorem dX3_seeds_59 : decode cX3_seeds 59 = .ok (.iload 5, 2) := by decide +kernel
theorem dX3_seeds_61 : decode cX3_seeds 61 = .ok (.invokevirtual 182, 3) := by decide +kernel
theorem dX3_seeds_64 : decode cX3_seeds 64 = .ok (.istore 5, 2) := by decide +kernel
theorem dX3_seeds_66 : decode cX3_seeds 66 = .ok (.aload_n 0, 1) := by decide +kernel
theorem dX3_seeds_67 : decode cX3_seeds 67 = .ok (.getfield 16, 3) := by decide +kernel
theorem dX3_seeds_70 : decode cX3_seeds 70 = .ok (.iconst 1, 1) := by decide +kernel
theorem dX3_seeds_71 : decode cX3_seeds 71 = .ok (.invokevirtual 124, 3) := by decide +kernel
theorem dX3_seeds_74 : decode cX3_seeds 74 = .ok (.iinc 6 1, 3) := by decide +kernel
theorem dX3_seeds_77 : decode cX3_seeds 77 = .ok (.goto (-28), 3) := by decide +kernel
theorem dX3_seeds_80 : decode cX3_seeds 80 = .ok (.aload_n 0, 1) := by decide +kernel
theorem dX3_seeds_81 : decode cX3_seeds 81 = .ok (.getfield 16, 3) := by decide +kernel
theorem dX3_seeds_84 : decode cX3_seeds 84 = .ok (.iload_n 3, 1) := by decide +kernel
theorem dX3_seeds_85 : decode cX3_seeds 85 = .ok (.invokevirtual 142, 3) := by decide +kernel
theorem dX3_seeds_88 : decode cX3_seeds 88 = .ok (.ireturn, 1) := by decide +kernel
theorem dX3_image_0 : decode cX3_image 0 = .ok (.aload_n 0, 1) := by decide +kernel
theorem dX3_image_1 : decode cX3_image 1 = .ok (.getfield 19, 3) := by decide +kernel
theorem dX3_image_4 : decode cX3_image 4 = .ok (.aload_n 0, 1) := by decide +kernel
theorem dX3_image_5 : decode cX3_image 5 = .ok (.getfield 10, 3) := by decide +kernel
theorem dX3_image_8 : decode cX3_image 8 = .ok (.invokevirtual 148, 3) := by decide +kernel
theorem dX3_image_11 : decode cX3_image 11 = .ok (.aload_n 0, 1) := by decide +kernel
theorem dX3_image_12 : decode cX3_image 12 = .ok (.iconst 1, 1) := by decide +kernel
theorem dX3_image_13 : decode cX3_image 13 = .ok (.putfield 22, 3) := by decide +kernel
theorem dX3_image_16 : decode cX3_image 16 = .ok (.aload_n 0, 1) := by decide +kernel
theorem dX3_image_17 : decode cX3_image 17 = .ok (.getfield 10, 3) := by decide +kernel
theorem dX3_image_20 : decode cX3_image 20 = .ok (.invokevirtual 115, 3) := by decide +kernel
theorem dX3_image_23 : decode cX3_image 23 = .ok (.ireturn, 1) := by decide +kernel
theorem dX3_on_0 : decode cX3_on 0 = .ok (.aload_n 0, 1) := by decide +kernel
theorem dX3_on_1 : decode cX3_on 1 = .ok (.getfield 22, 3) := by decide +kernel
theorem dX3_on_4 : decode cX3_on 4 = .ok (.ifCond .ne 10, 3) := by decide +kernel
theorem dX3_on_7 : decode cX3_on 7 = .ok (.aload_n 0, 1) := by decide +kernel
theorem dX3_on_8 : decode cX3_on 8 = .ok (.bipush (-3), 2) := by decide +kernel
theorem dX3_on_10 : decode cX3_on 10 = .ok (.invokevirtual 51, 3) := by decide +kernel
theorem dX3_on_13 : decode cX3_on 13 = .ok (.ireturn, 1) := by decide +kernel
theorem dX3_on_14 : decode cX3_on 14 = .ok (.aload_n 0, 1) := by decide +kernel
theorem dX3_on_15 : decode cX3_on 15 = .ok (.getfield 10, 3) := by decide +kernel
theorem dX3_on_18 : decode cX3_on 18 = .ok (.aload_n 0, 1) := by decide +kernel
theorem dX3_on_19 : decode cX3_on 19 = .ok (.getfield 19, 3) := by decide +kernel
theorem dX3_on_22 : decode cX3_on 22 = .ok (.invokevirtual 148, 3) := by decide +kernel
theorem dX3_on_25 : decode cX3_on 25 = .ok (.aload_n 0, 1) := by decide +kernel
theorem dX3_on_26 : decode cX3_on 26 = .ok (.getfield 10, 3) := by decide +kernel
theorem dX3_on_29 : decode cX3_on 29 = .ok (.invokevirtual 115, 3) := by decide +kernel
theorem dX3_on_32 : decode cX3_on 32 = .ok (.ireturn, 1) := by decide +kernel
theorem dX3_count_0 : decode cX3_count 0 = .ok (.iload_n 1, 1) := by decide +kernel
theorem dX3_count_1 : decode cX3_count 1 = .ok (.tableswitch 96 0 6 #[43, 51, 59, 67, 75, 83, 88], 43) := by decide +kernel
theorem dX3_count_44 : decode cX3_count 44 = .ok (.aload_n 0, 1) := by decide +kernel
theorem dX3_count_45 : decode cX3_count 45 = .ok (.getfield 10, 3) := by decide +kernel
theorem dX3_count_48 : decode cX3_count 48 = .ok (.invokevirtual 185, 3) := by decide +kernel
theorem dX3_count_51 : decode cX3_count 51 = .ok (.ireturn, 1) := by decide +kernel
theorem dX3_count_52 : decode cX3_count 52 = .ok (.aload_n 0, 1) := by decide +kernel
theorem dX3_count_53 : decode cX3_count 53 = .ok (.getfield 10, 3) := by decide +kernel
theorem dX3_count_56 : decode cX3_count 56 = .ok (.invokevirtual 188, 3) := by decide +kernel
theorem dX3_count_59 : decode cX3_count 59 = .ok (.ireturn, 1) := by decide +kernel
theorem dX3_count_60 : decode cX3_count 60 = .ok (.aload_n 0, 1) := by decide +kernel
theorem dX3_count_61 : decode cX3_count 61 = .ok (.getfield 10, 3) := by decide +kernel
theorem dX3_count_64 : decode cX3_count 64 = .ok (.invokevirtual 115, 3) := by decide +kernel
theorem dX3_count_67 : decode cX3_count 67 = .ok (.ireturn, 1) := by decide +kernel
theorem dX3_count_68 : decode cX3_count 68 = .ok (.aload_n 0, 1) := by decide +kernel
theorem dX3_count_69 : decode cX3_count 69 = .ok (.getfield 10, 3) := by decide +kernel
theorem dX3_count_72 : decode cX3_count 72 = .ok (.invokevirtual 108, 3) := by decide +kernel
theorem dX3_count_75 : decode cX3_count 75 = .ok (.ireturn, 1) := by decide +kernel
theorem dX3_count_76 : decode cX3_count 76 = .ok (.aload_n 0, 1) := by decide +kernel
theorem dX3_count_77 : decode cX3_count 77 = .ok (.getfield 10, 3) := by decide +kernel
theorem dX3_count_80 : decode cX3_count 80 = .ok (.invokevirtual 191, 3) := by decide +kernel
theorem dX3_count_83 : decode cX3_count 83 = .ok (.ireturn, 1) := by decide +kernel
theorem dX3_count_84 : decode cX3_count 84 = .ok (.aload_n 0, 1) := by decide +kernel
theorem dX3_count_85 : decode cX3_count 85 = .ok (.getfield 44, 3) := by decide +kernel
theorem dX3_count_88 : decode cX3_count 88 = .ok (.ireturn, 1) := by decide +kernel
theorem dX3_count_89 : decode cX3_count 89 = .ok (.aload_n 0, 1) := by decide +kernel
theorem dX3_count_90 : decode cX3_count 90 = .ok (.getfield 29, 3) := by decide +kernel
theorem dX3_count_93 : decode cX3_count 93 = .ok (.invokevirtual 194, 3) := by decide +kernel
theorem dX3_count_96 : decode cX3_count 96 = .ok (.ireturn, 1) := by decide +kernel
theorem dX3_count_97 : decode cX3_count 97 = .ok (.iload_n 1, 1) := by decide +kernel
theorem dX3_count_98 : decode cX3_count 98 = .ok (.bipush 10, 2) := by decide +kernel
theorem dX3_count_100 : decode cX3_count 100 = .ok (.if_icmp .le 21, 3) := by decide +kernel
theorem dX3_count_103 : decode cX3_count 103 = .ok (.iload_n 1, 1) := by decide +kernel
theorem dX3_count_104 : decode cX3_count 104 = .ok (.bipush 16, 2) := by decide +kernel
theorem dX3_count_106 : decode cX3_count 106 = .ok (.if_icmp .gt 15, 3) := by decide +kernel
theorem dX3_count_109 : decode cX3_count 109 = .ok (.aload_n 0, 1) := by decide +kernel
theorem dX3_count_110 : decode cX3_count 110 = .ok (.getfield 48, 3) := by decide +kernel
theorem dX3_count_113 : decode cX3_count 113 = .ok (.iload_n 1, 1) := by decide +kernel
theorem dX3_count_114 : decode cX3_count 114 = .ok (.bipush 10, 2) := by decide +kernel
theorem dX3_count_116 : decode cX3_count 116 = .ok (.isub, 1) := by decide +kernel
theorem dX3_count_117 : decode cX3_count 117 = .ok (.iaload, 1) := by decide +kernel
theorem dX3_count_118 : decode cX3_count 118 = .ok (.goto 5, 3) := by decide +kernel
theorem dX3_count_121 : decode cX3_count 121 = .ok (.bipush (-9), 2) := by decide +kernel
theorem dX3_count_123 : decode cX3_count 123 = .ok (.ireturn, 1) := by decide +kernel
theorem dX3_refuse_0 : decode cX3_refuse 0 = .ok (.aload_n 0, 1) := by decide +kernel
theorem dX3_refuse_1 : decode cX3_refuse 1 = .ok (.getfield 48, 3) := by decide +kernel
theorem dX3_refuse_4 : decode cX3_refuse 4 = .ok (.iload_n 1, 1) := by decide +kernel
theorem dX3_refuse_5 : decode cX3_refuse 5 = .ok (.ineg, 1) := by decide +kernel
theorem dX3_refuse_6 : decode cX3_refuse 6 = .ok (.dup2, 1) := by decide +kernel
theorem dX3_refuse_7 : decode cX3_refuse 7 = .ok (.iaload, 1) := by decide +kernel
theorem dX3_refuse_8 : decode cX3_refuse 8 = .ok (.iconst 1, 1) := by decide +kernel
theorem dX3_refuse_9 : decode cX3_refuse 9 = .ok (.iadd, 1) := by decide +kernel
theorem dX3_refuse_10 : decode cX3_refuse 10 = .ok (.iastore, 1) := by decide +kernel
theorem dX3_refuse_11 : decode cX3_refuse 11 = .ok (.iload_n 1, 1) := by decide +kernel
theorem dX3_refuse_12 : decode cX3_refuse 12 = .ok (.ireturn, 1) := by decide +kernel
theorem dX3_isRoom_0 : decode cX3_isRoom 0 = .ok (.iload_n 0, 1) := by decide +kernel
theorem dX3_isRoom_1 : decode cX3_isRoom 1 = .ok (.ifCond .lt 13, 3) := by decide +kernel
theorem dX3_isRoom_4 : decode cX3_isRoom 4 = .ok (.iload_n 0, 1) := by decide +kernel
theorem dX3_isRoom_5 : decode cX3_isRoom 5 = .ok (.bipush 6, 2) := by decide +kernel
theorem dX3_isRoom_7 : decode cX3_isRoom 7 = .ok (.if_icmp .ge 7, 3) := by decide +kernel
theorem dX3_isRoom_10 : decode cX3_isRoom 10 = .ok (.iconst 1, 1) := by decide +kernel
theorem dX3_isRoom_11 : decode cX3_isRoom 11 = .ok (.goto 4, 3) := by decide +kernel
theorem dX3_isRoom_14 : decode cX3_isRoom 14 = .ok (.iconst 0, 1) := by decide +kernel
theorem dX3_isRoom_15 : decode cX3_isRoom 15 = .ok (.ireturn, 1) := by decide +kernel
theorem dX3_outside_0 : decode cX3_outside 0 = .ok (.iload_n 0, 1) := by decide +kernel
theorem dX3_outside_1 : decode cX3_outside 1 = .ok (.iload_n 1, 1) := by decide +kernel
theorem dX3_outside_2 : decode cX3_outside 2 = .ok (.if_icmp .ge 6, 3) := by decide +kernel
theorem dX3_outside_5 : decode cX3_outside 5 = .ok (.bipush (-4), 2) := by decide +kernel
theorem dX3_outside_7 : decode cX3_outside 7 = .ok (.ireturn, 1) := by decide +kernel
theorem dX3_outside_8 : decode cX3_outside 8 = .ok (.iload_n 0, 1) := by decide +kernel
theorem dX3_outside_9 : decode cX3_outside 9 = .ok (.iload_n 2, 1) := by decide +kernel
theorem dX3_outside_10 : decode cX3_outside 10 = .ok (.if_icmp .le 8, 3) := by decide +kernel
theorem dX3_outside_13 : decode cX3_outside 13 = .ok (.bipush (-6), 2) := by decide +kernel
theorem dX3_outside_15 : decode cX3_outside 15 = .ok (.goto 4, 3) := by decide +kernel
theorem dX3_outside_18 : decode cX3_outside 18 = .ok (.iconst 0, 1) := by decide +kernel
theorem dX3_outside_19 : decode cX3_outside 19 = .ok (.ireturn, 1) := by decide +kernel
theorem dX3_walksRefusal_0 : decode cX3_walksRefusal 0 = .ok (.iload_n 1, 1) := by decide +kernel
theorem dX3_walksRefusal_1 : decode cX3_walksRefusal 1 = .ok (.ifCond .lt 7, 3) := by decide +kernel
theorem dX3_walksRefusal_4 : decode cX3_walksRefusal 4 = .ok (.iload_n 2, 1) := by decide +kernel
theorem dX3_walksRefusal_5 : decode cX3_walksRefusal 5 = .ok (.ifCond .ge 6, 3) := by decide +kernel
theorem dX3_walksRefusal_8 : decode cX3_walksRefusal 8 = .ok (.bipush (-4), 2) := by decide +kernel
theorem dX3_walksRefusal_10 : decode cX3_walksRefusal 10 = .ok (.ireturn, 1) := by decide +kernel
theorem dX3_walksRefusal_11 : decode cX3_walksRefusal 11 = .ok (.iload_n 1, 1) := by decide +kernel
theorem dX3_walksRefusal_12 : decode cX3_walksRefusal 12 = .ok (.bipush 8, 2) := by decide +kernel
theorem dX3_walksRefusal_14 : decode cX3_walksRefusal 14 = .ok (.if_icmp .gt 8, 3) := by decide +kernel
theorem dX3_walksRefusal_17 : decode cX3_walksRefusal 17 = .ok (.iload_n 2, 1) := by decide +kernel
theorem dX3_walksRefusal_18 : decode cX3_walksRefusal 18 = .ok (.iload_n 1, 1) := by decide +kernel
theorem dX3_walksRefusal_19 : decode cX3_walksRefusal 19 = .ok (.if_icmp .le 6, 3) := by decide +kernel
theorem dX3_walksRefusal_22 : decode cX3_walksRefusal 22 = .ok (.bipush (-6), 2) := by decide +kernel
theorem dX3_walksRefusal_24 : decode cX3_walksRefusal 24 = .ok (.ireturn, 1) := by decide +kernel
theorem dX3_walksRefusal_25 : decode cX3_walksRefusal 25 = .ok (.aload_n 0, 1) := by decide +kernel
theorem dX3_walksRefusal_26 : decode cX3_walksRefusal 26 = .ok (.getfield 44, 3) := by decide +kernel
theorem dX3_walksRefusal_29 : decode cX3_walksRefusal 29 = .ok (.bipush 6, 2) := by decide +kernel
theorem dX3_walksRefusal_31 : decode cX3_walksRefusal 31 = .ok (.if_icmp .ne 7, 3) := by decide +kernel
theorem dX3_walksRefusal_34 : decode cX3_walksRefusal 34 = .ok (.iconst 0, 1) := by decide +kernel
theorem dX3_walksRefusal_35 : decode cX3_walksRefusal 35 = .ok (.goto 5, 3) := by decide +kernel
theorem dX3_walksRefusal_38 : decode cX3_walksRefusal 38 = .ok (.bipush (-3), 2) := by decide +kernel
theorem dX3_walksRefusal_40 : decode cX3_walksRefusal 40 = .ok (.ireturn, 1) := by decide +kernel
theorem dX3_toldTown_0 : decode cX3_toldTown 0 = .ok (.aload_n 0, 1) := by decide +kernel
theorem dX3_toldTown_1 : decode cX3_toldTown 1 = .ok (.getfield 29, 3) := by decide +kernel
theorem dX3_toldTown_4 : decode cX3_toldTown 4 = .ok (.invokevirtual 197, 3) := by decide +kernel
theorem dX3_toldTown_7 : decode cX3_toldTown 7 = .ok (.istore_n 1, 1) := by decide +kernel
theorem dX3_toldTown_8 : decode cX3_toldTown 8 = .ok (.iload_n 1, 1) := by decide +kernel
theorem dX3_toldTown_9 : decode cX3_toldTown 9 = .ok (.ifCond .lt 9, 3) := by decide +kernel
theorem dX3_toldTown_12 : decode cX3_toldTown 12 = .ok (.sipush (-1000), 3) := by decide +kernel
theorem dX3_toldTown_15 : decode cX3_toldTown 15 = .ok (.iload_n 1, 1) := by decide +kernel
theorem dX3_toldTown_16 : decode cX3_toldTown 16 = .ok (.isub, 1) := by decide +kernel
theorem dX3_toldTown_17 : decode cX3_toldTown 17 = .ok (.ireturn, 1) := by decide +kernel
theorem dX3_toldTown_18 : decode cX3_toldTown 18 = .ok (.aload_n 0, 1) := by decide +kernel
theorem dX3_toldTown_19 : decode cX3_toldTown 19 = .ok (.getfield 16, 3) := by decide +kernel
theorem dX3_toldTown_22 : decode cX3_toldTown 22 = .ok (.aload_n 0, 1) := by decide +kernel
theorem dX3_toldTown_23 : decode cX3_toldTown 23 = .ok (.getfield 10, 3) := by decide +kernel
theorem dX3_toldTown_26 : decode cX3_toldTown 26 = .ok (.invokevirtual 148, 3) := by decide +kernel
theorem dX3_toldTown_29 : decode cX3_toldTown 29 = .ok (.aload_n 0, 1) := by decide +kernel
theorem dX3_toldTown_30 : decode cX3_toldTown 30 = .ok (.getfield 29, 3) := by decide +kernel
theorem dX3_toldTown_33 : decode cX3_toldTown 33 = .ok (.aload_n 0, 1) := by decide +kernel
theorem dX3_toldTown_34 : decode cX3_toldTown 34 = .ok (.getfield 16, 3) := by decide +kernel
theorem dX3_toldTown_37 : decode cX3_toldTown 37 = .ok (.invokevirtual 200, 3) := by decide +kernel
theorem dX3_toldTown_40 : decode cX3_toldTown 40 = .ok (.istore_n 2, 1) := by decide +kernel
theorem dX3_toldTown_41 : decode cX3_toldTown 41 = .ok (.iload_n 2, 1) := by decide +kernel
theorem dX3_toldTown_42 : decode cX3_toldTown 42 = .ok (.ifCond .lt 14, 3) := by decide +kernel
theorem dX3_toldTown_45 : decode cX3_toldTown 45 = .ok (.aload_n 0, 1) := by decide +kernel
theorem dX3_toldTown_46 : decode cX3_toldTown 46 = .ok (.getfield 10, 3) := by decide +kernel
theorem dX3_toldTown_49 : decode cX3_toldTown 49 = .ok (.aload_n 0, 1) := by decide +kernel
theorem dX3_toldTown_50 : decode cX3_toldTown 50 = .ok (.getfield 16, 3) := by decide +kernel
theorem dX3_toldTown_53 : decode cX3_toldTown 53 = .ok (.invokevirtual 148, 3) := by decide +kernel
theorem dX3_toldTown_56 : decode cX3_toldTown 56 = .ok (.iload_n 2, 1) := by decide +kernel
theorem dX3_toldTown_57 : decode cX3_toldTown 57 = .ok (.ireturn, 1) := by decide +kernel
theorem dX3_think_0 : decode cX3_think 0 = .ok (.aload_n 0, 1) := by decide +kernel
theorem dX3_think_1 : decode cX3_think 1 = .ok (.getfield 16, 3) := by decide +kernel
theorem dX3_think_4 : decode cX3_think 4 = .ok (.aload_n 0, 1) := by decide +kernel
theorem dX3_think_5 : decode cX3_think 5 = .ok (.getfield 10, 3) := by decide +kernel
theorem dX3_think_8 : decode cX3_think 8 = .ok (.invokevirtual 148, 3) := by decide +kernel
theorem dX3_think_11 : decode cX3_think 11 = .ok (.aload_n 0, 1) := by decide +kernel
theorem dX3_think_12 : decode cX3_think 12 = .ok (.getfield 16, 3) := by decide +kernel
theorem dX3_think_15 : decode cX3_think 15 = .ok (.iload_n 1, 1) := by decide +kernel
theorem dX3_think_16 : decode cX3_think 16 = .ok (.invokevirtual 124, 3) := by decide +kernel
theorem dX3_think_19 : decode cX3_think 19 = .ok (.return_, 1) := by decide +kernel
theorem dX3_soonest_0 : decode cX3_soonest 0 = .ok (.iconst 1, 1) := by decide +kernel
theorem dX3_soonest_1 : decode cX3_soonest 1 = .ok (.iload_n 1, 1) := by decide +kernel
theorem dX3_soonest_2 : decode cX3_soonest 2 = .ok (.ishl, 1) := by decide +kernel
theorem dX3_soonest_3 : decode cX3_soonest 3 = .ok (.istore 4, 2) := by decide +kernel
theorem dX3_soonest_5 : decode cX3_soonest 5 = .ok (.aload_n 0, 1) := by decide +kernel
theorem dX3_soonest_6 : decode cX3_soonest 6 = .ok (.getfield 16, 3) := by decide +kernel
theorem dX3_soonest_9 : decode cX3_soonest 9 = .ok (.aload_n 0, 1) := by decide +kernel
theorem dX3_soonest_10 : decode cX3_soonest 10 = .ok (.getfield 10, 3) := by decide +kernel
theorem dX3_soonest_13 : decode cX3_soonest 13 = .ok (.invokevirtual 148, 3) := by decide +kernel
theorem dX3_soonest_16 : decode cX3_soonest 16 = .ok (.iconst 0, 1) := by decide +kernel
theorem dX3_soonest_17 : decode cX3_soonest 17 = .ok (.istore 5, 2) := by decide +kernel
theorem dX3_soonest_19 : decode cX3_soonest 19 = .ok (.iload 5, 2) := by decide +kernel
theorem dX3_soonest_21 : decode cX3_soonest 21 = .ok (.bipush 40, 2) := by decide +kernel
theorem dX3_soonest_23 : decode cX3_soonest 23 = .ok (.if_icmp .gt 68, 3) := by decide +kernel
theorem dX3_soonest_26 : decode cX3_soonest 26 = .ok (.iload 4, 2) := by decide +kernel
theorem dX3_soonest_28 : decode cX3_soonest 28 = .ok (.iload_n 2, 1) := by decide +kernel
theorem dX3_soonest_29 : decode cX3_soonest 29 = .ok (.ishr, 1) := by decide +kernel
theorem dX3_soonest_30 : decode cX3_soonest 30 = .ok (.iconst 1, 1) := by decide +kernel
theorem dX3_soonest_31 : decode cX3_soonest 31 = .ok (.iand, 1) := by decide +kernel
theorem dX3_soonest_32 : decode cX3_soonest 32 = .ok (.iconst 1, 1) := by decide +kernel
theorem dX3_soonest_33 : decode cX3_soonest 33 = .ok (.if_icmp .ne 6, 3) := by decide +kernel
theorem dX3_soonest_36 : decode cX3_soonest 36 = .ok (.iload 5, 2) := by decide +kernel
theorem dX3_soonest_38 : decode cX3_soonest 38 = .ok (.ireturn, 1) := by decide +kernel
theorem dX3_soonest_39 : decode cX3_soonest 39 = .ok (.aload_n 0, 1) := by decide +kernel
theorem dX3_soonest_40 : decode cX3_soonest 40 = .ok (.getfield 16, 3) := by decide +kernel
theorem dX3_soonest_43 : decode cX3_soonest 43 = .ok (.iconst 1, 1) := by decide +kernel
theorem dX3_soonest_44 : decode cX3_soonest 44 = .ok (.invokevirtual 124, 3) := by decide +kernel
theorem dX3_soonest_47 : decode cX3_soonest 47 = .ok (.iload_n 3, 1) := by decide +kernel
theorem dX3_soonest_48 : decode cX3_soonest 48 = .ok (.ifCond .eq 14, 3) := by decide +kernel
theorem dX3_soonest_51 : decode cX3_soonest 51 = .ok (.aload_n 0, 1) := by decide +kernel
theorem dX3_soonest_52 : decode cX3_soonest 52 = .ok (.getfield 16, 3) := by decide +kernel
theorem dX3_soonest_55 : decode cX3_soonest 55 = .ok (.iconst 3, 1) := by decide +kernel
theorem dX3_soonest_56 : decode cX3_soonest 56 = .ok (.invokevirtual 204, 3) := by decide +kernel
theorem dX3_soonest_59 : decode cX3_soonest 59 = .ok (.goto 10, 3) := by decide +kernel
theorem dX3_soonest_62 : decode cX3_soonest 62 = .ok (.aload_n 0, 1) := by decide +kernel
theorem dX3_soonest_63 : decode cX3_soonest 63 = .ok (.getfield 16, 3) := by decide +kernel
theorem dX3_soonest_66 : decode cX3_soonest 66 = .ok (.invokevirtual 207, 3) := by decide +kernel
theorem dX3_soonest_69 : decode cX3_soonest 69 = .ok (.istore 6, 2) := by decide +kernel
theorem dX3_soonest_71 : decode cX3_soonest 71 = .ok (.aload_n 0, 1) := by decide +kernel
theorem dX3_soonest_72 : decode cX3_soonest 72 = .ok (.getfield 16, 3) := by decide +kernel
theorem dX3_soonest_75 : decode cX3_soonest 75 = .ok (.iload 4, 2) := by decide +kernel
theorem dX3_soonest_77 : decode cX3_soonest 77 = .ok (.invokevirtual 210, 3) := by decide +kernel
theorem dX3_soonest_80 : decode cX3_soonest 80 = .ok (.iload 6, 2) := by decide +kernel
theorem dX3_soonest_82 : decode cX3_soonest 82 = .ok (.iand, 1) := by decide +kernel
theorem dX3_soonest_83 : decode cX3_soonest 83 = .ok (.istore 4, 2) := by decide +kernel
theorem dX3_soonest_85 : decode cX3_soonest 85 = .ok (.iinc 5 1, 3) := by decide +kernel
theorem dX3_soonest_88 : decode cX3_soonest 88 = .ok (.goto (-69), 3) := by decide +kernel
theorem dX3_soonest_91 : decode cX3_soonest 91 = .ok (.bipush (-9), 2) := by decide +kernel
theorem dX3_soonest_93 : decode cX3_soonest 93 = .ok (.ireturn, 1) := by decide +kernel
theorem dX3_firstWrong_0 : decode cX3_firstWrong 0 = .ok (.aload_n 0, 1) := by decide +kernel
theorem dX3_firstWrong_1 : decode cX3_firstWrong 1 = .ok (.getfield 44, 3) := by decide +kernel
theorem dX3_firstWrong_4 : decode cX3_firstWrong 4 = .ok (.bipush 6, 2) := by decide +kernel
theorem dX3_firstWrong_6 : decode cX3_firstWrong 6 = .ok (.invokestatic 118, 3) := by decide +kernel
theorem dX3_firstWrong_9 : decode cX3_firstWrong 9 = .ok (.istore_n 1, 1) := by decide +kernel
theorem dX3_firstWrong_10 : decode cX3_firstWrong 10 = .ok (.iconst 0, 1) := by decide +kernel
theorem dX3_firstWrong_11 : decode cX3_firstWrong 11 = .ok (.istore_n 2, 1) := by decide +kernel
theorem dX3_firstWrong_12 : decode cX3_firstWrong 12 = .ok (.iload_n 2, 1) := by decide +kernel
theorem dX3_firstWrong_13 : decode cX3_firstWrong 13 = .ok (.iload_n 1, 1) := by decide +kernel
theorem dX3_firstWrong_14 : decode cX3_firstWrong 14 = .ok (.if_icmp .ge 67, 3) := by decide +kernel
theorem dX3_firstWrong_17 : decode cX3_firstWrong 17 = .ok (.aload_n 0, 1) := by decide +kernel
theorem dX3_firstWrong_18 : decode cX3_firstWrong 18 = .ok (.getfield 10, 3) := by decide +kernel
theorem dX3_firstWrong_21 : decode cX3_firstWrong 21 = .ok (.iload_n 2, 1) := by decide +kernel
theorem dX3_firstWrong_22 : decode cX3_firstWrong 22 = .ok (.invokevirtual 136, 3) := by decide +kernel
theorem dX3_firstWrong_25 : decode cX3_firstWrong 25 = .ok (.istore_n 3, 1) := by decide +kernel
theorem dX3_firstWrong_26 : decode cX3_firstWrong 26 = .ok (.aload_n 0, 1) := by decide +kernel
theorem dX3_firstWrong_27 : decode cX3_firstWrong 27 = .ok (.getfield 40, 3) := by decide +kernel
theorem dX3_firstWrong_30 : decode cX3_firstWrong 30 = .ok (.iload_n 2, 1) := by decide +kernel
theorem dX3_firstWrong_31 : decode cX3_firstWrong 31 = .ok (.iaload, 1) := by decide +kernel
theorem dX3_firstWrong_32 : decode cX3_firstWrong 32 = .ok (.bipush 30, 2) := by decide +kernel
theorem dX3_firstWrong_34 : decode cX3_firstWrong 34 = .ok (.if_icmp .ne 17, 3) := by decide +kernel
theorem dX3_firstWrong_37 : decode cX3_firstWrong 37 = .ok (.iload_n 3, 1) := by decide +kernel
theorem dX3_firstWrong_38 : decode cX3_firstWrong 38 = .ok (.bipush (-9), 2) := by decide +kernel
theorem dX3_firstWrong_40 : decode cX3_firstWrong 40 = .ok (.if_icmp .ne 7, 3) := by decide +kernel
theorem dX3_firstWrong_43 : decode cX3_firstWrong 43 = .ok (.iconst 1, 1) := by decide +kernel
theorem dX3_firstWrong_44 : decode cX3_firstWrong 44 = .ok (.goto 22, 3) := by decide +kernel
theorem dX3_firstWrong_47 : decode cX3_firstWrong 47 = .ok (.iconst 0, 1) := by decide +kernel
theorem dX3_firstWrong_48 : decode cX3_firstWrong 48 = .ok (.goto 18, 3) := by decide +kernel
theorem dX3_firstWrong_51 : decode cX3_firstWrong 51 = .ok (.iload_n 3, 1) := by decide +kernel
theorem dX3_firstWrong_52 : decode cX3_firstWrong 52 = .ok (.aload_n 0, 1) := by decide +kernel
theorem dX3_firstWrong_53 : decode cX3_firstWrong 53 = .ok (.getfield 40, 3) := by decide +kernel
theorem dX3_firstWrong_56 : decode cX3_firstWrong 56 = .ok (.iload_n 2, 1) := by decide +kernel
theorem dX3_firstWrong_57 : decode cX3_firstWrong 57 = .ok (.iaload, 1) := by decide +kernel
theorem dX3_firstWrong_58 : decode cX3_firstWrong 58 = .ok (.if_icmp .ne 7, 3) := by decide +kernel
theorem dX3_firstWrong_61 : decode cX3_firstWrong 61 = .ok (.iconst 1, 1) := by decide +kernel
theorem dX3_firstWrong_62 : decode cX3_firstWrong 62 = .ok (.goto 4, 3) := by decide +kernel
theorem dX3_firstWrong_65 : decode cX3_firstWrong 65 = .ok (.iconst 0, 1) := by decide +kernel
theorem dX3_firstWrong_66 : decode cX3_firstWrong 66 = .ok (.istore 4, 2) := by decide +kernel
theorem dX3_firstWrong_68 : decode cX3_firstWrong 68 = .ok (.iload 4, 2) := by decide +kernel
theorem dX3_firstWrong_70 : decode cX3_firstWrong 70 = .ok (.ifCond .ne 5, 3) := by decide +kernel
theorem dX3_firstWrong_73 : decode cX3_firstWrong 73 = .ok (.iload_n 2, 1) := by decide +kernel
theorem dX3_firstWrong_74 : decode cX3_firstWrong 74 = .ok (.ireturn, 1) := by decide +kernel
theorem dX3_firstWrong_75 : decode cX3_firstWrong 75 = .ok (.iinc 2 1, 3) := by decide +kernel
theorem dX3_firstWrong_78 : decode cX3_firstWrong 78 = .ok (.goto (-66), 3) := by decide +kernel
theorem dX3_firstWrong_81 : decode cX3_firstWrong 81 = .ok (.aload_n 0, 1) := by decide +kernel
theorem dX3_firstWrong_82 : decode cX3_firstWrong 82 = .ok (.getfield 44, 3) := by decide +kernel
theorem dX3_firstWrong_85 : decode cX3_firstWrong 85 = .ok (.bipush 6, 2) := by decide +kernel
theorem dX3_firstWrong_87 : decode cX3_firstWrong 87 = .ok (.if_icmp .ne 8, 3) := by decide +kernel
theorem dX3_firstWrong_90 : decode cX3_firstWrong 90 = .ok (.bipush (-9), 2) := by decide +kernel
theorem dX3_firstWrong_92 : decode cX3_firstWrong 92 = .ok (.goto 4, 3) := by decide +kernel
theorem dX3_firstWrong_95 : decode cX3_firstWrong 95 = .ok (.iload_n 1, 1) := by decide +kernel
theorem dX3_firstWrong_96 : decode cX3_firstWrong 96 = .ok (.ireturn, 1) := by decide +kernel
theorem dX4_init_0 : decode cX4_init 0 = .ok (.aload_n 0, 1) := by decide +kernel
theorem dX4_init_1 : decode cX4_init 1 = .ok (.invokespecial 1, 3) := by decide +kernel
theorem dX4_init_4 : decode cX4_init 4 = .ok (.aload_n 0, 1) := by decide +kernel
theorem dX4_init_5 : decode cX4_init 5 = .ok (.bipush 7, 2) := by decide +kernel
theorem dX4_init_7 : decode cX4_init 7 = .ok (.newarray .int, 2) := by decide +kernel
theorem dX4_init_9 : decode cX4_init 9 = .ok (.putfield 7, 3) := by decide +kernel
theorem dX4_init_12 : decode cX4_init 12 = .ok (.aload_n 0, 1) := by decide +kernel
theorem dX4_init_13 : decode cX4_init 13 = .ok (.bipush 6, 2) := by decide +kernel
theorem dX4_init_15 : decode cX4_init 15 = .ok (.newarray .int, 2) := by decide +kernel
theorem dX4_init_17 : decode cX4_init 17 = .ok (.putfield 13, 3) := by decide +kernel
theorem dX4_init_20 : decode cX4_init 20 = .ok (.aload_n 0, 1) := by decide +kernel
theorem dX4_init_21 : decode cX4_init 21 = .ok (.bipush 6, 2) := by decide +kernel
theorem dX4_init_23 : decode cX4_init 23 = .ok (.newarray .int, 2) := by decide +kernel
theorem dX4_init_25 : decode cX4_init 25 = .ok (.putfield 16, 3) := by decide +kernel
theorem dX4_init_28 : decode cX4_init 28 = .ok (.aload_n 0, 1) := by decide +kernel
theorem dX4_init_29 : decode cX4_init 29 = .ok (.bipush 6, 2) := by decide +kernel
theorem dX4_init_31 : decode cX4_init 31 = .ok (.newarray .int, 2) := by decide +kernel
theorem dX4_init_33 : decode cX4_init 33 = .ok (.putfield 19, 3) := by decide +kernel
theorem dX4_init_36 : decode cX4_init 36 = .ok (.aload_n 0, 1) := by decide +kernel
theorem dX4_init_37 : decode cX4_init 37 = .ok (.iconst 4, 1) := by decide +kernel
theorem dX4_init_38 : decode cX4_init 38 = .ok (.newarray .int, 2) := by decide +kernel
theorem dX4_init_40 : decode cX4_init 40 = .ok (.putfield 22, 3) := by decide +kernel
theorem dX4_init_43 : decode cX4_init 43 = .ok (.aload_n 0, 1) := by decide +kernel
theorem dX4_init_44 : decode cX4_init 44 = .ok (.iconst 4, 1) := by decide +kernel
theorem dX4_init_45 : decode cX4_init 45 = .ok (.newarray .int, 2) := by decide +kernel
theorem dX4_init_47 : decode cX4_init 47 = .ok (.putfield 25, 3) := by decide +kernel
theorem dX4_init_50 : decode cX4_init 50 = .ok (.aload_n 0, 1) := by decide +kernel
theorem dX4_init_51 : decode cX4_init 51 = .ok (.iconst 4, 1) := by decide +kernel
theorem dX4_init_52 : decode cX4_init 52 = .ok (.newarray .int, 2) := by decide +kernel
theorem dX4_init_54 : decode cX4_init 54 = .ok (.putfield 28, 3) := by decide +kernel
theorem dX4_init_57 : decode cX4_init 57 = .ok (.aload_n 0, 1) := by decide +kernel
theorem dX4_init_58 : decode cX4_init 58 = .ok (.bipush 24, 2) := by decide +kernel
theorem dX4_init_60 : decode cX4_init 60 = .ok (.newarray .int, 2) := by decide +kernel
theorem dX4_init_62 : decode cX4_init 62 = .ok (.putfield 31, 3) := by decide +kernel
theorem dX4_init_65 : decode cX4_init 65 = .ok (.aload_n 0, 1) := by decide +kernel
theorem dX4_init_66 : decode cX4_init 66 = .ok (.bipush 24, 2) := by decide +kernel
theorem dX4_init_68 : decode cX4_init 68 = .ok (.newarray .int, 2) := by decide +kernel
theorem dX4_init_70 : decode cX4_init 70 = .ok (.putfield 34, 3) := by decide +kernel
theorem dX4_init_73 : decode cX4_init 73 = .ok (.aload_n 0, 1) := by decide +kernel
theorem dX4_init_74 : decode cX4_init 74 = .ok (.iconst 1, 1) := by decide +kernel
theorem dX4_init_75 : decode cX4_init 75 = .ok (.putfield 37, 3) := by decide +kernel
theorem dX4_init_78 : decode cX4_init 78 = .ok (.aload_n 0, 1) := by decide +kernel
theorem dX4_init_79 : decode cX4_init 79 = .ok (.bipush 96, 2) := by decide +kernel
theorem dX4_init_81 : decode cX4_init 81 = .ok (.newarray .int, 2) := by decide +kernel
theorem dX4_init_83 : decode cX4_init 83 = .ok (.putfield 41, 3) := by decide +kernel
theorem dX4_init_86 : decode cX4_init 86 = .ok (.aload_n 0, 1) := by decide +kernel
theorem dX4_init_87 : decode cX4_init 87 = .ok (.bipush 48, 2) := by decide +kernel
theorem dX4_init_89 : decode cX4_init 89 = .ok (.newarray .int, 2) := by decide +kernel
theorem dX4_init_91 : decode cX4_init 91 = .ok (.putfield 44, 3) := by decide +kernel
theorem dX4_init_94 : decode cX4_init 94 = .ok (.aload_n 0, 1) := by decide +kernel
theorem dX4_init_95 : decode cX4_init 95 = .ok (.bipush 48, 2) := by decide +kernel
theorem dX4_init_97 : decode cX4_init 97 = .ok (.newarray .int, 2) := by decide +kernel
theorem dX4_init_99 : decode cX4_init 99 = .ok (.putfield 47, 3) := by decide +kernel
theorem dX4_init_102 : decode cX4_init 102 = .ok (.aload_n 0, 1) := by decide +kernel
theorem dX4_init_103 : decode cX4_init 103 = .ok (.bipush 96, 2) := by decide +kernel
theorem dX4_init_105 : decode cX4_init 105 = .ok (.newarray .int, 2) := by decide +kernel
theorem dX4_init_107 : decode cX4_init 107 = .ok (.putfield 50, 3) := by decide +kernel
theorem dX4_init_110 : decode cX4_init 110 = .ok (.aload_n 0, 1) := by decide +kernel
theorem dX4_init_111 : decode cX4_init 111 = .ok (.bipush 48, 2) := by decide +kernel
theorem dX4_init_113 : decode cX4_init 113 = .ok (.newarray .int, 2) := by decide +kernel
theorem dX4_init_115 : decode cX4_init 115 = .ok (.putfield 53, 3) := by decide +kernel
theorem dX4_init_118 : decode cX4_init 118 = .ok (.aload_n 0, 1) := by decide +kernel
theorem dX4_init_119 : decode cX4_init 119 = .ok (.bipush 48, 2) := by decide +kernel
theorem dX4_init_121 : decode cX4_init 121 = .ok (.newarray .int, 2) := by decide +kernel
theorem dX4_init_123 : decode cX4_init 123 = .ok (.putfield 56, 3) := by decide +kernel
theorem dX4_init_126 : decode cX4_init 126 = .ok (.aload_n 0, 1) := by decide +kernel
theorem dX4_init_127 : decode cX4_init 127 = .ok (.sipush 170, 3) := by decide +kernel
theorem dX4_init_130 : decode cX4_init 130 = .ok (.newarray .int, 2) := by decide +kernel
theorem dX4_init_132 : decode cX4_init 132 = .ok (.putfield 59, 3) := by decide +kernel
theorem dX4_init_135 : decode cX4_init 135 = .ok (.aload_n 0, 1) := by decide +kernel
theorem dX4_init_136 : decode cX4_init 136 = .ok (.iconst 4, 1) := by decide +kernel
theorem dX4_init_137 : decode cX4_init 137 = .ok (.newarray .int, 2) := by decide +kernel
theorem dX4_init_139 : decode cX4_init 139 = .ok (.putfield 62, 3) := by decide +kernel
theorem dX4_init_142 : decode cX4_init 142 = .ok (.aload_n 0, 1) := by decide +kernel
theorem dX4_init_143 : decode cX4_init 143 = .ok (.bipush 12, 2) := by decide +kernel
theorem dX4_init_145 : decode cX4_init 145 = .ok (.newarray .int, 2) := by decide +kernel
theorem dX4_init_147 : decode cX4_init 147 = .ok (.putfield 65, 3) := by decide +kernel
theorem dX4_init_150 : decode cX4_init 150 = .ok (.aload_n 0, 1) := by decide +kernel
theorem dX4_init_151 : decode cX4_init 151 = .ok (.bipush 54, 2) := by decide +kernel
theorem dX4_init_153 : decode cX4_init 153 = .ok (.newarray .long, 2) := by decide +kernel
theorem dX4_init_155 : decode cX4_init 155 = .ok (.putfield 68, 3) := by decide +kernel
theorem dX4_init_158 : decode cX4_init 158 = .ok (.aload_n 0, 1) := by decide +kernel
theorem dX4_init_159 : decode cX4_init 159 = .ok (.bipush 54, 2) := by decide +kernel
theorem dX4_init_161 : decode cX4_init 161 = .ok (.newarray .long, 2) := by decide +kernel
theorem dX4_init_163 : decode cX4_init 163 = .ok (.putfield 72, 3) := by decide +kernel
theorem dX4_init_166 : decode cX4_init 166 = .ok (.iconst 0, 1) := by decide +kernel
theorem dX4_init_167 : decode cX4_init 167 = .ok (.istore_n 1, 1) := by decide +kernel
theorem dX4_init_168 : decode cX4_init 168 = .ok (.iload_n 1, 1) := by decide +kernel
theorem dX4_init_169 : decode cX4_init 169 = .ok (.bipush 24, 2) := by decide +kernel
theorem dX4_init_171 : decode cX4_init 171 = .ok (.if_icmp .ge 17, 3) := by decide +kernel
theorem dX4_init_174 : decode cX4_init 174 = .ok (.aload_n 0, 1) := by decide +kernel
theorem dX4_init_175 : decode cX4_init 175 = .ok (.getfield 34, 3) := by decide +kernel
theorem dX4_init_178 : decode cX4_init 178 = .ok (.iload_n 1, 1) := by decide +kernel
theorem dX4_init_179 : decode cX4_init 179 = .ok (.bipush (-9), 2) := by decide +kernel
theorem dX4_init_181 : decode cX4_init 181 = .ok (.iastore, 1) := by decide +kernel
theorem dX4_init_182 : decode cX4_init 182 = .ok (.iinc 1 1, 3) := by decide +kernel
theorem dX4_init_185 : decode cX4_init 185 = .ok (.goto (-17), 3) := by decide +kernel
theorem dX4_init_188 : decode cX4_init 188 = .ok (.return_, 1) := by decide +kernel
theorem dX4_no_0 : decode cX4_no 0 = .ok (.aload_n 0, 1) := by decide +kernel
theorem dX4_no_1 : decode cX4_no 1 = .ok (.getfield 7, 3) := by decide +kernel
theorem dX4_no_4 : decode cX4_no 4 = .ok (.iload_n 1, 1) := by decide +kernel
theorem dX4_no_5 : decode cX4_no 5 = .ok (.ineg, 1) := by decide +kernel
theorem dX4_no_6 : decode cX4_no 6 = .ok (.dup2, 1) := by decide +kernel
theorem dX4_no_7 : decode cX4_no 7 = .ok (.iaload, 1) := by decide +kernel
theorem dX4_no_8 : decode cX4_no 8 = .ok (.iconst 1, 1) := by decide +kernel
theorem dX4_no_9 : decode cX4_no 9 = .ok (.iadd, 1) := by decide +kernel
theorem dX4_no_10 : decode cX4_no 10 = .ok (.iastore, 1) := by decide +kernel
theorem dX4_no_11 : decode cX4_no 11 = .ok (.iload_n 1, 1) := by decide +kernel
theorem dX4_no_12 : decode cX4_no 12 = .ok (.ireturn, 1) := by decide +kernel
theorem dX4_isIn_0 : decode cX4_isIn 0 = .ok (.iload_n 0, 1) := by decide +kernel
theorem dX4_isIn_1 : decode cX4_isIn 1 = .ok (.iload_n 1, 1) := by decide +kernel
theorem dX4_isIn_2 : decode cX4_isIn 2 = .ok (.if_icmp .lt 12, 3) := by decide +kernel
theorem dX4_isIn_5 : decode cX4_isIn 5 = .ok (.iload_n 0, 1) := by decide +kernel
theorem dX4_isIn_6 : decode cX4_isIn 6 = .ok (.iload_n 2, 1) := by decide +kernel
theorem dX4_isIn_7 : decode cX4_isIn 7 = .ok (.if_icmp .gt 7, 3) := by decide +kernel
theorem dX4_isIn_10 : decode cX4_isIn 10 = .ok (.iconst 1, 1) := by decide +kernel
theorem dX4_isIn_11 : decode cX4_isIn 11 = .ok (.goto 4, 3) := by decide +kernel
theorem dX4_isIn_14 : decode cX4_isIn 14 = .ok (.iconst 0, 1) := by decide +kernel
theorem dX4_isIn_15 : decode cX4_isIn 15 = .ok (.ireturn, 1) := by decide +kernel
theorem dX4_bound_0 : decode cX4_bound 0 = .ok (.iload_n 0, 1) := by decide +kernel
theorem dX4_bound_1 : decode cX4_bound 1 = .ok (.iload_n 1, 1) := by decide +kernel
theorem dX4_bound_2 : decode cX4_bound 2 = .ok (.if_icmp .ge 8, 3) := by decide +kernel
theorem dX4_bound_5 : decode cX4_bound 5 = .ok (.bipush (-4), 2) := by decide +kernel
theorem dX4_bound_7 : decode cX4_bound 7 = .ok (.goto 14, 3) := by decide +kernel
theorem dX4_bound_10 : decode cX4_bound 10 = .ok (.iload_n 0, 1) := by decide +kernel
theorem dX4_bound_11 : decode cX4_bound 11 = .ok (.iload_n 2, 1) := by decide +kernel
theorem dX4_bound_12 : decode cX4_bound 12 = .ok (.if_icmp .le 8, 3) := by decide +kernel
theorem dX4_bound_15 : decode cX4_bound 15 = .ok (.bipush (-6), 2) := by decide +kernel
theorem dX4_bound_17 : decode cX4_bound 17 = .ok (.goto 4, 3) := by decide +kernel
theorem dX4_bound_20 : decode cX4_bound 20 = .ok (.iconst 0, 1) := by decide +kernel
theorem dX4_bound_21 : decode cX4_bound 21 = .ok (.ireturn, 1) := by decide +kernel
theorem dX4_isRoom_0 : decode cX4_isRoom 0 = .ok (.iload_n 0, 1) := by decide +kernel
theorem dX4_isRoom_1 : decode cX4_isRoom 1 = .ok (.ifCond .lt 13, 3) := by decide +kernel
theorem dX4_isRoom_4 : decode cX4_isRoom 4 = .ok (.iload_n 0, 1) := by decide +kernel
theorem dX4_isRoom_5 : decode cX4_isRoom 5 = .ok (.bipush 6, 2) := by decide +kernel
theorem dX4_isRoom_7 : decode cX4_isRoom 7 = .ok (.if_icmp .ge 7, 3) := by decide +kernel
theorem dX4_isRoom_10 : decode cX4_isRoom 10 = .ok (.iconst 1, 1) := by decide +kernel
theorem dX4_isRoom_11 : decode cX4_isRoom 11 = .ok (.goto 4, 3) := by decide +kernel
theorem dX4_isRoom_14 : decode cX4_isRoom 14 = .ok (.iconst 0, 1) := by decide +kernel
theorem dX4_isRoom_15 : decode cX4_isRoom 15 = .ok (.ireturn, 1) := by decide +kernel
theorem dX4_isWalker_0 : decode cX4_isWalker 0 = .ok (.iload_n 1, 1) := by decide +kernel
theorem dX4_isWalker_1 : decode cX4_isWalker 1 = .ok (.ifCond .lt 15, 3) := by decide +kernel
theorem dX4_isWalker_4 : decode cX4_isWalker 4 = .ok (.iload_n 1, 1) := by decide +kernel
theorem dX4_isWalker_5 : decode cX4_isWalker 5 = .ok (.aload_n 0, 1) := by decide +kernel
theorem dX4_isWalker_6 : decode cX4_isWalker 6 = .ok (.getfield 75, 3) := by decide +kernel
theorem dX4_isWalker_9 : decode cX4_isWalker 9 = .ok (.if_icmp .ge 7, 3) := by decide +kernel
theorem dX4_isWalker_12 : decode cX4_isWalker 12 = .ok (.iconst 1, 1) := by decide +kernel
theorem dX4_isWalker_13 : decode cX4_isWalker 13 = .ok (.goto 4, 3) := by decide +kernel
theorem dX4_isWalker_16 : decode cX4_isWalker 16 = .ok (.iconst 0, 1) := by decide +kernel
theorem dX4_isWalker_17 : decode cX4_isWalker 17 = .ok (.ireturn, 1) := by decide +kernel
theorem dX4_letter_0 : decode cX4_letter 0 = .ok (.iload_n 1, 1) := by decide +kernel
theorem dX4_letter_1 : decode cX4_letter 1 = .ok (.iconst 0, 1) := by decide +kernel
theorem dX4_letter_2 : decode cX4_letter 2 = .ok (.sipush 255, 3) := by decide +kernel
theorem dX4_letter_5 : decode cX4_letter 5 = .ok (.invokestatic 78, 3) := by decide +kernel
theorem dX4_letter_8 : decode cX4_letter 8 = .ok (.istore_n 2, 1) := by decide +kernel
theorem dX4_letter_9 : decode cX4_letter 9 = .ok (.iload_n 2, 1) := by decide +kernel
theorem dX4_letter_10 : decode cX4_letter 10 = .ok (.ifCond .ne 15, 3) := by decide +kernel
theorem dX4_letter_13 : decode cX4_letter 13 = .ok (.aload_n 0, 1) := by decide +kernel
theorem dX4_letter_14 : decode cX4_letter 14 = .ok (.getfield 82, 3) := by decide +kernel
theorem dX4_letter_17 : decode cX4_letter 17 = .ok (.bipush 96, 2) := by decide +kernel
theorem dX4_letter_19 : decode cX4_letter 19 = .ok (.if_icmp .ne 6, 3) := by decide +kernel
theorem dX4_letter_22 : decode cX4_letter 22 = .ok (.bipush (-6), 2) := by decide +kernel
theorem dX4_letter_24 : decode cX4_letter 24 = .ok (.istore_n 2, 1) := by decide +kernel
theorem dX4_letter_25 : decode cX4_letter 25 = .ok (.iload_n 2, 1) := by decide +kernel
theorem dX4_letter_26 : decode cX4_letter 26 = .ok (.ifCond .eq 9, 3) := by decide +kernel
theorem dX4_letter_29 : decode cX4_letter 29 = .ok (.aload_n 0, 1) := by decide +kernel
theorem dX4_letter_30 : decode cX4_letter 30 = .ok (.iload_n 2, 1) := by decide +kernel
theorem dX4_letter_31 : decode cX4_letter 31 = .ok (.invokevirtual 85, 3) := by decide +kernel
theorem dX4_letter_34 : decode cX4_letter 34 = .ok (.ireturn, 1) := by decide +kernel
theorem dX4_letter_35 : decode cX4_letter 35 = .ok (.aload_n 0, 1) := by decide +kernel
theorem dX4_letter_36 : decode cX4_letter 36 = .ok (.getfield 41, 3) := by decide +kernel
theorem dX4_letter_39 : decode cX4_letter 39 = .ok (.aload_n 0, 1) := by decide +kernel
theorem dX4_letter_40 : decode cX4_letter 40 = .ok (.getfield 82, 3) := by decide +kernel
theorem dX4_letter_43 : decode cX4_letter 43 = .ok (.iload_n 1, 1) := by decide +kernel
theorem dX4_letter_44 : decode cX4_letter 44 = .ok (.iastore, 1) := by decide +kernel
theorem dX4_letter_45 : decode cX4_letter 45 = .ok (.aload_n 0, 1) := by decide +kernel
theorem dX4_letter_46 : decode cX4_letter 46 = .ok (.dup, 1) := by decide +kernel
theorem dX4_letter_47 : decode cX4_letter 47 = .ok (.getfield 82, 3) := by decide +kernel
theorem dX4_letter_50 : decode cX4_letter 50 = .ok (.iconst 1, 1) := by decide +kernel
theorem dX4_letter_51 : decode cX4_letter 51 = .ok (.iadd, 1) := by decide +kernel
theorem dX4_letter_52 : decode cX4_letter 52 = .ok (.putfield 82, 3) := by decide +kernel
theorem dX4_letter_55 : decode cX4_letter 55 = .ok (.aload_n 0, 1) := by decide +kernel
theorem dX4_letter_56 : decode cX4_letter 56 = .ok (.getfield 82, 3) := by decide +kernel
theorem dX4_letter_59 : decode cX4_letter 59 = .ok (.ireturn, 1) := by decide +kernel
theorem dX4_next_0 : decode cX4_next 0 = .ok (.aload_n 0, 1) := by decide +kernel
theorem dX4_next_1 : decode cX4_next 1 = .ok (.getfield 89, 3) := by decide +kernel
theorem dX4_next_4 : decode cX4_next 4 = .ok (.aload_n 0, 1) := by decide +kernel
theorem dX4_next_5 : decode cX4_next 5 = .ok (.getfield 82, 3) := by decide +kernel
theorem dX4_next_8 : decode cX4_next 8 = .ok (.if_icmp .ge 15, 3) := by decide +kernel
theorem dX4_next_11 : decode cX4_next 11 = .ok (.aload_n 0, 1) := by decide +kernel
theorem dX4_next_12 : decode cX4_next 12 = .ok (.getfield 41, 3) := by decide +kernel
theorem dX4_next_15 : decode cX4_next 15 = .ok (.aload_n 0, 1) := by decide +kernel
theorem dX4_next_16 : decode cX4_next 16 = .ok (.getfield 89, 3) := by decide +kernel
theorem dX4_next_19 : decode cX4_next 19 = .ok (.iaload, 1) := by decide +kernel
theorem dX4_next_20 : decode cX4_next 20 = .ok (.goto 4, 3) := by decide +kernel
theorem dX4_next_23 : decode cX4_next 23 = .ok (.iconst (-1), 1) := by decide +kernel
theorem dX4_next_24 : decode cX4_next 24 = .ok (.ireturn, 1) := by decide +kernel
theorem dX4_isDigit_0 : decode cX4_isDigit 0 = .ok (.aload_n 0, 1) := by decide +kernel
theorem dX4_isDigit_1 : decode cX4_isDigit 1 = .ok (.invokevirtual 92, 3) := by decide +kernel
theorem dX4_isDigit_4 : decode cX4_isDigit 4 = .ok (.bipush 48, 2) := by decide +kernel
theorem dX4_isDigit_6 : decode cX4_isDigit 6 = .ok (.bipush 57, 2) := by decide +kernel
theorem dX4_isDigit_8 : decode cX4_isDigit 8 = .ok (.invokestatic 96, 3) := by decide +kernel
theorem dX4_isDigit_11 : decode cX4_isDigit 11 = .ok (.ireturn, 1) := by decide +kernel
theorem dX4_readsDigit_0 : decode cX4_readsDigit 0 = .ok (.aload_n 0, 1) := by decide +kernel
theorem dX4_readsDigit_1 : decode cX4_readsDigit 1 = .ok (.invokevirtual 100, 3) := by decide +kernel
theorem dX4_readsDigit_4 : decode cX4_readsDigit 4 = .ok (.ifCond .ne 5, 3) := by decide +kernel
theorem dX4_readsDigit_7 : decode cX4_readsDigit 7 = .ok (.iconst 0, 1) := by decide +kernel
theorem dX4_readsDigit_8 : decode cX4_readsDigit 8 = .ok (.ireturn, 1) := by decide +kernel
theorem dX4_readsDigit_9 : decode cX4_readsDigit 9 = .ok (.aload_n 0, 1) := by decide +kernel
theorem dX4_readsDigit_10 : decode cX4_readsDigit 10 = .ok (.getfield 50, 3) := by decide +kernel
theorem dX4_readsDigit_13 : decode cX4_readsDigit 13 = .ok (.iload_n 1, 1) := by decide +kernel
theorem dX4_readsDigit_14 : decode cX4_readsDigit 14 = .ok (.aload_n 0, 1) := by decide +kernel
theorem dX4_readsDigit_15 : decode cX4_readsDigit 15 = .ok (.invokevirtual 92, 3) := by decide +kernel
theorem dX4_readsDigit_18 : decode cX4_readsDigit 18 = .ok (.bipush 48, 2) := by decide +kernel
theorem dX4_readsDigit_20 : decode cX4_readsDigit 20 = .ok (.isub, 1) := by decide +kernel
theorem dX4_readsDigit_21 : decode cX4_readsDigit 21 = .ok (.iastore, 1) := by decide +kernel
theorem dX4_readsDigit_22 : decode cX4_readsDigit 22 = .ok (.aload_n 0, 1) := by decide +kernel
theorem dX4_readsDigit_23 : decode cX4_readsDigit 23 = .ok (.dup, 1) := by decide +kernel
theorem dX4_readsDigit_24 : decode cX4_readsDigit 24 = .ok (.getfield 89, 3) := by decide +kernel
theorem dX4_readsDigit_27 : decode cX4_readsDigit 27 = .ok (.iconst 1, 1) := by decide +kernel
theorem dX4_readsDigit_28 : decode cX4_readsDigit 28 = .ok (.iadd, 1) := by decide +kernel
theorem dX4_readsDigit_29 : decode cX4_readsDigit 29 = .ok (.putfield 89, 3) := by decide +kernel
theorem dX4_readsDigit_32 : decode cX4_readsDigit 32 = .ok (.iconst 1, 1) := by decide +kernel
theorem dX4_readsDigit_33 : decode cX4_readsDigit 33 = .ok (.ireturn, 1) := by decide +kernel
theorem dX4_kindOf_0 : decode cX4_kindOf 0 = .ok (.iload_n 0, 1) := by decide +kernel
theorem dX4_kindOf_1 : decode cX4_kindOf 1 = .ok (.lookupswitch 71 #[(98, 67), (99, 69), (102, 63), (108, 61), (115, 65), (119, 59)], 59) := by decide +kernel
theorem dX4_kindOf_60 : decode cX4_kindOf 60 = .ok (.iconst 0, 1) := by decide +kernel
theorem dX4_kindOf_61 : decode cX4_kindOf 61 = .ok (.ireturn, 1) := by decide +kernel
theorem dX4_kindOf_62 : decode cX4_kindOf 62 = .ok (.iconst 1, 1) := by decide +kernel
theorem dX4_kindOf_63 : decode cX4_kindOf 63 = .ok (.ireturn, 1) := by decide +kernel
theorem dX4_kindOf_64 : decode cX4_kindOf 64 = .ok (.iconst 2, 1) := by decide +kernel
theorem dX4_kindOf_65 : decode cX4_kindOf 65 = .ok (.ireturn, 1) := by decide +kernel
theorem dX4_kindOf_66 : decode cX4_kindOf 66 = .ok (.iconst 3, 1) := by decide +kernel
theorem dX4_kindOf_67 : decode cX4_kindOf 67 = .ok (.ireturn, 1) := by decide +kernel
theorem dX4_kindOf_68 : decode cX4_kindOf 68 = .ok (.iconst 4, 1) := by decide +kernel
theorem dX4_kindOf_69 : decode cX4_kindOf 69 = .ok (.ireturn, 1) := by decide +kernel
theorem dX4_kindOf_70 : decode cX4_kindOf 70 = .ok (.iconst 5, 1) := by decide +kernel
theorem dX4_kindOf_71 : decode cX4_kindOf 71 = .ok (.ireturn, 1) := by decide +kernel
theorem dX4_kindOf_72 : decode cX4_kindOf 72 = .ok (.iconst (-1), 1) := by decide +kernel
theorem dX4_kindOf_73 : decode cX4_kindOf 73 = .ok (.ireturn, 1) := by decide +kernel
theorem dX4_readsWalker_0 : decode cX4_readsWalker 0 = .ok (.aload_n 0, 1) := by decide +kernel
theorem dX4_readsWalker_1 : decode cX4_readsWalker 1 = .ok (.getfield 50, 3) := by decide +kernel
theorem dX4_readsWalker_4 : decode cX4_readsWalker 4 = .ok (.iload_n 1, 1) := by decide +kernel
theorem dX4_readsWalker_5 : decode cX4_readsWalker 5 = .ok (.aload_n 0, 1) := by decide +kernel
theorem dX4_readsWalker_6 : decode cX4_readsWalker 6 = .ok (.invokevirtual 92, 3) := by decide +kernel
theorem dX4_readsWalker_9 : decode cX4_readsWalker 9 = .ok (.invokestatic 104, 3) := by decide +kernel
theorem dX4_readsWalker_12 : decode cX4_readsWalker 12 = .ok (.iastore, 1) := by decide +kernel
theorem dX4_readsWalker_13 : decode cX4_readsWalker 13 = .ok (.aload_n 0, 1) := by decide +kernel
theorem dX4_readsWalker_14 : decode cX4_readsWalker 14 = .ok (.getfield 50, 3) := by decide +kernel
theorem dX4_readsWalker_17 : decode cX4_readsWalker 17 = .ok (.iload_n 1, 1) := by decide +kernel
theorem dX4_readsWalker_18 : decode cX4_readsWalker 18 = .ok (.iaload, 1) := by decide +kernel
theorem dX4_readsWalker_19 : decode cX4_readsWalker 19 = .ok (.ifCond .ge 5, 3) := by decide +kernel
theorem dX4_readsWalker_22 : decode cX4_readsWalker 22 = .ok (.iconst 0, 1) := by decide +kernel
theorem dX4_readsWalker_23 : decode cX4_readsWalker 23 = .ok (.ireturn, 1) := by decide +kernel
theorem dX4_readsWalker_24 : decode cX4_readsWalker 24 = .ok (.aload_n 0, 1) := by decide +kernel
theorem dX4_readsWalker_25 : decode cX4_readsWalker 25 = .ok (.dup, 1) := by decide +kernel
theorem dX4_readsWalker_26 : decode cX4_readsWalker 26 = .ok (.getfield 89, 3) := by decide +kernel
theorem dX4_readsWalker_29 : decode cX4_readsWalker 29 = .ok (.iconst 1, 1) := by decide +kernel
theorem dX4_readsWalker_30 : decode cX4_readsWalker 30 = .ok (.iadd, 1) := by decide +kernel
theorem dX4_readsWalker_31 : decode cX4_readsWalker 31 = .ok (.putfield 89, 3) := by decide +kernel
theorem dX4_readsWalker_34 : decode cX4_readsWalker 34 = .ok (.aload_n 0, 1) := by decide +kernel
theorem dX4_readsWalker_35 : decode cX4_readsWalker 35 = .ok (.iload_n 1, 1) := by decide +kernel
theorem dX4_readsWalker_36 : decode cX4_readsWalker 36 = .ok (.iconst 1, 1) := by decide +kernel
theorem dX4_readsWalker_37 : decode cX4_readsWalker 37 = .ok (.iadd, 1) := by decide +kernel
theorem dX4_readsWalker_38 : decode cX4_readsWalker 38 = .ok (.invokevirtual 107, 3) := by decide +kernel
theorem dX4_readsWalker_41 : decode cX4_readsWalker 41 = .ok (.ifCond .ne 5, 3) := by decide +kernel
theorem dX4_readsWalker_44 : decode cX4_readsWalker 44 = .ok (.iconst 0, 1) := by decide +kernel
theorem dX4_readsWalker_45 : decode cX4_readsWalker 45 = .ok (.ireturn, 1) := by decide +kernel
theorem dX4_readsWalker_46 : decode cX4_readsWalker 46 = .ok (.aload_n 0, 1) := by decide +kernel
theorem dX4_readsWalker_47 : decode cX4_readsWalker 47 = .ok (.getfield 53, 3) := by decide +kernel
theorem dX4_readsWalker_50 : decode cX4_readsWalker 50 = .ok (.aload_n 0, 1) := by decide +kernel
theorem dX4_readsWalker_51 : decode cX4_readsWalker 51 = .ok (.getfield 111, 3) := by decide +kernel
theorem dX4_readsWalker_54 : decode cX4_readsWalker 54 = .ok (.aload_n 0, 1) := by decide +kernel
theorem dX4_readsWalker_55 : decode cX4_readsWalker 55 = .ok (.getfield 89, 3) := by decide +kernel
theorem dX4_readsWalker_58 : decode cX4_readsWalker 58 = .ok (.iastore, 1) := by decide +kernel
theorem dX4_readsWalker_59 : decode cX4_readsWalker 59 = .ok (.aload_n 0, 1) := by decide +kernel
theorem dX4_readsWalker_60 : decode cX4_readsWalker 60 = .ok (.getfield 89, 3) := by decide +kernel
theorem dX4_readsWalker_63 : decode cX4_readsWalker 63 = .ok (.aload_n 0, 1) := by decide +kernel
theorem dX4_readsWalker_64 : decode cX4_readsWalker 64 = .ok (.getfield 53, 3) := by decide +kernel
theorem dX4_readsWalker_67 : decode cX4_readsWalker 67 = .ok (.aload_n 0, 1) := by decide +kernel
theorem dX4_readsWalker_68 : decode cX4_readsWalker 68 = .ok (.getfield 111, 3) := by decide +kernel
theorem dX4_readsWalker_71 : decode cX4_readsWalker 71 = .ok (.iaload, 1) := by decide +kernel
theorem dX4_readsWalker_72 : decode cX4_readsWalker 72 = .ok (.isub, 1) := by decide +kernel
theorem dX4_readsWalker_73 : decode cX4_readsWalker 73 = .ok (.bipush 6, 2) := by decide +kernel
theorem dX4_readsWalker_75 : decode cX4_readsWalker 75 = .ok (.if_icmp .ge 23, 3) := by decide +kernel
theorem dX4_readsWalker_78 : decode cX4_readsWalker 78 = .ok (.aload_n 0, 1) := by decide +kernel
theorem dX4_readsWalker_79 : decode cX4_readsWalker 79 = .ok (.invokevirtual 100, 3) := by decide +kernel
theorem dX4_readsWalker_82 : decode cX4_readsWalker 82 = .ok (.ifCond .eq 16, 3) := by decide +kernel
theorem dX4_readsWalker_85 : decode cX4_readsWalker 85 = .ok (.aload_n 0, 1) := by decide +kernel
theorem dX4_readsWalker_86 : decode cX4_readsWalker 86 = .ok (.dup, 1) := by decide +kernel
theorem dX4_readsWalker_87 : decode cX4_readsWalker 87 = .ok (.getfield 89, 3) := by decide +kernel
theorem dX4_readsWalker_90 : decode cX4_readsWalker 90 = .ok (.iconst 1, 1) := by decide +kernel
theorem dX4_readsWalker_91 : decode cX4_readsWalker 91 = .ok (.iadd, 1) := by decide +kernel
theorem dX4_readsWalker_92 : decode cX4_readsWalker 92 = .ok (.putfield 89, 3) := by decide +kernel
theorem dX4_readsWalker_95 : decode cX4_readsWalker 95 = .ok (.goto (-36), 3) := by decide +kernel
theorem dX4_readsWalker_98 : decode cX4_readsWalker 98 = .ok (.aload_n 0, 1) := by decide +kernel
theorem dX4_readsWalker_99 : decode cX4_readsWalker 99 = .ok (.getfield 56, 3) := by decide +kernel
theorem dX4_readsWalker_102 : decode cX4_readsWalker 102 = .ok (.aload_n 0, 1) := by decide +kernel
theorem dX4_readsWalker_103 : decode cX4_readsWalker 103 = .ok (.getfield 111, 3) := by decide +kernel
theorem dX4_readsWalker_106 : decode cX4_readsWalker 106 = .ok (.aload_n 0, 1) := by decide +kernel
theorem dX4_readsWalker_107 : decode cX4_readsWalker 107 = .ok (.getfield 89, 3) := by decide +kernel
theorem dX4_readsWalker_110 : decode cX4_readsWalker 110 = .ok (.iastore, 1) := by decide +kernel
theorem dX4_readsWalker_111 : decode cX4_readsWalker 111 = .ok (.iconst 1, 1) := by decide +kernel
theorem dX4_readsWalker_112 : decode cX4_readsWalker 112 = .ok (.ireturn, 1) := by decide +kernel
theorem dX4_statement_0 : decode cX4_statement 0 = .ok (.aload_n 0, 1) := by decide +kernel
theorem dX4_statement_1 : decode cX4_statement 1 = .ok (.invokevirtual 92, 3) := by decide +kernel
theorem dX4_statement_4 : decode cX4_statement 4 = .ok (.istore_n 1, 1) := by decide +kernel
theorem dX4_statement_5 : decode cX4_statement 5 = .ok (.iload_n 1, 1) := by decide +kernel
theorem dX4_statement_6 : decode cX4_statement 6 = .ok (.bipush 112, 2) := by decide +kernel
theorem dX4_statement_8 : decode cX4_statement 8 = .ok (.if_icmp .eq 29, 3) := by decide +kernel
theorem dX4_statement_11 : decode cX4_statement 11 = .ok (.iload_n 1, 1) := by decide +kernel
theorem dX4_statement_12 : decode cX4_statement 12 = .ok (.bipush 119, 2) := by decide +kernel
theorem dX4_statement_14 : decode cX4_statement 14 = .ok (.if_icmp .eq 23, 3) := by decide +kernel
theorem dX4_statement_17 : decode cX4_statement 17 = .ok (.iload_n 1, 1) := by decide +kernel
theorem dX4_statement_18 : decode cX4_statement 18 = .ok (.bipush 114, 2) := by decide +kernel
theorem dX4_statement_20 : decode cX4_statement 20 = .ok (.if_icmp .eq 17, 3) := by decide +kernel
theorem dX4_statement_23 : decode cX4_statement 23 = .ok (.iload_n 1, 1) := by decide +kernel
theorem dX4_statement_24 : decode cX4_statement 24 = .ok (.bipush 97, 2) := by decide +kernel
theorem dX4_statement_26 : decode cX4_statement 26 = .ok (.if_icmp .eq 11, 3) := by decide +kernel
theorem dX4_statement_29 : decode cX4_statement 29 = .ok (.iload_n 1, 1) := by decide +kernel
theorem dX4_statement_30 : decode cX4_statement 30 = .ok (.bipush 110, 2) := by decide +kernel
theorem dX4_statement_32 : decode cX4_statement 32 = .ok (.if_icmp .eq 5, 3) := by decide +kernel
theorem dX4_statement_35 : decode cX4_statement 35 = .ok (.iconst 0, 1) := by decide +kernel
theorem dX4_statement_36 : decode cX4_statement 36 = .ok (.ireturn, 1) := by decide +kernel
theorem dX4_statement_37 : decode cX4_statement 37 = .ok (.aload_n 0, 1) := by decide +kernel
theorem dX4_statement_38 : decode cX4_statement 38 = .ok (.getfield 44, 3) := by decide +kernel
theorem dX4_statement_41 : decode cX4_statement 41 = .ok (.aload_n 0, 1) := by decide +kernel
theorem dX4_statement_42 : decode cX4_statement 42 = .ok (.getfield 111, 3) := by decide +kernel
theorem dX4_statement_45 : decode cX4_statement 45 = .ok (.iload_n 1, 1) := by decide +kernel
theorem dX4_statement_46 : decode cX4_statement 46 = .ok (.iastore, 1) := by decide +kernel
theorem dX4_statement_47 : decode cX4_statement 47 = .ok (.aload_n 0, 1) := by decide +kernel
theorem dX4_statement_48 : decode cX4_statement 48 = .ok (.getfield 47, 3) := by decide +kernel
theorem dX4_statement_51 : decode cX4_statement 51 = .ok (.aload_n 0, 1) := by decide +kernel
theorem dX4_statement_52 : decode cX4_statement 52 = .ok (.getfield 111, 3) := by decide +kernel
theorem dX4_statement_55 : decode cX4_statement 55 = .ok (.aload_n 0, 1) := by decide +kernel
theorem dX4_statement_56 : decode cX4_statement 56 = .ok (.getfield 89, 3) := by decide +kernel
theorem dX4_statement_59 : decode cX4_statement 59 = .ok (.iastore, 1) := by decide +kernel
theorem dX4_statement_60 : decode cX4_statement 60 = .ok (.aload_n 0, 1) := by decide +kernel
theorem dX4_statement_61 : decode cX4_statement 61 = .ok (.dup, 1) := by decide +kernel
theorem dX4_statement_62 : decode cX4_statement 62 = .ok (.getfield 89, 3) := by decide +kernel
theorem dX4_statement_65 : decode cX4_statement 65 = .ok (.iconst 1, 1) := by decide +kernel
theorem dX4_statement_66 : decode cX4_statement 66 = .ok (.iadd, 1) := by decide +kernel
theorem dX4_statement_67 : decode cX4_statement 67 = .ok (.putfield 89, 3) := by decide +kernel
theorem dX4_statement_70 : decode cX4_statement 70 = .ok (.iconst 2, 1) := by decide +kernel
theorem dX4_statement_71 : decode cX4_statement 71 = .ok (.aload_n 0, 1) := by decide +kernel
theorem dX4_statement_72 : decode cX4_statement 72 = .ok (.getfield 111, 3) := by decide +kernel
theorem dX4_statement_75 : decode cX4_statement 75 = .ok (.imul, 1) := by decide +kernel
theorem dX4_statement_76 : decode cX4_statement 76 = .ok (.istore_n 2, 1) := by decide +kernel
theorem dX4_statement_77 : decode cX4_statement 77 = .ok (.iload_n 1, 1) := by decide +kernel
theorem dX4_statement_78 : decode cX4_statement 78 = .ok (.bipush 97, 2) := by decide +kernel
theorem dX4_statement_80 : decode cX4_statement 80 = .ok (.if_icmp .ne 11, 3) := by decide +kernel
theorem dX4_statement_83 : decode cX4_statement 83 = .ok (.aload_n 0, 1) := by decide +kernel
theorem dX4_statement_84 : decode cX4_statement 84 = .ok (.iload_n 2, 1) := by decide +kernel
theorem dX4_statement_85 : decode cX4_statement 85 = .ok (.invokevirtual 114, 3) := by decide +kernel
theorem dX4_statement_88 : decode cX4_statement 88 = .ok (.goto 38, 3) := by decide +kernel
theorem dX4_statement_91 : decode cX4_statement 91 = .ok (.aload_n 0, 1) := by decide +kernel
theorem dX4_statement_92 : decode cX4_statement 92 = .ok (.iload_n 2, 1) := by decide +kernel
theorem dX4_statement_93 : decode cX4_statement 93 = .ok (.invokevirtual 107, 3) := by decide +kernel
theorem dX4_statement_96 : decode cX4_statement 96 = .ok (.ifCond .eq 29, 3) := by decide +kernel
theorem dX4_statement_99 : decode cX4_statement 99 = .ok (.iload_n 1, 1) := by decide +kernel
theorem dX4_statement_100 : decode cX4_statement 100 = .ok (.bipush 114, 2) := by decide +kernel
theorem dX4_statement_102 : decode cX4_statement 102 = .ok (.if_icmp .eq 19, 3) := by decide +kernel
theorem dX4_statement_105 : decode cX4_statement 105 = .ok (.iload_n 1, 1) := by decide +kernel
theorem dX4_statement_106 : decode cX4_statement 106 = .ok (.bipush 110, 2) := by decide +kernel
theorem dX4_statement_108 : decode cX4_statement 108 = .ok (.if_icmp .eq 13, 3) := by decide +kernel
theorem dX4_statement_111 : decode cX4_statement 111 = .ok (.aload_n 0, 1) := by decide +kernel
theorem dX4_statement_112 : decode cX4_statement 112 = .ok (.iload_n 2, 1) := by decide +kernel
theorem dX4_statement_113 : decode cX4_statement 113 = .ok (.iconst 1, 1) := by decide +kernel
theorem dX4_statement_114 : decode cX4_statement 114 = .ok (.iadd, 1) := by decide +kernel
theorem dX4_statement_115 : decode cX4_statement 115 = .ok (.invokevirtual 107, 3) := by decide +kernel
theorem dX4_statement_118 : decode cX4_statement 118 = .ok (.ifCond .eq 7, 3) := by decide +kernel
theorem dX4_statement_121 : decode cX4_statement 121 = .ok (.iconst 1, 1) := by decide +kernel
theorem dX4_statement_122 : decode cX4_statement 122 = .ok (.goto 4, 3) := by decide +kernel
theorem dX4_statement_125 : decode cX4_statement 125 = .ok (.iconst 0, 1) := by decide +kernel
theorem dX4_statement_126 : decode cX4_statement 126 = .ok (.istore_n 3, 1) := by decide +kernel
theorem dX4_statement_127 : decode cX4_statement 127 = .ok (.iload_n 3, 1) := by decide +kernel
theorem dX4_statement_128 : decode cX4_statement 128 = .ok (.ifCond .eq 12, 3) := by decide +kernel
theorem dX4_statement_131 : decode cX4_statement 131 = .ok (.aload_n 0, 1) := by decide +kernel
theorem dX4_statement_132 : decode cX4_statement 132 = .ok (.invokevirtual 92, 3) := by decide +kernel
theorem dX4_statement_135 : decode cX4_statement 135 = .ok (.bipush 59, 2) := by decide +kernel
theorem dX4_statement_137 : decode cX4_statement 137 = .ok (.if_icmp .eq 5, 3) := by decide +kernel
theorem dX4_statement_140 : decode cX4_statement 140 = .ok (.iconst 0, 1) := by decide +kernel
theorem dX4_statement_141 : decode cX4_statement 141 = .ok (.ireturn, 1) := by decide +kernel
theorem dX4_statement_142 : decode cX4_statement 142 = .ok (.aload_n 0, 1) := by decide +kernel
theorem dX4_statement_143 : decode cX4_statement 143 = .ok (.dup, 1) := by decide +kernel
theorem dX4_statement_144 : decode cX4_statement 144 = .ok (.getfield 89, 3) := by decide +kernel
theorem dX4_statement_147 : decode cX4_statement 147 = .ok (.iconst 1, 1) := by decide +kernel
theorem dX4_statement_148 : decode cX4_statement 148 = .ok (.iadd, 1) := by decide +kernel
theorem dX4_statement_149 : decode cX4_statement 149 = .ok (.putfield 89, 3) := by decide +kernel
theorem dX4_statement_152 : decode cX4_statement 152 = .ok (.iconst 1, 1) := by decide +kernel
theorem dX4_statement_153 : decode cX4_statement 153 = .ok (.ireturn, 1) := by decide +kernel
theorem dX4_comesWalker_0 : decode cX4_comesWalker 0 = .ok (.aload_n 0, 1) := by decide +kernel
theorem dX4_comesWalker_1 : decode cX4_comesWalker 1 = .ok (.getfield 50, 3) := by decide +kernel
theorem dX4_comesWalker_4 : decode cX4_comesWalker 4 = .ok (.iconst 2, 1) := by decide +kernel
theorem dX4_comesWalker_5 : decode cX4_comesWalker 5 = .ok (.iload_n 1, 1) := by decide +kernel
theorem dX4_comesWalker_6 : decode cX4_comesWalker 6 = .ok (.imul, 1) := by decide +kernel
theorem dX4_comesWalker_7 : decode cX4_comesWalker 7 = .ok (.iaload, 1) := by decide +kernel
theorem dX4_comesWalker_8 : decode cX4_comesWalker 8 = .ok (.istore_n 2, 1) := by decide +kernel
theorem dX4_comesWalker_9 : decode cX4_comesWalker 9 = .ok (.aload_n 0, 1) := by decide +kernel
theorem dX4_comesWalker_10 : decode cX4_comesWalker 10 = .ok (.getfield 50, 3) := by decide +kernel
theorem dX4_comesWalker_13 : decode cX4_comesWalker 13 = .ok (.iconst 2, 1) := by decide +kernel
theorem dX4_comesWalker_14 : decode cX4_comesWalker 14 = .ok (.iload_n 1, 1) := by decide +kernel
theorem dX4_comesWalker_15 : decode cX4_comesWalker 15 = .ok (.imul, 1) := by decide +kernel
theorem dX4_comesWalker_16 : decode cX4_comesWalker 16 = .ok (.iconst 1, 1) := by decide +kernel
theorem dX4_comesWalker_17 : decode cX4_comesWalker 17 = .ok (.iadd, 1) := by decide +kernel
theorem dX4_comesWalker_18 : decode cX4_comesWalker 18 = .ok (.iaload, 1) := by decide +kernel
theorem dX4_comesWalker_19 : decode cX4_comesWalker 19 = .ok (.istore_n 3, 1) := by decide +kernel
theorem dX4_comesWalker_20 : decode cX4_comesWalker 20 = .ok (.iload_n 3, 1) := by decide +kernel
theorem dX4_comesWalker_21 : decode cX4_comesWalker 21 = .ok (.invokestatic 117, 3) := by decide +kernel
theorem dX4_comesWalker_24 : decode cX4_comesWalker 24 = .ok (.ifCond .eq 11, 3) := by decide +kernel
theorem dX4_comesWalker_27 : decode cX4_comesWalker 27 = .ok (.aload_n 0, 1) := by decide +kernel
theorem dX4_comesWalker_28 : decode cX4_comesWalker 28 = .ok (.getfield 75, 3) := by decide +kernel
theorem dX4_comesWalker_31 : decode cX4_comesWalker 31 = .ok (.iconst 4, 1) := by decide +kernel
theorem dX4_comesWalker_32 : decode cX4_comesWalker 32 = .ok (.if_icmp .ne 5, 3) := by decide +kernel
theorem dX4_comesWalker_35 : decode cX4_comesWalker 35 = .ok (.iconst 0, 1) := by decide +kernel
theorem dX4_comesWalker_36 : decode cX4_comesWalker 36 = .ok (.ireturn, 1) := by decide +kernel
theorem dX4_comesWalker_37 : decode cX4_comesWalker 37 = .ok (.aload_n 0, 1) := by decide +kernel
theorem dX4_comesWalker_38 : decode cX4_comesWalker 38 = .ok (.getfield 28, 3) := by decide +kernel
theorem dX4_comesWalker_41 : decode cX4_comesWalker 41 = .ok (.aload_n 0, 1) := by decide +kernel
theorem dX4_comesWalker_42 : decode cX4_comesWalker 42 = .ok (.getfield 75, 3) := by decide +kernel
theorem dX4_comesWalker_45 : decode cX4_comesWalker 45 = .ok (.aload_n 0, 1) := by decide +kernel
theorem dX4_comesWalker_46 : decode cX4_comesWalker 46 = .ok (.getfield 56, 3) := by decide +kernel
theorem dX4_comesWalker_49 : decode cX4_comesWalker 49 = .ok (.iload_n 1, 1) := by decide +kernel
theorem dX4_comesWalker_50 : decode cX4_comesWalker 50 = .ok (.iaload, 1) := by decide +kernel
theorem dX4_comesWalker_51 : decode cX4_comesWalker 51 = .ok (.aload_n 0, 1) := by decide +kernel
theorem dX4_comesWalker_52 : decode cX4_comesWalker 52 = .ok (.getfield 53, 3) := by decide +kernel
theorem dX4_comesWalker_55 : decode cX4_comesWalker 55 = .ok (.iload_n 1, 1) := by decide +kernel
theorem dX4_comesWalker_56 : decode cX4_comesWalker 56 = .ok (.iaload, 1) := by decide +kernel
theorem dX4_comesWalker_57 : decode cX4_comesWalker 57 = .ok (.isub, 1) := by decide +kernel
theorem dX4_comesWalker_58 : decode cX4_comesWalker 58 = .ok (.iastore, 1) := by decide +kernel
theorem dX4_comesWalker_59 : decode cX4_comesWalker 59 = .ok (.iconst 0, 1) := by decide +kernel
theorem dX4_comesWalker_60 : decode cX4_comesWalker 60 = .ok (.istore 4, 2) := by decide +kernel
theorem dX4_comesWalker_62 : decode cX4_comesWalker 62 = .ok (.iload 4, 2) := by decide +kernel
theorem dX4_comesWalker_64 : decode cX4_comesWalker 64 = .ok (.aload_n 0, 1) := by decide +kernel
theorem dX4_comesWalker_65 : decode cX4_comesWalker 65 = .ok (.getfield 28, 3) := by decide +kernel
theorem dX4_comesWalker_68 : decode cX4_comesWalker 68 = .ok (.aload_n 0, 1) := by decide +kernel
theorem dX4_comesWalker_69 : decode cX4_comesWalker 69 = .ok (.getfield 75, 3) := by decide +kernel
theorem dX4_comesWalker_72 : decode cX4_comesWalker 72 = .ok (.iaload, 1) := by decide +kernel
theorem dX4_comesWalker_73 : decode cX4_comesWalker 73 = .ok (.if_icmp .ge 64, 3) := by decide +kernel
theorem dX4_comesWalker_76 : decode cX4_comesWalker 76 = .ok (.aload_n 0, 1) := by decide +kernel
theorem dX4_comesWalker_77 : decode cX4_comesWalker 77 = .ok (.getfield 31, 3) := by decide +kernel
theorem dX4_comesWalker_80 : decode cX4_comesWalker 80 = .ok (.bipush 6, 2) := by decide +kernel
theorem dX4_comesWalker_82 : decode cX4_comesWalker 82 = .ok (.aload_n 0, 1) := by decide +kernel
theorem dX4_comesWalker_83 : decode cX4_comesWalker 83 = .ok (.getfield 75, 3) := by decide +kernel
theorem dX4_comesWalker_86 : decode cX4_comesWalker 86 = .ok (.imul, 1) := by decide +kernel
theorem dX4_comesWalker_87 : decode cX4_comesWalker 87 = .ok (.iload 4, 2) := by decide +kernel
theorem dX4_comesWalker_89 : decode cX4_comesWalker 89 = .ok (.iadd, 1) := by decide +kernel
theorem dX4_comesWalker_90 : decode cX4_comesWalker 90 = .ok (.aload_n 0, 1) := by decide +kernel
theorem dX4_comesWalker_91 : decode cX4_comesWalker 91 = .ok (.getfield 41, 3) := by decide +kernel
theorem dX4_comesWalker_94 : decode cX4_comesWalker 94 = .ok (.aload_n 0, 1) := by decide +kernel
theorem dX4_comesWalker_95 : decode cX4_comesWalker 95 = .ok (.getfield 53, 3) := by decide +kernel
theorem dX4_comesWalker_98 : decode cX4_comesWalker 98 = .ok (.iload_n 1, 1) := by decide +kernel
theorem dX4_comesWalker_99 : decode cX4_comesWalker 99 = .ok (.iaload, 1) := by decide +kernel
theorem dX4_comesWalker_100 : decode cX4_comesWalker 100 = .ok (.iload 4, 2) := by decide +kernel
theorem dX4_comesWalker_102 : decode cX4_comesWalker 102 = .ok (.iadd, 1) := by decide +kernel
theorem dX4_comesWalker_103 : decode cX4_comesWalker 103 = .ok (.iaload, 1) := by decide +kernel
theorem dX4_comesWalker_104 : decode cX4_comesWalker 104 = .ok (.bipush 48, 2) := by decide +kernel
theorem dX4_comesWalker_106 : decode cX4_comesWalker 106 = .ok (.isub, 1) := by decide +kernel
theorem dX4_comesWalker_107 : decode cX4_comesWalker 107 = .ok (.iastore, 1) := by decide +kernel
theorem dX4_comesWalker_108 : decode cX4_comesWalker 108 = .ok (.aload_n 0, 1) := by decide +kernel
theorem dX4_comesWalker_109 : decode cX4_comesWalker 109 = .ok (.getfield 31, 3) := by decide +kernel
theorem dX4_comesWalker_112 : decode cX4_comesWalker 112 = .ok (.bipush 6, 2) := by decide +kernel
theorem dX4_comesWalker_114 : decode cX4_comesWalker 114 = .ok (.aload_n 0, 1) := by decide +kernel
theorem dX4_comesWalker_115 : decode cX4_comesWalker 115 = .ok (.getfield 75, 3) := by decide +kernel
theorem dX4_comesWalker_118 : decode cX4_comesWalker 118 = .ok (.imul, 1) := by decide +kernel
theorem dX4_comesWalker_119 : decode cX4_comesWalker 119 = .ok (.iload 4, 2) := by decide +kernel
theorem dX4_comesWalker_121 : decode cX4_comesWalker 121 = .ok (.iadd, 1) := by decide +kernel
theorem dX4_comesWalker_122 : decode cX4_comesWalker 122 = .ok (.iaload, 1) := by decide +kernel
theorem dX4_comesWalker_123 : decode cX4_comesWalker 123 = .ok (.invokestatic 117, 3) := by decide +kernel
theorem dX4_comesWalker_126 : decode cX4_comesWalker 126 = .ok (.ifCond .ne 5, 3) := by decide +kernel
theorem dX4_comesWalker_129 : decode cX4_comesWalker 129 = .ok (.iconst 0, 1) := by decide +kernel
theorem dX4_comesWalker_130 : decode cX4_comesWalker 130 = .ok (.ireturn, 1) := by decide +kernel
theorem dX4_comesWalker_131 : decode cX4_comesWalker 131 = .ok (.iinc 4 1, 3) := by decide +kernel
theorem dX4_comesWalker_134 : decode cX4_comesWalker 134 = .ok (.goto (-72), 3) := by decide +kernel
theorem dX4_comesWalker_137 : decode cX4_comesWalker 137 = .ok (.aload_n 0, 1) := by decide +kernel
theorem dX4_comesWalker_138 : decode cX4_comesWalker 138 = .ok (.getfield 22, 3) := by decide +kernel
theorem dX4_comesWalker_141 : decode cX4_comesWalker 141 = .ok (.aload_n 0, 1) := by decide +kernel
theorem dX4_comesWalker_142 : decode cX4_comesWalker 142 = .ok (.getfield 75, 3) := by decide +kernel
theorem dX4_comesWalker_145 : decode cX4_comesWalker 145 = .ok (.iload_n 2, 1) := by decide +kernel
theorem dX4_comesWalker_146 : decode cX4_comesWalker 146 = .ok (.iastore, 1) := by decide +kernel
theorem dX4_comesWalker_147 : decode cX4_comesWalker 147 = .ok (.aload_n 0, 1) := by decide +kernel
theorem dX4_comesWalker_148 : decode cX4_comesWalker 148 = .ok (.getfield 25, 3) := by decide +kernel
theorem dX4_comesWalker_151 : decode cX4_comesWalker 151 = .ok (.aload_n 0, 1) := by decide +kernel
theorem dX4_comesWalker_152 : decode cX4_comesWalker 152 = .ok (.getfield 75, 3) := by decide +kernel
theorem dX4_comesWalker_155 : decode cX4_comesWalker 155 = .ok (.iload_n 3, 1) := by decide +kernel
theorem dX4_comesWalker_156 : decode cX4_comesWalker 156 = .ok (.iastore, 1) := by decide +kernel
theorem dX4_comesWalker_157 : decode cX4_comesWalker 157 = .ok (.iconst 0, 1) := by decide +kernel
theorem dX4_comesWalker_158 : decode cX4_comesWalker 158 = .ok (.istore 4, 2) := by decide +kernel
theorem dX4_comesWalker_160 : decode cX4_comesWalker 160 = .ok (.iload 4, 2) := by decide +kernel
theorem dX4_comesWalker_162 : decode cX4_comesWalker 162 = .ok (.bipush 6, 2) := by decide +kernel
theorem dX4_comesWalker_164 : decode cX4_comesWalker 164 = .ok (.if_icmp .ge 44, 3) := by decide +kernel
theorem dX4_comesWalker_167 : decode cX4_comesWalker 167 = .ok (.aload_n 0, 1) := by decide +kernel
theorem dX4_comesWalker_168 : decode cX4_comesWalker 168 = .ok (.getfield 34, 3) := by decide +kernel
theorem dX4_comesWalker_171 : decode cX4_comesWalker 171 = .ok (.bipush 6, 2) := by decide +kernel
theorem dX4_comesWalker_173 : decode cX4_comesWalker 173 = .ok (.aload_n 0, 1) := by decide +kernel
theorem dX4_comesWalker_174 : decode cX4_comesWalker 174 = .ok (.getfield 75, 3) := by decide +kernel
theorem dX4_comesWalker_177 : decode cX4_comesWalker 177 = .ok (.imul, 1) := by decide +kernel
theorem dX4_comesWalker_178 : decode cX4_comesWalker 178 = .ok (.iload 4, 2) := by decide +kernel
theorem dX4_comesWalker_180 : decode cX4_comesWalker 180 = .ok (.iadd, 1) := by decide +kernel
theorem dX4_comesWalker_181 : decode cX4_comesWalker 181 = .ok (.iload 4, 2) := by decide +kernel
theorem dX4_comesWalker_183 : decode cX4_comesWalker 183 = .ok (.iload_n 3, 1) := by decide +kernel
theorem dX4_comesWalker_184 : decode cX4_comesWalker 184 = .ok (.if_icmp .ne 15, 3) := by decide +kernel
theorem dX4_comesWalker_187 : decode cX4_comesWalker 187 = .ok (.iload_n 2, 1) := by decide +kernel
theorem dX4_comesWalker_188 : decode cX4_comesWalker 188 = .ok (.iconst 5, 1) := by decide +kernel
theorem dX4_comesWalker_189 : decode cX4_comesWalker 189 = .ok (.if_icmp .eq 10, 3) := by decide +kernel
theorem dX4_comesWalker_192 : decode cX4_comesWalker 192 = .ok (.aload_n 0, 1) := by decide +kernel
theorem dX4_comesWalker_193 : decode cX4_comesWalker 193 = .ok (.getfield 120, 3) := by decide +kernel
theorem dX4_comesWalker_196 : decode cX4_comesWalker 196 = .ok (.goto 5, 3) := by decide +kernel
theorem dX4_comesWalker_199 : decode cX4_comesWalker 199 = .ok (.bipush (-9), 2) := by decide +kernel
theorem dX4_comesWalker_201 : decode cX4_comesWalker 201 = .ok (.iastore, 1) := by decide +kernel
theorem dX4_comesWalker_202 : decode cX4_comesWalker 202 = .ok (.iinc 4 1, 3) := by decide +kernel
theorem dX4_comesWalker_205 : decode cX4_comesWalker 205 = .ok (.goto (-45), 3) := by decide +kernel
theorem dX4_comesWalker_208 : decode cX4_comesWalker 208 = .ok (.aload_n 0, 1) := by decide +kernel
theorem dX4_comesWalker_209 : decode cX4_comesWalker 209 = .ok (.dup, 1) := by decide +kernel
theorem dX4_comesWalker_210 : decode cX4_comesWalker 210 = .ok (.getfield 75, 3) := by decide +kernel
theorem dX4_comesWalker_213 : decode cX4_comesWalker 213 = .ok (.iconst 1, 1) := by decide +kernel
theorem dX4_comesWalker_214 : decode cX4_comesWalker 214 = .ok (.iadd, 1) := by decide +kernel
theorem dX4_comesWalker_215 : decode cX4_comesWalker 215 = .ok (.putfield 75, 3) := by decide +kernel
theorem dX4_comesWalker_218 : decode cX4_comesWalker 218 = .ok (.iconst 1, 1) := by decide +kernel
theorem dX4_comesWalker_219 : decode cX4_comesWalker 219 = .ok (.ireturn, 1) := by decide +kernel
theorem dX4_comes_0 : decode cX4_comes 0 = .ok (.aload_n 0, 1) := by decide +kernel
theorem dX4_comes_1 : decode cX4_comes 1 = .ok (.getfield 50, 3) := by decide +kernel
theorem dX4_comes_4 : decode cX4_comes 4 = .ok (.iconst 2, 1) := by decide +kernel
theorem dX4_comes_5 : decode cX4_comes 5 = .ok (.iload_n 1, 1) := by decide +kernel
theorem dX4_comes_6 : decode cX4_comes 6 = .ok (.imul, 1) := by decide +kernel
theorem dX4_comes_7 : decode cX4_comes 7 = .ok (.iaload, 1) := by decide +kernel
theorem dX4_comes_8 : decode cX4_comes 8 = .ok (.istore_n 2, 1) := by decide +kernel
theorem dX4_comes_9 : decode cX4_comes 9 = .ok (.aload_n 0, 1) := by decide +kernel
theorem dX4_comes_10 : decode cX4_comes 10 = .ok (.getfield 50, 3) := by decide +kernel
theorem dX4_comes_13 : decode cX4_comes 13 = .ok (.iconst 2, 1) := by decide +kernel
theorem dX4_comes_14 : decode cX4_comes 14 = .ok (.iload_n 1, 1) := by decide +kernel
theorem dX4_comes_15 : decode cX4_comes 15 = .ok (.imul, 1) := by decide +kernel
theorem dX4_comes_16 : decode cX4_comes 16 = .ok (.iconst 1, 1) := by decide +kernel
theorem dX4_comes_17 : decode cX4_comes 17 = .ok (.iadd, 1) := by decide +kernel
theorem dX4_comes_18 : decode cX4_comes 18 = .ok (.iaload, 1) := by decide +kernel
theorem dX4_comes_19 : decode cX4_comes 19 = .ok (.istore_n 3, 1) := by decide +kernel
theorem dX4_comes_20 : decode cX4_comes 20 = .ok (.aload_n 0, 1) := by decide +kernel
theorem dX4_comes_21 : decode cX4_comes 21 = .ok (.getfield 44, 3) := by decide +kernel
theorem dX4_comes_24 : decode cX4_comes 24 = .ok (.iload_n 1, 1) := by decide +kernel
theorem dX4_comes_25 : decode cX4_comes 25 = .ok (.iaload, 1) := by decide +kernel
theorem dX4_comes_26 : decode cX4_comes 26 = .ok (.tableswitch 164 110 119 #[149, 164, 54, 164, 124, 164, 164, 164, 164, 101], 54) := by decide +kernel
theorem dX4_comes_80 : decode cX4_comes 80 = .ok (.iload_n 2, 1) := by decide +kernel
theorem dX4_comes_81 : decode cX4_comes 81 = .ok (.invokestatic 117, 3) := by decide +kernel
theorem dX4_comes_84 : decode cX4_comes 84 = .ok (.ifCond .eq 15, 3) := by decide +kernel
theorem dX4_comes_87 : decode cX4_comes 87 = .ok (.iload_n 3, 1) := by decide +kernel
theorem dX4_comes_88 : decode cX4_comes 88 = .ok (.invokestatic 117, 3) := by decide +kernel
theorem dX4_comes_91 : decode cX4_comes 91 = .ok (.ifCond .eq 8, 3) := by decide +kernel
theorem dX4_comes_94 : decode cX4_comes 94 = .ok (.iload_n 2, 1) := by decide +kernel
theorem dX4_comes_95 : decode cX4_comes 95 = .ok (.iload_n 3, 1) := by decide +kernel
theorem dX4_comes_96 : decode cX4_comes 96 = .ok (.if_icmp .ne 5, 3) := by decide +kernel
theorem dX4_comes_99 : decode cX4_comes 99 = .ok (.iconst 0, 1) := by decide +kernel
theorem dX4_comes_100 : decode cX4_comes 100 = .ok (.ireturn, 1) := by decide +kernel
theorem dX4_comes_101 : decode cX4_comes 101 = .ok (.aload_n 0, 1) := by decide +kernel
theorem dX4_comes_102 : decode cX4_comes 102 = .ok (.getfield 19, 3) := by decide +kernel
theorem dX4_comes_105 : decode cX4_comes 105 = .ok (.iload_n 2, 1) := by decide +kernel
theorem dX4_comes_106 : decode cX4_comes 106 = .ok (.dup2, 1) := by decide +kernel
theorem dX4_comes_107 : decode cX4_comes 107 = .ok (.iaload, 1) := by decide +kernel
theorem dX4_comes_108 : decode cX4_comes 108 = .ok (.iconst 1, 1) := by decide +kernel
theorem dX4_comes_109 : decode cX4_comes 109 = .ok (.iload_n 3, 1) := by decide +kernel
theorem dX4_comes_110 : decode cX4_comes 110 = .ok (.ishl, 1) := by decide +kernel
theorem dX4_comes_111 : decode cX4_comes 111 = .ok (.ixor, 1) := by decide +kernel
theorem dX4_comes_112 : decode cX4_comes 112 = .ok (.iastore, 1) := by decide +kernel
theorem dX4_comes_113 : decode cX4_comes 113 = .ok (.aload_n 0, 1) := by decide +kernel
theorem dX4_comes_114 : decode cX4_comes 114 = .ok (.getfield 19, 3) := by decide +kernel
theorem dX4_comes_117 : decode cX4_comes 117 = .ok (.iload_n 3, 1) := by decide +kernel
theorem dX4_comes_118 : decode cX4_comes 118 = .ok (.dup2, 1) := by decide +kernel
theorem dX4_comes_119 : decode cX4_comes 119 = .ok (.iaload, 1) := by decide +kernel
theorem dX4_comes_120 : decode cX4_comes 120 = .ok (.iconst 1, 1) := by decide +kernel
theorem dX4_comes_121 : decode cX4_comes 121 = .ok (.iload_n 2, 1) := by decide +kernel
theorem dX4_comes_122 : decode cX4_comes 122 = .ok (.ishl, 1) := by decide +kernel
theorem dX4_comes_123 : decode cX4_comes 123 = .ok (.ixor, 1) := by decide +kernel
theorem dX4_comes_124 : decode cX4_comes 124 = .ok (.iastore, 1) := by decide +kernel
theorem dX4_comes_125 : decode cX4_comes 125 = .ok (.iconst 1, 1) := by decide +kernel
theorem dX4_comes_126 : decode cX4_comes 126 = .ok (.ireturn, 1) := by decide +kernel
theorem dX4_comes_127 : decode cX4_comes 127 = .ok (.iload_n 2, 1) := by decide +kernel
theorem dX4_comes_128 : decode cX4_comes 128 = .ok (.invokestatic 117, 3) := by decide +kernel
theorem dX4_comes_131 : decode cX4_comes 131 = .ok (.ifCond .eq 8, 3) := by decide +kernel
theorem dX4_comes_134 : decode cX4_comes 134 = .ok (.iload_n 3, 1) := by decide +kernel
theorem dX4_comes_135 : decode cX4_comes 135 = .ok (.iconst 3, 1) := by decide +kernel
theorem dX4_comes_136 : decode cX4_comes 136 = .ok (.if_icmp .le 5, 3) := by decide +kernel
theorem dX4_comes_139 : decode cX4_comes 139 = .ok (.iconst 0, 1) := by decide +kernel
theorem dX4_comes_140 : decode cX4_comes 140 = .ok (.ireturn, 1) := by decide +kernel
theorem dX4_comes_141 : decode cX4_comes 141 = .ok (.aload_n 0, 1) := by decide +kernel
theorem dX4_comes_142 : decode cX4_comes 142 = .ok (.getfield 13, 3) := by decide +kernel
theorem dX4_comes_145 : decode cX4_comes 145 = .ok (.iload_n 2, 1) := by decide +kernel
theorem dX4_comes_146 : decode cX4_comes 146 = .ok (.iload_n 3, 1) := by decide +kernel
theorem dX4_comes_147 : decode cX4_comes 147 = .ok (.iastore, 1) := by decide +kernel
theorem dX4_comes_148 : decode cX4_comes 148 = .ok (.iconst 1, 1) := by decide +kernel
theorem dX4_comes_149 : decode cX4_comes 149 = .ok (.ireturn, 1) := by decide +kernel
theorem dX4_comes_150 : decode cX4_comes 150 = .ok (.iload_n 2, 1) := by decide +kernel
theorem dX4_comes_151 : decode cX4_comes 151 = .ok (.invokestatic 117, 3) := by decide +kernel
theorem dX4_comes_154 : decode cX4_comes 154 = .ok (.ifCond .ne 5, 3) := by decide +kernel
theorem dX4_comes_157 : decode cX4_comes 157 = .ok (.iconst 0, 1) := by decide +kernel
theorem dX4_comes_158 : decode cX4_comes 158 = .ok (.ireturn, 1) := by decide +kernel
theorem dX4_comes_159 : decode cX4_comes 159 = .ok (.aload_n 0, 1) := by decide +kernel
theorem dX4_comes_160 : decode cX4_comes 160 = .ok (.getfield 16, 3) := by decide +kernel
theorem dX4_comes_163 : decode cX4_comes 163 = .ok (.iload_n 2, 1) := by decide +kernel
theorem dX4_comes_164 : decode cX4_comes 164 = .ok (.iconst 1, 1) := by decide +kernel
theorem dX4_comes_165 : decode cX4_comes 165 = .ok (.aload_n 0, 1) := by decide +kernel
theorem dX4_comes_166 : decode cX4_comes 166 = .ok (.getfield 16, 3) := by decide +kernel
theorem dX4_comes_169 : decode cX4_comes 169 = .ok (.iload_n 2, 1) := by decide +kernel
theorem dX4_comes_170 : decode cX4_comes 170 = .ok (.iaload, 1) := by decide +kernel
theorem dX4_comes_171 : decode cX4_comes 171 = .ok (.isub, 1) := by decide +kernel
theorem dX4_comes_172 : decode cX4_comes 172 = .ok (.iastore, 1) := by decide +kernel
theorem dX4_comes_173 : decode cX4_comes 173 = .ok (.iconst 1, 1) := by decide +kernel
theorem dX4_comes_174 : decode cX4_comes 174 = .ok (.ireturn, 1) := by decide +kernel
theorem dX4_comes_175 : decode cX4_comes 175 = .ok (.aload_n 0, 1) := by decide +kernel
theorem dX4_comes_176 : decode cX4_comes 176 = .ok (.iload_n 2, 1) := by decide +kernel
theorem dX4_comes_177 : decode cX4_comes 177 = .ok (.putfield 37, 3) := by decide +kernel
theorem dX4_comes_180 : decode cX4_comes 180 = .ok (.iload_n 2, 1) := by decide +kernel
theorem dX4_comes_181 : decode cX4_comes 181 = .ok (.ifCond .le 7, 3) := by decide +kernel
theorem dX4_comes_184 : decode cX4_comes 184 = .ok (.iconst 1, 1) := by decide +kernel
theorem dX4_comes_185 : decode cX4_comes 185 = .ok (.goto 4, 3) := by decide +kernel
theorem dX4_comes_188 : decode cX4_comes 188 = .ok (.iconst 0, 1) := by decide +kernel
theorem dX4_comes_189 : decode cX4_comes 189 = .ok (.ireturn, 1) := by decide +kernel
theorem dX4_comes_190 : decode cX4_comes 190 = .ok (.aload_n 0, 1) := by decide +kernel
theorem dX4_comes_191 : decode cX4_comes 191 = .ok (.iload_n 1, 1) := by decide +kernel
theorem dX4_comes_192 : decode cX4_comes 192 = .ok (.invokevirtual 123, 3) := by decide +kernel
theorem dX4_comes_195 : decode cX4_comes 195 = .ok (.ireturn, 1) := by decide +kernel
theorem dX4_town_0 : decode cX4_town 0 = .ok (.aload_n 0, 1) := by decide +kernel
theorem dX4_town_1 : decode cX4_town 1 = .ok (.iconst 0, 1) := by decide +kernel
theorem dX4_town_2 : decode cX4_town 2 = .ok (.putfield 89, 3) := by decide +kernel
theorem dX4_town_5 : decode cX4_town 5 = .ok (.aload_n 0, 1) := by decide +kernel
theorem dX4_town_6 : decode cX4_town 6 = .ok (.iconst 0, 1) := by decide +kernel
theorem dX4_town_7 : decode cX4_town 7 = .ok (.putfield 111, 3) := by decide +kernel
theorem dX4_town_10 : decode cX4_town 10 = .ok (.iconst 1, 1) := by decide +kernel
theorem dX4_town_11 : decode cX4_town 11 = .ok (.istore_n 1, 1) := by decide +kernel
theorem dX4_town_12 : decode cX4_town 12 = .ok (.iload_n 1, 1) := by decide +kernel
theorem dX4_town_13 : decode cX4_town 13 = .ok (.ifCond .eq 47, 3) := by decide +kernel
theorem dX4_town_16 : decode cX4_town 16 = .ok (.aload_n 0, 1) := by decide +kernel
theorem dX4_town_17 : decode cX4_town 17 = .ok (.getfield 89, 3) := by decide +kernel
theorem dX4_town_20 : decode cX4_town 20 = .ok (.aload_n 0, 1) := by decide +kernel
theorem dX4_town_21 : decode cX4_town 21 = .ok (.getfield 82, 3) := by decide +kernel
theorem dX4_town_24 : decode cX4_town 24 = .ok (.if_icmp .lt 10, 3) := by decide +kernel
theorem dX4_town_27 : decode cX4_town 27 = .ok (.aload_n 0, 1) := by decide +kernel
theorem dX4_town_28 : decode cX4_town 28 = .ok (.getfield 111, 3) := by decide +kernel
theorem dX4_town_31 : decode cX4_town 31 = .ok (.ifCond .ne 29, 3) := by decide +kernel
theorem dX4_town_34 : decode cX4_town 34 = .ok (.aload_n 0, 1) := by decide +kernel
theorem dX4_town_35 : decode cX4_town 35 = .ok (.invokevirtual 126, 3) := by decide +kernel
theorem dX4_town_38 : decode cX4_town 38 = .ok (.istore_n 1, 1) := by decide +kernel
theorem dX4_town_39 : decode cX4_town 39 = .ok (.aload_n 0, 1) := by decide +kernel
theorem dX4_town_40 : decode cX4_town 40 = .ok (.dup, 1) := by decide +kernel
theorem dX4_town_41 : decode cX4_town 41 = .ok (.getfield 111, 3) := by decide +kernel
theorem dX4_town_44 : decode cX4_town 44 = .ok (.iload_n 1, 1) := by decide +kernel
theorem dX4_town_45 : decode cX4_town 45 = .ok (.ifCond .eq 7, 3) := by decide +kernel
theorem dX4_town_48 : decode cX4_town 48 = .ok (.iconst 1, 1) := by decide +kernel
theorem dX4_town_49 : decode cX4_town 49 = .ok (.goto 4, 3) := by decide +kernel
theorem dX4_town_52 : decode cX4_town 52 = .ok (.iconst 0, 1) := by decide +kernel
theorem dX4_town_53 : decode cX4_town 53 = .ok (.iadd, 1) := by decide +kernel
theorem dX4_town_54 : decode cX4_town 54 = .ok (.putfield 111, 3) := by decide +kernel
theorem dX4_town_57 : decode cX4_town 57 = .ok (.goto (-45), 3) := by decide +kernel
theorem dX4_town_60 : decode cX4_town 60 = .ok (.aload_n 0, 1) := by decide +kernel
theorem dX4_town_61 : decode cX4_town 61 = .ok (.iconst 0, 1) := by decide +kernel
theorem dX4_town_62 : decode cX4_town 62 = .ok (.putfield 82, 3) := by decide +kernel
theorem dX4_town_65 : decode cX4_town 65 = .ok (.iload_n 1, 1) := by decide +kernel
theorem dX4_town_66 : decode cX4_town 66 = .ok (.ifCond .ne 12, 3) := by decide +kernel
theorem dX4_town_69 : decode cX4_town 69 = .ok (.sipush (-1000), 3) := by decide +kernel
theorem dX4_town_72 : decode cX4_town 72 = .ok (.aload_n 0, 1) := by decide +kernel
theorem dX4_town_73 : decode cX4_town 73 = .ok (.getfield 89, 3) := by decide +kernel
theorem dX4_town_76 : decode cX4_town 76 = .ok (.isub, 1) := by decide +kernel
theorem dX4_town_77 : decode cX4_town 77 = .ok (.ireturn, 1) := by decide +kernel
theorem dX4_town_78 : decode cX4_town 78 = .ok (.aload_n 0, 1) := by decide +kernel
theorem dX4_town_79 : decode cX4_town 79 = .ok (.iconst 1, 1) := by decide +kernel
theorem dX4_town_80 : decode cX4_town 80 = .ok (.iconst 1, 1) := by decide +kernel
theorem dX4_town_81 : decode cX4_town 81 = .ok (.invokevirtual 129, 3) := by decide +kernel
theorem dX4_town_84 : decode cX4_town 84 = .ok (.iconst 0, 1) := by decide +kernel
theorem dX4_town_85 : decode cX4_town 85 = .ok (.istore_n 2, 1) := by decide +kernel
theorem dX4_town_86 : decode cX4_town 86 = .ok (.iload_n 2, 1) := by decide +kernel
theorem dX4_town_87 : decode cX4_town 87 = .ok (.aload_n 0, 1) := by decide +kernel
theorem dX4_town_88 : decode cX4_town 88 = .ok (.getfield 111, 3) := by decide +kernel
theorem dX4_town_91 : decode cX4_town 91 = .ok (.if_icmp .ge 37, 3) := by decide +kernel
theorem dX4_town_94 : decode cX4_town 94 = .ok (.aload_n 0, 1) := by decide +kernel
theorem dX4_town_95 : decode cX4_town 95 = .ok (.iload_n 2, 1) := by decide +kernel
theorem dX4_town_96 : decode cX4_town 96 = .ok (.invokevirtual 133, 3) := by decide +kernel
theorem dX4_town_99 : decode cX4_town 99 = .ok (.ifCond .eq 6, 3) := by decide +kernel
theorem dX4_town_102 : decode cX4_town 102 = .ok (.goto 20, 3) := by decide +kernel
theorem dX4_town_105 : decode cX4_town 105 = .ok (.aload_n 0, 1) := by decide +kernel
theorem dX4_town_106 : decode cX4_town 106 = .ok (.iconst 1, 1) := by decide +kernel
theorem dX4_town_107 : decode cX4_town 107 = .ok (.iconst 0, 1) := by decide +kernel
theorem dX4_town_108 : decode cX4_town 108 = .ok (.invokevirtual 129, 3) := by decide +kernel
theorem dX4_town_111 : decode cX4_town 111 = .ok (.sipush (-2000), 3) := by decide +kernel
theorem dX4_town_114 : decode cX4_town 114 = .ok (.aload_n 0, 1) := by decide +kernel
theorem dX4_town_115 : decode cX4_town 115 = .ok (.getfield 47, 3) := by decide +kernel
theorem dX4_town_118 : decode cX4_town 118 = .ok (.iload_n 2, 1) := by decide +kernel
theorem dX4_town_119 : decode cX4_town 119 = .ok (.iaload, 1) := by decide +kernel
theorem dX4_town_120 : decode cX4_town 120 = .ok (.isub, 1) := by decide +kernel
theorem dX4_town_121 : decode cX4_town 121 = .ok (.ireturn, 1) := by decide +kernel
theorem dX4_town_122 : decode cX4_town 122 = .ok (.iinc 2 1, 3) := by decide +kernel
theorem dX4_town_125 : decode cX4_town 125 = .ok (.goto (-39), 3) := by decide +kernel
theorem dX4_town_128 : decode cX4_town 128 = .ok (.aload_n 0, 1) := by decide +kernel
theorem dX4_town_129 : decode cX4_town 129 = .ok (.getfield 111, 3) := by decide +kernel
theorem dX4_town_132 : decode cX4_town 132 = .ok (.ireturn, 1) := by decide +kernel
theorem dX4_passes_0 : decode cX4_passes 0 = .ok (.iconst 0, 1) := by decide +kernel
theorem dX4_passes_1 : decode cX4_passes 1 = .ok (.istore_n 2, 1) := by decide +kernel
theorem dX4_passes_2 : decode cX4_passes 2 = .ok (.iload_n 2, 1) := by decide +kernel
theorem dX4_passes_3 : decode cX4_passes 3 = .ok (.aload_n 1, 1) := by decide +kernel
theorem dX4_passes_4 : decode cX4_passes 4 = .ok (.arraylength, 1) := by decide +kernel
theorem dX4_passes_5 : decode cX4_passes 5 = .ok (.if_icmp .ge 53, 3) := by decide +kernel
theorem dX4_passes_8 : decode cX4_passes 8 = .ok (.aload_n 0, 1) := by decide +kernel
theorem dX4_passes_9 : decode cX4_passes 9 = .ok (.getfield 136, 3) := by decide +kernel
theorem dX4_passes_12 : decode cX4_passes 12 = .ok (.ifCond .eq 18, 3) := by decide +kernel
theorem dX4_passes_15 : decode cX4_passes 15 = .ok (.aload_n 0, 1) := by decide +kernel
theorem dX4_passes_16 : decode cX4_passes 16 = .ok (.getfield 59, 3) := by decide +kernel
theorem dX4_passes_19 : decode cX4_passes 19 = .ok (.aload_n 0, 1) := by decide +kernel
theorem dX4_passes_20 : decode cX4_passes 20 = .ok (.getfield 140, 3) := by decide +kernel
theorem dX4_passes_23 : decode cX4_passes 23 = .ok (.aload_n 1, 1) := by decide +kernel
theorem dX4_passes_24 : decode cX4_passes 24 = .ok (.iload_n 2, 1) := by decide +kernel
theorem dX4_passes_25 : decode cX4_passes 25 = .ok (.iaload, 1) := by decide +kernel
theorem dX4_passes_26 : decode cX4_passes 26 = .ok (.iastore, 1) := by decide +kernel
theorem dX4_passes_27 : decode cX4_passes 27 = .ok (.goto 15, 3) := by decide +kernel
theorem dX4_passes_30 : decode cX4_passes 30 = .ok (.aload_n 1, 1) := by decide +kernel
theorem dX4_passes_31 : decode cX4_passes 31 = .ok (.iload_n 2, 1) := by decide +kernel
theorem dX4_passes_32 : decode cX4_passes 32 = .ok (.aload_n 0, 1) := by decide +kernel
theorem dX4_passes_33 : decode cX4_passes 33 = .ok (.getfield 59, 3) := by decide +kernel
theorem dX4_passes_36 : decode cX4_passes 36 = .ok (.aload_n 0, 1) := by decide +kernel
theorem dX4_passes_37 : decode cX4_passes 37 = .ok (.getfield 140, 3) := by decide +kernel
theorem dX4_passes_40 : decode cX4_passes 40 = .ok (.iaload, 1) := by decide +kernel
theorem dX4_passes_41 : decode cX4_passes 41 = .ok (.iastore, 1) := by decide +kernel
theorem dX4_passes_42 : decode cX4_passes 42 = .ok (.aload_n 0, 1) := by decide +kernel
theorem dX4_passes_43 : decode cX4_passes 43 = .ok (.dup, 1) := by decide +kernel
theorem dX4_passes_44 : decode cX4_passes 44 = .ok (.getfield 140, 3) := by decide +kernel
theorem dX4_passes_47 : decode cX4_passes 47 = .ok (.iconst 1, 1) := by decide +kernel
theorem dX4_passes_48 : decode cX4_passes 48 = .ok (.iadd, 1) := by decide +kernel
theorem dX4_passes_49 : decode cX4_passes 49 = .ok (.putfield 140, 3) := by decide +kernel
theorem dX4_passes_52 : decode cX4_passes 52 = .ok (.iinc 2 1, 3) := by decide +kernel
theorem dX4_passes_55 : decode cX4_passes 55 = .ok (.goto (-53), 3) := by decide +kernel
theorem dX4_passes_58 : decode cX4_passes 58 = .ok (.return_, 1) := by decide +kernel
theorem dX4_passOne_0 : decode cX4_passOne 0 = .ok (.aload_n 0, 1) := by decide +kernel
theorem dX4_passOne_1 : decode cX4_passOne 1 = .ok (.getfield 136, 3) := by decide +kernel
theorem dX4_passOne_4 : decode cX4_passOne 4 = .ok (.ifCond .eq 7, 3) := by decide +kernel
theorem dX4_passOne_7 : decode cX4_passOne 7 = .ok (.iload_n 1, 1) := by decide +kernel
theorem dX4_passOne_8 : decode cX4_passOne 8 = .ok (.goto 12, 3) := by decide +kernel
theorem dX4_passOne_11 : decode cX4_passOne 11 = .ok (.aload_n 0, 1) := by decide +kernel
theorem dX4_passOne_12 : decode cX4_passOne 12 = .ok (.getfield 59, 3) := by decide +kernel
theorem dX4_passOne_15 : decode cX4_passOne 15 = .ok (.aload_n 0, 1) := by decide +kernel
theorem dX4_passOne_16 : decode cX4_passOne 16 = .ok (.getfield 140, 3) := by decide +kernel
theorem dX4_passOne_19 : decode cX4_passOne 19 = .ok (.iaload, 1) := by decide +kernel
theorem dX4_passOne_20 : decode cX4_passOne 20 = .ok (.istore_n 2, 1) := by decide +kernel
theorem dX4_passOne_21 : decode cX4_passOne 21 = .ok (.aload_n 0, 1) := by decide +kernel
theorem dX4_passOne_22 : decode cX4_passOne 22 = .ok (.getfield 136, 3) := by decide +kernel
theorem dX4_passOne_25 : decode cX4_passOne 25 = .ok (.ifCond .eq 13, 3) := by decide +kernel
theorem dX4_passOne_28 : decode cX4_passOne 28 = .ok (.aload_n 0, 1) := by decide +kernel
theorem dX4_passOne_29 : decode cX4_passOne 29 = .ok (.getfield 59, 3) := by decide +kernel
theorem dX4_passOne_32 : decode cX4_passOne 32 = .ok (.aload_n 0, 1) := by decide +kernel
theorem dX4_passOne_33 : decode cX4_passOne 33 = .ok (.getfield 140, 3) := by decide +kernel
theorem dX4_passOne_36 : decode cX4_passOne 36 = .ok (.iload_n 1, 1) := by decide +kernel
theorem dX4_passOne_37 : decode cX4_passOne 37 = .ok (.iastore, 1) := by decide +kernel
theorem dX4_passOne_38 : decode cX4_passOne 38 = .ok (.aload_n 0, 1) := by decide +kernel
theorem dX4_passOne_39 : decode cX4_passOne 39 = .ok (.dup, 1) := by decide +kernel
theorem dX4_passOne_40 : decode cX4_passOne 40 = .ok (.getfield 140, 3) := by decide +kernel
theorem dX4_passOne_43 : decode cX4_passOne 43 = .ok (.iconst 1, 1) := by decide +kernel
theorem dX4_passOne_44 : decode cX4_passOne 44 = .ok (.iadd, 1) := by decide +kernel
theorem dX4_passOne_45 : decode cX4_passOne 45 = .ok (.putfield 140, 3) := by decide +kernel
theorem dX4_passOne_48 : decode cX4_passOne 48 = .ok (.iload_n 2, 1) := by decide +kernel
theorem dX4_passOne_49 : decode cX4_passOne 49 = .ok (.ireturn, 1) := by decide +kernel
theorem dX4_passesAll_0 : decode cX4_passesAll 0 = .ok (.aload_n 0, 1) := by decide +kernel
theorem dX4_passesAll_1 : decode cX4_passesAll 1 = .ok (.bipush 85, 2) := by decide +kernel
theorem dX4_passesAll_3 : decode cX4_passesAll 3 = .ok (.iload_n 1, 1) := by decide +kernel
theorem dX4_passesAll_4 : decode cX4_passesAll 4 = .ok (.imul, 1) := by decide +kernel
theorem dX4_passesAll_5 : decode cX4_passesAll 5 = .ok (.putfield 140, 3) := by decide +kernel
theorem dX4_passesAll_8 : decode cX4_passesAll 8 = .ok (.aload_n 0, 1) := by decide +kernel
theorem dX4_passesAll_9 : decode cX4_passesAll 9 = .ok (.iload_n 2, 1) := by decide +kernel
theorem dX4_passesAll_10 : decode cX4_passesAll 10 = .ok (.putfield 136, 3) := by decide +kernel
theorem dX4_passesAll_13 : decode cX4_passesAll 13 = .ok (.aload_n 0, 1) := by decide +kernel
theorem dX4_passesAll_14 : decode cX4_passesAll 14 = .ok (.aload_n 0, 1) := by decide +kernel
theorem dX4_passesAll_15 : decode cX4_passesAll 15 = .ok (.getfield 13, 3) := by decide +kernel
theorem dX4_passesAll_18 : decode cX4_passesAll 18 = .ok (.invokevirtual 143, 3) := by decide +kernel
theorem dX4_passesAll_21 : decode cX4_passesAll 21 = .ok (.aload_n 0, 1) := by decide +kernel
theorem dX4_passesAll_22 : decode cX4_passesAll 22 = .ok (.aload_n 0, 1) := by decide +kernel
theorem dX4_passesAll_23 : decode cX4_passesAll 23 = .ok (.getfield 16, 3) := by decide +kernel
theorem dX4_passesAll_26 : decode cX4_passesAll 26 = .ok (.invokevirtual 143, 3) := by decide +kernel
theorem dX4_passesAll_29 : decode cX4_passesAll 29 = .ok (.aload_n 0, 1) := by decide +kernel
theorem dX4_passesAll_30 : decode cX4_passesAll 30 = .ok (.aload_n 0, 1) := by decide +kernel
theorem dX4_passesAll_31 : decode cX4_passesAll 31 = .ok (.getfield 19, 3) := by decide +kernel
theorem dX4_passesAll_34 : decode cX4_passesAll 34 = .ok (.invokevirtual 143, 3) := by decide +kernel
theorem dX4_passesAll_37 : decode cX4_passesAll 37 = .ok (.aload_n 0, 1) := by decide +kernel
theorem dX4_passesAll_38 : decode cX4_passesAll 38 = .ok (.aload_n 0, 1) := by decide +kernel
theorem dX4_passesAll_39 : decode cX4_passesAll 39 = .ok (.getfield 22, 3) := by decide +kernel
theorem dX4_passesAll_42 : decode cX4_passesAll 42 = .ok (.invokevirtual 143, 3) := by decide +kernel
theorem dX4_passesAll_45 : decode cX4_passesAll 45 = .ok (.aload_n 0, 1) := by decide +kernel
theorem dX4_passesAll_46 : decode cX4_passesAll 46 = .ok (.aload_n 0, 1) := by decide +kernel
theorem dX4_passesAll_47 : decode cX4_passesAll 47 = .ok (.getfield 25, 3) := by decide +kernel
theorem dX4_passesAll_50 : decode cX4_passesAll 50 = .ok (.invokevirtual 143, 3) := by decide +kernel
theorem dX4_passesAll_53 : decode cX4_passesAll 53 = .ok (.aload_n 0, 1) := by decide +kernel
theorem dX4_passesAll_54 : decode cX4_passesAll 54 = .ok (.aload_n 0, 1) := by decide +kernel
theorem dX4_passesAll_55 : decode cX4_passesAll 55 = .ok (.getfield 28, 3) := by decide +kernel
theorem dX4_passesAll_58 : decode cX4_passesAll 58 = .ok (.invokevirtual 143, 3) := by decide +kernel
theorem dX4_passesAll_61 : decode cX4_passesAll 61 = .ok (.aload_n 0, 1) := by decide +kernel
theorem dX4_passesAll_62 : decode cX4_passesAll 62 = .ok (.aload_n 0, 1) := by decide +kernel
theorem dX4_passesAll_63 : decode cX4_passesAll 63 = .ok (.getfield 31, 3) := by decide +kernel
theorem dX4_passesAll_66 : decode cX4_passesAll 66 = .ok (.invokevirtual 143, 3) := by decide +kernel
theorem dX4_passesAll_69 : decode cX4_passesAll 69 = .ok (.aload_n 0, 1) := by decide +kernel
theorem dX4_passesAll_70 : decode cX4_passesAll 70 = .ok (.aload_n 0, 1) := by decide +kernel
theorem dX4_passesAll_71 : decode cX4_passesAll 71 = .ok (.getfield 34, 3) := by decide +kernel
theorem dX4_passesAll_74 : decode cX4_passesAll 74 = .ok (.invokevirtual 143, 3) := by decide +kernel
theorem dX4_passesAll_77 : decode cX4_passesAll 77 = .ok (.aload_n 0, 1) := by decide +kernel
theorem dX4_passesAll_78 : decode cX4_passesAll 78 = .ok (.aload_n 0, 1) := by decide +kernel
theorem dX4_passesAll_79 : decode cX4_passesAll 79 = .ok (.aload_n 0, 1) := by decide +kernel
theorem dX4_passesAll_80 : decode cX4_passesAll 80 = .ok (.getfield 75, 3) := by decide +kernel
theorem dX4_passesAll_83 : decode cX4_passesAll 83 = .ok (.invokevirtual 147, 3) := by decide +kernel
theorem dX4_passesAll_86 : decode cX4_passesAll 86 = .ok (.putfield 75, 3) := by decide +kernel
theorem dX4_passesAll_89 : decode cX4_passesAll 89 = .ok (.aload_n 0, 1) := by decide +kernel
theorem dX4_passesAll_90 : decode cX4_passesAll 90 = .ok (.aload_n 0, 1) := by decide +kernel
theorem dX4_passesAll_91 : decode cX4_passesAll 91 = .ok (.aload_n 0, 1) := by decide +kernel
theorem dX4_passesAll_92 : decode cX4_passesAll 92 = .ok (.getfield 120, 3) := by decide +kernel
theorem dX4_passesAll_95 : decode cX4_passesAll 95 = .ok (.invokevirtual 147, 3) := by decide +kernel
theorem dX4_passesAll_98 : decode cX4_passesAll 98 = .ok (.putfield 120, 3) := by decide +kernel
theorem dX4_passesAll_101 : decode cX4_passesAll 101 = .ok (.aload_n 0, 1) := by decide +kernel
theorem dX4_passesAll_102 : decode cX4_passesAll 102 = .ok (.aload_n 0, 1) := by decide +kernel
theorem dX4_passesAll_103 : decode cX4_passesAll 103 = .ok (.aload_n 0, 1) := by decide +kernel
theorem dX4_passesAll_104 : decode cX4_passesAll 104 = .ok (.getfield 37, 3) := by decide +kernel
theorem dX4_passesAll_107 : decode cX4_passesAll 107 = .ok (.invokevirtual 147, 3) := by decide +kernel
theorem dX4_passesAll_110 : decode cX4_passesAll 110 = .ok (.putfield 37, 3) := by decide +kernel
theorem dX4_passesAll_113 : decode cX4_passesAll 113 = .ok (.return_, 1) := by decide +kernel
theorem dX4_image_0 : decode cX4_image 0 = .ok (.aload_n 0, 1) := by decide +kernel
theorem dX4_image_1 : decode cX4_image 1 = .ok (.iconst 1, 1) := by decide +kernel
theorem dX4_image_2 : decode cX4_image 2 = .ok (.putfield 150, 3) := by decide +kernel
theorem dX4_image_5 : decode cX4_image 5 = .ok (.aload_n 0, 1) := by decide +kernel
theorem dX4_image_6 : decode cX4_image 6 = .ok (.iconst 0, 1) := by decide +kernel
theorem dX4_image_7 : decode cX4_image 7 = .ok (.iconst 1, 1) := by decide +kernel
theorem dX4_image_8 : decode cX4_image 8 = .ok (.invokevirtual 129, 3) := by decide +kernel
theorem dX4_image_11 : decode cX4_image 11 = .ok (.aload_n 0, 1) := by decide +kernel
theorem dX4_image_12 : decode cX4_image 12 = .ok (.getfield 120, 3) := by decide +kernel
theorem dX4_image_15 : decode cX4_image 15 = .ok (.ireturn, 1) := by decide +kernel
theorem dX4_on_0 : decode cX4_on 0 = .ok (.aload_n 0, 1) := by decide +kernel
theorem dX4_on_1 : decode cX4_on 1 = .ok (.getfield 150, 3) := by decide +kernel
theorem dX4_on_4 : decode cX4_on 4 = .ok (.ifCond .ne 10, 3) := by decide +kernel
theorem dX4_on_7 : decode cX4_on 7 = .ok (.aload_n 0, 1) := by decide +kernel
theorem dX4_on_8 : decode cX4_on 8 = .ok (.bipush (-3), 2) := by decide +kernel
theorem dX4_on_10 : decode cX4_on 10 = .ok (.invokevirtual 85, 3) := by decide +kernel
theorem dX4_on_13 : decode cX4_on 13 = .ok (.ireturn, 1) := by decide +kernel
theorem dX4_on_14 : decode cX4_on 14 = .ok (.aload_n 0, 1) := by decide +kernel
theorem dX4_on_15 : decode cX4_on 15 = .ok (.iconst 0, 1) := by decide +kernel
theorem dX4_on_16 : decode cX4_on 16 = .ok (.iconst 0, 1) := by decide +kernel
theorem dX4_on_17 : decode cX4_on 17 = .ok (.invokevirtual 129, 3) := by decide +kernel
theorem dX4_on_20 : decode cX4_on 20 = .ok (.aload_n 0, 1) := by decide +kernel
theorem dX4_on_21 : decode cX4_on 21 = .ok (.getfield 120, 3) := by decide +kernel
theorem dX4_on_24 : decode cX4_on 24 = .ok (.ireturn, 1) := by decide +kernel
theorem dX4_isTrace_0 : decode cX4_isTrace 0 = .ok (.iload_n 1, 1) := by decide +kernel
theorem dX4_isTrace_1 : decode cX4_isTrace 1 = .ok (.aload_n 0, 1) := by decide +kernel
theorem dX4_isTrace_2 : decode cX4_isTrace 2 = .ok (.getfield 75, 3) := by decide +kernel
theorem dX4_isTrace_5 : decode cX4_isTrace 5 = .ok (.if_icmp .ge 21, 3) := by decide +kernel
theorem dX4_isTrace_8 : decode cX4_isTrace 8 = .ok (.aload_n 0, 1) := by decide +kernel
theorem dX4_isTrace_9 : decode cX4_isTrace 9 = .ok (.getfield 34, 3) := by decide +kernel
theorem dX4_isTrace_12 : decode cX4_isTrace 12 = .ok (.bipush 6, 2) := by decide +kernel
theorem dX4_isTrace_14 : decode cX4_isTrace 14 = .ok (.iload_n 1, 1) := by decide +kernel
theorem dX4_isTrace_15 : decode cX4_isTrace 15 = .ok (.imul, 1) := by decide +kernel
theorem dX4_isTrace_16 : decode cX4_isTrace 16 = .ok (.iload_n 2, 1) := by decide +kernel
theorem dX4_isTrace_17 : decode cX4_isTrace 17 = .ok (.iadd, 1) := by decide +kernel
theorem dX4_isTrace_18 : decode cX4_isTrace 18 = .ok (.iaload, 1) := by decide +kernel
theorem dX4_isTrace_19 : decode cX4_isTrace 19 = .ok (.ifCond .lt 7, 3) := by decide +kernel
theorem dX4_isTrace_22 : decode cX4_isTrace 22 = .ok (.iconst 1, 1) := by decide +kernel
theorem dX4_isTrace_23 : decode cX4_isTrace 23 = .ok (.goto 4, 3) := by decide +kernel
theorem dX4_isTrace_26 : decode cX4_isTrace 26 = .ok (.iconst 0, 1) := by decide +kernel
theorem dX4_isTrace_27 : decode cX4_isTrace 27 = .ok (.ireturn, 1) := by decide +kernel
theorem dX4_ageOf_0 : decode cX4_ageOf 0 = .ok (.aload_n 0, 1) := by decide +kernel
theorem dX4_ageOf_1 : decode cX4_ageOf 1 = .ok (.getfield 120, 3) := by decide +kernel
theorem dX4_ageOf_4 : decode cX4_ageOf 4 = .ok (.aload_n 0, 1) := by decide +kernel
theorem dX4_ageOf_5 : decode cX4_ageOf 5 = .ok (.getfield 34, 3) := by decide +kernel
theorem dX4_ageOf_8 : decode cX4_ageOf 8 = .ok (.bipush 6, 2) := by decide +kernel
theorem dX4_ageOf_10 : decode cX4_ageOf 10 = .ok (.iload_n 1, 1) := by decide +kernel
theorem dX4_ageOf_11 : decode cX4_ageOf 11 = .ok (.imul, 1) := by decide +kernel
theorem dX4_ageOf_12 : decode cX4_ageOf 12 = .ok (.iload_n 2, 1) := by decide +kernel
theorem dX4_ageOf_13 : decode cX4_ageOf 13 = .ok (.iadd, 1) := by decide +kernel
theorem dX4_ageOf_14 : decode cX4_ageOf 14 = .ok (.iaload, 1) := by decide +kernel
theorem dX4_ageOf_15 : decode cX4_ageOf 15 = .ok (.isub, 1) := by decide +kernel
theorem dX4_ageOf_16 : decode cX4_ageOf 16 = .ok (.iconst 1, 1) := by decide +kernel
theorem dX4_ageOf_17 : decode cX4_ageOf 17 = .ok (.aload_n 0, 1) := by decide +kernel
theorem dX4_ageOf_18 : decode cX4_ageOf 18 = .ok (.getfield 13, 3) := by decide +kernel
theorem dX4_ageOf_21 : decode cX4_ageOf 21 = .ok (.iload_n 2, 1) := by decide +kernel
theorem dX4_ageOf_22 : decode cX4_ageOf 22 = .ok (.iaload, 1) := by decide +kernel
theorem dX4_ageOf_23 : decode cX4_ageOf 23 = .ok (.iadd, 1) := by decide +kernel
theorem dX4_ageOf_24 : decode cX4_ageOf 24 = .ok (.imul, 1) := by decide +kernel
theorem dX4_ageOf_25 : decode cX4_ageOf 25 = .ok (.istore_n 3, 1) := by decide +kernel
theorem dX4_ageOf_26 : decode cX4_ageOf 26 = .ok (.aload_n 0, 1) := by decide +kernel
theorem dX4_ageOf_27 : decode cX4_ageOf 27 = .ok (.getfield 22, 3) := by decide +kernel
theorem dX4_ageOf_30 : decode cX4_ageOf 30 = .ok (.iload_n 1, 1) := by decide +kernel
theorem dX4_ageOf_31 : decode cX4_ageOf 31 = .ok (.iaload, 1) := by decide +kernel
theorem dX4_ageOf_32 : decode cX4_ageOf 32 = .ok (.iconst 3, 1) := by decide +kernel
theorem dX4_ageOf_33 : decode cX4_ageOf 33 = .ok (.if_icmp .ne 9, 3) := by decide +kernel
theorem dX4_ageOf_36 : decode cX4_ageOf 36 = .ok (.iload_n 3, 1) := by decide +kernel
theorem dX4_ageOf_37 : decode cX4_ageOf 37 = .ok (.iconst 2, 1) := by decide +kernel
theorem dX4_ageOf_38 : decode cX4_ageOf 38 = .ok (.idiv, 1) := by decide +kernel
theorem dX4_ageOf_39 : decode cX4_ageOf 39 = .ok (.goto 4, 3) := by decide +kernel
theorem dX4_ageOf_42 : decode cX4_ageOf 42 = .ok (.iload_n 3, 1) := by decide +kernel
theorem dX4_ageOf_43 : decode cX4_ageOf 43 = .ok (.ireturn, 1) := by decide +kernel
theorem dX4_tracesIn_0 : decode cX4_tracesIn 0 = .ok (.iconst 0, 1) := by decide +kernel
theorem dX4_tracesIn_1 : decode cX4_tracesIn 1 = .ok (.istore_n 2, 1) := by decide +kernel
theorem dX4_tracesIn_2 : decode cX4_tracesIn 2 = .ok (.iconst 0, 1) := by decide +kernel
theorem dX4_tracesIn_3 : decode cX4_tracesIn 3 = .ok (.istore_n 3, 1) := by decide +kernel
theorem dX4_tracesIn_4 : decode cX4_tracesIn 4 = .ok (.iload_n 3, 1) := by decide +kernel
theorem dX4_tracesIn_5 : decode cX4_tracesIn 5 = .ok (.aload_n 0, 1) := by decide +kernel
theorem dX4_tracesIn_6 : decode cX4_tracesIn 6 = .ok (.getfield 75, 3) := by decide +kernel
theorem dX4_tracesIn_9 : decode cX4_tracesIn 9 = .ok (.if_icmp .ge 26, 3) := by decide +kernel
theorem dX4_tracesIn_12 : decode cX4_tracesIn 12 = .ok (.iload_n 2, 1) := by decide +kernel
theorem dX4_tracesIn_13 : decode cX4_tracesIn 13 = .ok (.aload_n 0, 1) := by decide +kernel
theorem dX4_tracesIn_14 : decode cX4_tracesIn 14 = .ok (.iload_n 3, 1) := by decide +kernel
theorem dX4_tracesIn_15 : decode cX4_tracesIn 15 = .ok (.iload_n 1, 1) := by decide +kernel
theorem dX4_tracesIn_16 : decode cX4_tracesIn 16 = .ok (.invokevirtual 153, 3) := by decide +kernel
theorem dX4_tracesIn_19 : decode cX4_tracesIn 19 = .ok (.ifCond .eq 7, 3) := by decide +kernel
theorem dX4_tracesIn_22 : decode cX4_tracesIn 22 = .ok (.iconst 1, 1) := by decide +kernel
theorem dX4_tracesIn_23 : decode cX4_tracesIn 23 = .ok (.goto 4, 3) := by decide +kernel
theorem dX4_tracesIn_26 : decode cX4_tracesIn 26 = .ok (.iconst 0, 1) := by decide +kernel
theorem dX4_tracesIn_27 : decode cX4_tracesIn 27 = .ok (.iadd, 1) := by decide +kernel
theorem dX4_tracesIn_28 : decode cX4_tracesIn 28 = .ok (.istore_n 2, 1) := by decide +kernel
theorem dX4_tracesIn_29 : decode cX4_tracesIn 29 = .ok (.iinc 3 1, 3) := by decide +kernel
theorem dX4_tracesIn_32 : decode cX4_tracesIn 32 = .ok (.goto (-28), 3) := by decide +kernel
theorem dX4_tracesIn_35 : decode cX4_tracesIn 35 = .ok (.iload_n 2, 1) := by decide +kernel
theorem dX4_tracesIn_36 : decode cX4_tracesIn 36 = .ok (.ireturn, 1) := by decide +kernel
theorem dX4_endAge_0 : decode cX4_endAge 0 = .ok (.bipush (-9), 2) := by decide +kernel
theorem dX4_endAge_2 : decode cX4_endAge 2 = .ok (.istore 4, 2) := by decide +kernel
theorem dX4_endAge_4 : decode cX4_endAge 4 = .ok (.iconst 0, 1) := by decide +kernel
theorem dX4_endAge_5 : decode cX4_endAge 5 = .ok (.istore 5, 2) := by decide +kernel
theorem dX4_endAge_7 : decode cX4_endAge 7 = .ok (.iload 5, 2) := by decide +kernel
theorem dX4_endAge_9 : decode cX4_endAge 9 = .ok (.aload_n 0, 1) := by decide +kernel
theorem dX4_endAge_10 : decode cX4_endAge 10 = .ok (.getfield 75, 3) := by decide +kernel
theorem dX4_endAge_13 : decode cX4_endAge 13 = .ok (.if_icmp .ge 67, 3) := by decide +kernel
theorem dX4_endAge_16 : decode cX4_endAge 16 = .ok (.iload 5, 2) := by decide +kernel
theorem dX4_endAge_18 : decode cX4_endAge 18 = .ok (.iload_n 2, 1) := by decide +kernel
theorem dX4_endAge_19 : decode cX4_endAge 19 = .ok (.if_icmp .eq 55, 3) := by decide +kernel
theorem dX4_endAge_22 : decode cX4_endAge 22 = .ok (.aload_n 0, 1) := by decide +kernel
theorem dX4_endAge_23 : decode cX4_endAge 23 = .ok (.iload 5, 2) := by decide +kernel
theorem dX4_endAge_25 : decode cX4_endAge 25 = .ok (.iload_n 1, 1) := by decide +kernel
theorem dX4_endAge_26 : decode cX4_endAge 26 = .ok (.invokevirtual 153, 3) := by decide +kernel
theorem dX4_endAge_29 : decode cX4_endAge 29 = .ok (.ifCond .ne 6, 3) := by decide +kernel
theorem dX4_endAge_32 : decode cX4_endAge 32 = .ok (.goto 42, 3) := by decide +kernel
theorem dX4_endAge_35 : decode cX4_endAge 35 = .ok (.aload_n 0, 1) := by decide +kernel
theorem dX4_endAge_36 : decode cX4_endAge 36 = .ok (.iload 5, 2) := by decide +kernel
theorem dX4_endAge_38 : decode cX4_endAge 38 = .ok (.iload_n 1, 1) := by decide +kernel
theorem dX4_endAge_39 : decode cX4_endAge 39 = .ok (.invokevirtual 157, 3) := by decide +kernel
theorem dX4_endAge_42 : decode cX4_endAge 42 = .ok (.istore 6, 2) := by decide +kernel
theorem dX4_endAge_44 : decode cX4_endAge 44 = .ok (.iload 4, 2) := by decide +kernel
theorem dX4_endAge_46 : decode cX4_endAge 46 = .ok (.ifCond .lt 24, 3) := by decide +kernel
theorem dX4_endAge_49 : decode cX4_endAge 49 = .ok (.iload_n 3, 1) := by decide +kernel
theorem dX4_endAge_50 : decode cX4_endAge 50 = .ok (.ifCond .eq 13, 3) := by decide +kernel
theorem dX4_endAge_53 : decode cX4_endAge 53 = .ok (.iload 6, 2) := by decide +kernel
theorem dX4_endAge_55 : decode cX4_endAge 55 = .ok (.iload 4, 2) := by decide +kernel
theorem dX4_endAge_57 : decode cX4_endAge 57 = .ok (.if_icmp .le 17, 3) := by decide +kernel
theorem dX4_endAge_60 : decode cX4_endAge 60 = .ok (.goto 10, 3) := by decide +kernel
theorem dX4_endAge_63 : decode cX4_endAge 63 = .ok (.iload 6, 2) := by decide +kernel
theorem dX4_endAge_65 : decode cX4_endAge 65 = .ok (.iload 4, 2) := by decide +kernel
theorem dX4_endAge_67 : decode cX4_endAge 67 = .ok (.if_icmp .ge 7, 3) := by decide +kernel
theorem dX4_endAge_70 : decode cX4_endAge 70 = .ok (.iload 6, 2) := by decide +kernel
theorem dX4_endAge_72 : decode cX4_endAge 72 = .ok (.istore 4, 2) := by decide +kernel
theorem dX4_endAge_74 : decode cX4_endAge 74 = .ok (.iinc 5 1, 3) := by decide +kernel
theorem dX4_endAge_77 : decode cX4_endAge 77 = .ok (.goto (-70), 3) := by decide +kernel
theorem dX4_endAge_80 : decode cX4_endAge 80 = .ok (.iload 4, 2) := by decide +kernel
theorem dX4_endAge_82 : decode cX4_endAge 82 = .ok (.ireturn, 1) := by decide +kernel
theorem dX4_toldApart_0 : decode cX4_toldApart 0 = .ok (.iconst 0, 1) := by decide +kernel
theorem dX4_toldApart_1 : decode cX4_toldApart 1 = .ok (.istore_n 2, 1) := by decide +kernel
theorem dX4_toldApart_2 : decode cX4_toldApart 2 = .ok (.iconst 0, 1) := by decide +kernel
theorem dX4_toldApart_3 : decode cX4_toldApart 3 = .ok (.istore_n 3, 1) := by decide +kernel
theorem dX4_toldApart_4 : decode cX4_toldApart 4 = .ok (.iload_n 3, 1) := by decide +kernel
theorem dX4_toldApart_5 : decode cX4_toldApart 5 = .ok (.aload_n 0, 1) := by decide +kernel
theorem dX4_toldApart_6 : decode cX4_toldApart 6 = .ok (.getfield 75, 3) := by decide +kernel
theorem dX4_toldApart_9 : decode cX4_toldApart 9 = .ok (.if_icmp .ge 93, 3) := by decide +kernel
theorem dX4_toldApart_12 : decode cX4_toldApart 12 = .ok (.aload_n 0, 1) := by decide +kernel
theorem dX4_toldApart_13 : decode cX4_toldApart 13 = .ok (.iload_n 3, 1) := by decide +kernel
theorem dX4_toldApart_14 : decode cX4_toldApart 14 = .ok (.iload_n 1, 1) := by decide +kernel
theorem dX4_toldApart_15 : decode cX4_toldApart 15 = .ok (.invokevirtual 153, 3) := by decide +kernel
theorem dX4_toldApart_18 : decode cX4_toldApart 18 = .ok (.istore 4, 2) := by decide +kernel
theorem dX4_toldApart_20 : decode cX4_toldApart 20 = .ok (.iconst 0, 1) := by decide +kernel
theorem dX4_toldApart_21 : decode cX4_toldApart 21 = .ok (.istore 5, 2) := by decide +kernel
theorem dX4_toldApart_23 : decode cX4_toldApart 23 = .ok (.iload 5, 2) := by decide +kernel
theorem dX4_toldApart_25 : decode cX4_toldApart 25 = .ok (.iload_n 3, 1) := by decide +kernel
theorem dX4_toldApart_26 : decode cX4_toldApart 26 = .ok (.if_icmp .ge 57, 3) := by decide +kernel
theorem dX4_toldApart_29 : decode cX4_toldApart 29 = .ok (.iload 4, 2) := by decide +kernel
theorem dX4_toldApart_31 : decode cX4_toldApart 31 = .ok (.ifCond .eq 52, 3) := by decide +kernel
theorem dX4_toldApart_34 : decode cX4_toldApart 34 = .ok (.aload_n 0, 1) := by decide +kernel
theorem dX4_toldApart_35 : decode cX4_toldApart 35 = .ok (.iload 5, 2) := by decide +kernel
theorem dX4_toldApart_37 : decode cX4_toldApart 37 = .ok (.iload_n 1, 1) := by decide +kernel
theorem dX4_toldApart_38 : decode cX4_toldApart 38 = .ok (.invokevirtual 153, 3) := by decide +kernel
theorem dX4_toldApart_41 : decode cX4_toldApart 41 = .ok (.ifCond .eq 29, 3) := by decide +kernel
theorem dX4_toldApart_44 : decode cX4_toldApart 44 = .ok (.aload_n 0, 1) := by decide +kernel
theorem dX4_toldApart_45 : decode cX4_toldApart 45 = .ok (.iload 5, 2) := by decide +kernel
theorem dX4_toldApart_47 : decode cX4_toldApart 47 = .ok (.iload_n 1, 1) := by decide +kernel
theorem dX4_toldApart_48 : decode cX4_toldApart 48 = .ok (.invokevirtual 157, 3) := by decide +kernel
theorem dX4_toldApart_51 : decode cX4_toldApart 51 = .ok (.aload_n 0, 1) := by decide +kernel
theorem dX4_toldApart_52 : decode cX4_toldApart 52 = .ok (.getfield 37, 3) := by decide +kernel
theorem dX4_toldApart_55 : decode cX4_toldApart 55 = .ok (.idiv, 1) := by decide +kernel
theorem dX4_toldApart_56 : decode cX4_toldApart 56 = .ok (.aload_n 0, 1) := by decide +kernel
theorem dX4_toldApart_57 : decode cX4_toldApart 57 = .ok (.iload_n 3, 1) := by decide +kernel
theorem dX4_toldApart_58 : decode cX4_toldApart 58 = .ok (.iload_n 1, 1) := by decide +kernel
theorem dX4_toldApart_59 : decode cX4_toldApart 59 = .ok (.invokevirtual 157, 3) := by decide +kernel
theorem dX4_toldApart_62 : decode cX4_toldApart 62 = .ok (.aload_n 0, 1) := by decide +kernel
theorem dX4_toldApart_63 : decode cX4_toldApart 63 = .ok (.getfield 37, 3) := by decide +kernel
theorem dX4_toldApart_66 : decode cX4_toldApart 66 = .ok (.idiv, 1) := by decide +kernel
theorem dX4_toldApart_67 : decode cX4_toldApart 67 = .ok (.if_icmp .eq 7, 3) := by decide +kernel
theorem dX4_toldApart_70 : decode cX4_toldApart 70 = .ok (.iconst 1, 1) := by decide +kernel
theorem dX4_toldApart_71 : decode cX4_toldApart 71 = .ok (.goto 4, 3) := by decide +kernel
theorem dX4_toldApart_74 : decode cX4_toldApart 74 = .ok (.iconst 0, 1) := by decide +kernel
theorem dX4_toldApart_75 : decode cX4_toldApart 75 = .ok (.istore 4, 2) := by decide +kernel
theorem dX4_toldApart_77 : decode cX4_toldApart 77 = .ok (.iinc 5 1, 3) := by decide +kernel
theorem dX4_toldApart_80 : decode cX4_toldApart 80 = .ok (.goto (-57), 3) := by decide +kernel
theorem dX4_toldApart_83 : decode cX4_toldApart 83 = .ok (.iload_n 2, 1) := by decide +kernel
theorem dX4_toldApart_84 : decode cX4_toldApart 84 = .ok (.iload 4, 2) := by decide +kernel
theorem dX4_toldApart_86 : decode cX4_toldApart 86 = .ok (.ifCond .eq 7, 3) := by decide +kernel
theorem dX4_toldApart_89 : decode cX4_toldApart 89 = .ok (.iconst 1, 1) := by decide +kernel
theorem dX4_toldApart_90 : decode cX4_toldApart 90 = .ok (.goto 4, 3) := by decide +kernel
theorem dX4_toldApart_93 : decode cX4_toldApart 93 = .ok (.iconst 0, 1) := by decide +kernel
theorem dX4_toldApart_94 : decode cX4_toldApart 94 = .ok (.iadd, 1) := by decide +kernel
theorem dX4_toldApart_95 : decode cX4_toldApart 95 = .ok (.istore_n 2, 1) := by decide +kernel
theorem dX4_toldApart_96 : decode cX4_toldApart 96 = .ok (.iinc 3 1, 3) := by decide +kernel
theorem dX4_toldApart_99 : decode cX4_toldApart 99 = .ok (.goto (-95), 3) := by decide +kernel
theorem dX4_toldApart_102 : decode cX4_toldApart 102 = .ok (.iload_n 2, 1) := by decide +kernel
theorem dX4_toldApart_103 : decode cX4_toldApart 103 = .ok (.ireturn, 1) := by decide +kernel
theorem dX4_isPath_0 : decode cX4_isPath 0 = .ok (.aload_n 0, 1) := by decide +kernel
theorem dX4_isPath_1 : decode cX4_isPath 1 = .ok (.getfield 19, 3) := by decide +kernel
theorem dX4_isPath_4 : decode cX4_isPath 4 = .ok (.iload_n 1, 1) := by decide +kernel
theorem dX4_isPath_5 : decode cX4_isPath 5 = .ok (.iaload, 1) := by decide +kernel
theorem dX4_isPath_6 : decode cX4_isPath 6 = .ok (.iload_n 2, 1) := by decide +kernel
theorem dX4_isPath_7 : decode cX4_isPath 7 = .ok (.ishr, 1) := by decide +kernel
theorem dX4_isPath_8 : decode cX4_isPath 8 = .ok (.iconst 1, 1) := by decide +kernel
theorem dX4_isPath_9 : decode cX4_isPath 9 = .ok (.iand, 1) := by decide +kernel
theorem dX4_isPath_10 : decode cX4_isPath 10 = .ok (.iconst 1, 1) := by decide +kernel
theorem dX4_isPath_11 : decode cX4_isPath 11 = .ok (.if_icmp .ne 7, 3) := by decide +kernel
theorem dX4_isPath_14 : decode cX4_isPath 14 = .ok (.iconst 1, 1) := by decide +kernel
theorem dX4_isPath_15 : decode cX4_isPath 15 = .ok (.goto 4, 3) := by decide +kernel
theorem dX4_isPath_18 : decode cX4_isPath 18 = .ok (.iconst 0, 1) := by decide +kernel
theorem dX4_isPath_19 : decode cX4_isPath 19 = .ok (.ireturn, 1) := by decide +kernel
theorem dX4_followed_0 : decode cX4_followed 0 = .ok (.aload_n 0, 1) := by decide +kernel
theorem dX4_followed_1 : decode cX4_followed 1 = .ok (.getfield 25, 3) := by decide +kernel
theorem dX4_followed_4 : decode cX4_followed 4 = .ok (.iload_n 1, 1) := by decide +kernel
theorem dX4_followed_5 : decode cX4_followed 5 = .ok (.iaload, 1) := by decide +kernel
theorem dX4_followed_6 : decode cX4_followed 6 = .ok (.istore_n 2, 1) := by decide +kernel
theorem dX4_followed_7 : decode cX4_followed 7 = .ok (.iload_n 2, 1) := by decide +kernel
theorem dX4_followed_8 : decode cX4_followed 8 = .ok (.istore_n 3, 1) := by decide +kernel
theorem dX4_followed_9 : decode cX4_followed 9 = .ok (.aload_n 0, 1) := by decide +kernel
theorem dX4_followed_10 : decode cX4_followed 10 = .ok (.iload_n 2, 1) := by decide +kernel
theorem dX4_followed_11 : decode cX4_followed 11 = .ok (.iload_n 1, 1) := by decide +kernel
theorem dX4_followed_12 : decode cX4_followed 12 = .ok (.aload_n 0, 1) := by decide +kernel
theorem dX4_followed_13 : decode cX4_followed 13 = .ok (.getfield 22, 3) := by decide +kernel
theorem dX4_followed_16 : decode cX4_followed 16 = .ok (.iload_n 1, 1) := by decide +kernel
theorem dX4_followed_17 : decode cX4_followed 17 = .ok (.iaload, 1) := by decide +kernel
theorem dX4_followed_18 : decode cX4_followed 18 = .ok (.iconst 4, 1) := by decide +kernel
theorem dX4_followed_19 : decode cX4_followed 19 = .ok (.if_icmp .ne 7, 3) := by decide +kernel
theorem dX4_followed_22 : decode cX4_followed 22 = .ok (.iconst 1, 1) := by decide +kernel
theorem dX4_followed_23 : decode cX4_followed 23 = .ok (.goto 4, 3) := by decide +kernel
theorem dX4_followed_26 : decode cX4_followed 26 = .ok (.iconst 0, 1) := by decide +kernel
theorem dX4_followed_27 : decode cX4_followed 27 = .ok (.invokevirtual 161, 3) := by decide +kernel
theorem dX4_followed_30 : decode cX4_followed 30 = .ok (.istore 4, 2) := by decide +kernel
theorem dX4_followed_32 : decode cX4_followed 32 = .ok (.iconst 0, 1) := by decide +kernel
theorem dX4_followed_33 : decode cX4_followed 33 = .ok (.istore 5, 2) := by decide +kernel
theorem dX4_followed_35 : decode cX4_followed 35 = .ok (.iload 5, 2) := by decide +kernel
theorem dX4_followed_37 : decode cX4_followed 37 = .ok (.bipush 6, 2) := by decide +kernel
theorem dX4_followed_39 : decode cX4_followed 39 = .ok (.if_icmp .ge 93, 3) := by decide +kernel
theorem dX4_followed_42 : decode cX4_followed 42 = .ok (.aload_n 0, 1) := by decide +kernel
theorem dX4_followed_43 : decode cX4_followed 43 = .ok (.iload_n 2, 1) := by decide +kernel
theorem dX4_followed_44 : decode cX4_followed 44 = .ok (.iload 5, 2) := by decide +kernel
theorem dX4_followed_46 : decode cX4_followed 46 = .ok (.invokevirtual 165, 3) := by decide +kernel
theorem dX4_followed_49 : decode cX4_followed 49 = .ok (.ifCond .ne 6, 3) := by decide +kernel
theorem dX4_followed_52 : decode cX4_followed 52 = .ok (.goto 74, 3) := by decide +kernel
theorem dX4_followed_55 : decode cX4_followed 55 = .ok (.aload_n 0, 1) := by decide +kernel
theorem dX4_followed_56 : decode cX4_followed 56 = .ok (.iload 5, 2) := by decide +kernel
theorem dX4_followed_58 : decode cX4_followed 58 = .ok (.iload_n 1, 1) := by decide +kernel
theorem dX4_followed_59 : decode cX4_followed 59 = .ok (.aload_n 0, 1) := by decide +kernel
theorem dX4_followed_60 : decode cX4_followed 60 = .ok (.getfield 22, 3) := by decide +kernel
theorem dX4_followed_63 : decode cX4_followed 63 = .ok (.iload_n 1, 1) := by decide +kernel
theorem dX4_followed_64 : decode cX4_followed 64 = .ok (.iaload, 1) := by decide +kernel
theorem dX4_followed_65 : decode cX4_followed 65 = .ok (.iconst 4, 1) := by decide +kernel
theorem dX4_followed_66 : decode cX4_followed 66 = .ok (.if_icmp .ne 7, 3) := by decide +kernel
theorem dX4_followed_69 : decode cX4_followed 69 = .ok (.iconst 1, 1) := by decide +kernel
theorem dX4_followed_70 : decode cX4_followed 70 = .ok (.goto 4, 3) := by decide +kernel
theorem dX4_followed_73 : decode cX4_followed 73 = .ok (.iconst 0, 1) := by decide +kernel
theorem dX4_followed_74 : decode cX4_followed 74 = .ok (.invokevirtual 161, 3) := by decide +kernel
theorem dX4_followed_77 : decode cX4_followed 77 = .ok (.istore 6, 2) := by decide +kernel
theorem dX4_followed_79 : decode cX4_followed 79 = .ok (.iload 6, 2) := by decide +kernel
theorem dX4_followed_81 : decode cX4_followed 81 = .ok (.ifCond .lt 45, 3) := by decide +kernel
theorem dX4_followed_84 : decode cX4_followed 84 = .ok (.iload 4, 2) := by decide +kernel
theorem dX4_followed_86 : decode cX4_followed 86 = .ok (.ifCond .lt 33, 3) := by decide +kernel
theorem dX4_followed_89 : decode cX4_followed 89 = .ok (.aload_n 0, 1) := by decide +kernel
theorem dX4_followed_90 : decode cX4_followed 90 = .ok (.getfield 22, 3) := by decide +kernel
theorem dX4_followed_93 : decode cX4_followed 93 = .ok (.iload_n 1, 1) := by decide +kernel
theorem dX4_followed_94 : decode cX4_followed 94 = .ok (.iaload, 1) := by decide +kernel
theorem dX4_followed_95 : decode cX4_followed 95 = .ok (.iconst 4, 1) := by decide +kernel
theorem dX4_followed_96 : decode cX4_followed 96 = .ok (.if_icmp .ne 13, 3) := by decide +kernel
theorem dX4_followed_99 : decode cX4_followed 99 = .ok (.iload 6, 2) := by decide +kernel
theorem dX4_followed_101 : decode cX4_followed 101 = .ok (.iload 4, 2) := by decide +kernel
theorem dX4_followed_103 : decode cX4_followed 103 = .ok (.if_icmp .gt 16, 3) := by decide +kernel
theorem dX4_followed_106 : decode cX4_followed 106 = .ok (.goto 20, 3) := by decide +kernel
theorem dX4_followed_109 : decode cX4_followed 109 = .ok (.iload 6, 2) := by decide +kernel
theorem dX4_followed_111 : decode cX4_followed 111 = .ok (.iload 4, 2) := by decide +kernel
theorem dX4_followed_113 : decode cX4_followed 113 = .ok (.if_icmp .lt 6, 3) := by decide +kernel
theorem dX4_followed_116 : decode cX4_followed 116 = .ok (.goto 10, 3) := by decide +kernel
theorem dX4_followed_119 : decode cX4_followed 119 = .ok (.iload 5, 2) := by decide +kernel
theorem dX4_followed_121 : decode cX4_followed 121 = .ok (.istore_n 3, 1) := by decide +kernel
theorem dX4_followed_122 : decode cX4_followed 122 = .ok (.iload 6, 2) := by decide +kernel
theorem dX4_followed_124 : decode cX4_followed 124 = .ok (.istore 4, 2) := by decide +kernel
theorem dX4_followed_126 : decode cX4_followed 126 = .ok (.iinc 5 1, 3) := by decide +kernel
theorem dX4_followed_129 : decode cX4_followed 129 = .ok (.goto (-94), 3) := by decide +kernel
theorem dX4_followed_132 : decode cX4_followed 132 = .ok (.iload_n 3, 1) := by decide +kernel
theorem dX4_followed_133 : decode cX4_followed 133 = .ok (.ireturn, 1) := by decide +kernel
theorem dX4_wouldGo_0 : decode cX4_wouldGo 0 = .ok (.aload_n 0, 1) := by decide +kernel
theorem dX4_wouldGo_1 : decode cX4_wouldGo 1 = .ok (.getfield 22, 3) := by decide +kernel
theorem dX4_wouldGo_4 : decode cX4_wouldGo 4 = .ok (.iload_n 1, 1) := by decide +kernel
theorem dX4_wouldGo_5 : decode cX4_wouldGo 5 = .ok (.iaload, 1) := by decide +kernel
theorem dX4_wouldGo_6 : decode cX4_wouldGo 6 = .ok (.iconst 2, 1) := by decide +kernel
theorem dX4_wouldGo_7 : decode cX4_wouldGo 7 = .ok (.if_icmp .eq 13, 3) := by decide +kernel
theorem dX4_wouldGo_10 : decode cX4_wouldGo 10 = .ok (.aload_n 0, 1) := by decide +kernel
theorem dX4_wouldGo_11 : decode cX4_wouldGo 11 = .ok (.getfield 22, 3) := by decide +kernel
theorem dX4_wouldGo_14 : decode cX4_wouldGo 14 = .ok (.iload_n 1, 1) := by decide +kernel
theorem dX4_wouldGo_15 : decode cX4_wouldGo 15 = .ok (.iaload, 1) := by decide +kernel
theorem dX4_wouldGo_16 : decode cX4_wouldGo 16 = .ok (.iconst 4, 1) := by decide +kernel
theorem dX4_wouldGo_17 : decode cX4_wouldGo 17 = .ok (.if_icmp .ne 9, 3) := by decide +kernel
theorem dX4_wouldGo_20 : decode cX4_wouldGo 20 = .ok (.aload_n 0, 1) := by decide +kernel
theorem dX4_wouldGo_21 : decode cX4_wouldGo 21 = .ok (.iload_n 1, 1) := by decide +kernel
theorem dX4_wouldGo_22 : decode cX4_wouldGo 22 = .ok (.invokevirtual 168, 3) := by decide +kernel
theorem dX4_wouldGo_25 : decode cX4_wouldGo 25 = .ok (.ireturn, 1) := by decide +kernel
theorem dX4_wouldGo_26 : decode cX4_wouldGo 26 = .ok (.aload_n 0, 1) := by decide +kernel
theorem dX4_wouldGo_27 : decode cX4_wouldGo 27 = .ok (.getfield 28, 3) := by decide +kernel
theorem dX4_wouldGo_30 : decode cX4_wouldGo 30 = .ok (.iload_n 1, 1) := by decide +kernel
theorem dX4_wouldGo_31 : decode cX4_wouldGo 31 = .ok (.iaload, 1) := by decide +kernel
theorem dX4_wouldGo_32 : decode cX4_wouldGo 32 = .ok (.ifCond .ne 10, 3) := by decide +kernel
theorem dX4_wouldGo_35 : decode cX4_wouldGo 35 = .ok (.aload_n 0, 1) := by decide +kernel
theorem dX4_wouldGo_36 : decode cX4_wouldGo 36 = .ok (.getfield 25, 3) := by decide +kernel
theorem dX4_wouldGo_39 : decode cX4_wouldGo 39 = .ok (.iload_n 1, 1) := by decide +kernel
theorem dX4_wouldGo_40 : decode cX4_wouldGo 40 = .ok (.iaload, 1) := by decide +kernel
theorem dX4_wouldGo_41 : decode cX4_wouldGo 41 = .ok (.ireturn, 1) := by decide +kernel
theorem dX4_wouldGo_42 : decode cX4_wouldGo 42 = .ok (.aload_n 0, 1) := by decide +kernel
theorem dX4_wouldGo_43 : decode cX4_wouldGo 43 = .ok (.getfield 31, 3) := by decide +kernel
theorem dX4_wouldGo_46 : decode cX4_wouldGo 46 = .ok (.bipush 6, 2) := by decide +kernel
theorem dX4_wouldGo_48 : decode cX4_wouldGo 48 = .ok (.iload_n 1, 1) := by decide +kernel
theorem dX4_wouldGo_49 : decode cX4_wouldGo 49 = .ok (.imul, 1) := by decide +kernel
theorem dX4_wouldGo_50 : decode cX4_wouldGo 50 = .ok (.aload_n 0, 1) := by decide +kernel
theorem dX4_wouldGo_51 : decode cX4_wouldGo 51 = .ok (.getfield 120, 3) := by decide +kernel
theorem dX4_wouldGo_54 : decode cX4_wouldGo 54 = .ok (.aload_n 0, 1) := by decide +kernel
theorem dX4_wouldGo_55 : decode cX4_wouldGo 55 = .ok (.getfield 28, 3) := by decide +kernel
theorem dX4_wouldGo_58 : decode cX4_wouldGo 58 = .ok (.iload_n 1, 1) := by decide +kernel
theorem dX4_wouldGo_59 : decode cX4_wouldGo 59 = .ok (.iaload, 1) := by decide +kernel
theorem dX4_wouldGo_60 : decode cX4_wouldGo 60 = .ok (.irem, 1) := by decide +kernel
theorem dX4_wouldGo_61 : decode cX4_wouldGo 61 = .ok (.iadd, 1) := by decide +kernel
theorem dX4_wouldGo_62 : decode cX4_wouldGo 62 = .ok (.iaload, 1) := by decide +kernel
theorem dX4_wouldGo_63 : decode cX4_wouldGo 63 = .ok (.istore_n 2, 1) := by decide +kernel
theorem dX4_wouldGo_64 : decode cX4_wouldGo 64 = .ok (.aload_n 0, 1) := by decide +kernel
theorem dX4_wouldGo_65 : decode cX4_wouldGo 65 = .ok (.aload_n 0, 1) := by decide +kernel
theorem dX4_wouldGo_66 : decode cX4_wouldGo 66 = .ok (.getfield 25, 3) := by decide +kernel
theorem dX4_wouldGo_69 : decode cX4_wouldGo 69 = .ok (.iload_n 1, 1) := by decide +kernel
theorem dX4_wouldGo_70 : decode cX4_wouldGo 70 = .ok (.iaload, 1) := by decide +kernel
theorem dX4_wouldGo_71 : decode cX4_wouldGo 71 = .ok (.iload_n 2, 1) := by decide +kernel
theorem dX4_wouldGo_72 : decode cX4_wouldGo 72 = .ok (.invokevirtual 165, 3) := by decide +kernel
theorem dX4_wouldGo_75 : decode cX4_wouldGo 75 = .ok (.ifCond .eq 7, 3) := by decide +kernel
theorem dX4_wouldGo_78 : decode cX4_wouldGo 78 = .ok (.iload_n 2, 1) := by decide +kernel
theorem dX4_wouldGo_79 : decode cX4_wouldGo 79 = .ok (.goto 9, 3) := by decide +kernel
theorem dX4_wouldGo_82 : decode cX4_wouldGo 82 = .ok (.aload_n 0, 1) := by decide +kernel
theorem dX4_wouldGo_83 : decode cX4_wouldGo 83 = .ok (.getfield 25, 3) := by decide +kernel
theorem dX4_wouldGo_86 : decode cX4_wouldGo 86 = .ok (.iload_n 1, 1) := by decide +kernel
theorem dX4_wouldGo_87 : decode cX4_wouldGo 87 = .ok (.iaload, 1) := by decide +kernel
theorem dX4_wouldGo_88 : decode cX4_wouldGo 88 = .ok (.ireturn, 1) := by decide +kernel
theorem dX4_goesMinute_0 : decode cX4_goesMinute 0 = .ok (.iconst 0, 1) := by decide +kernel
theorem dX4_goesMinute_1 : decode cX4_goesMinute 1 = .ok (.istore_n 1, 1) := by decide +kernel
theorem dX4_goesMinute_2 : decode cX4_goesMinute 2 = .ok (.iload_n 1, 1) := by decide +kernel
theorem dX4_goesMinute_3 : decode cX4_goesMinute 3 = .ok (.aload_n 0, 1) := by decide +kernel
theorem dX4_goesMinute_4 : decode cX4_goesMinute 4 = .ok (.getfield 75, 3) := by decide +kernel
theorem dX4_goesMinute_7 : decode cX4_goesMinute 7 = .ok (.if_icmp .ge 20, 3) := by decide +kernel
theorem dX4_goesMinute_10 : decode cX4_goesMinute 10 = .ok (.aload_n 0, 1) := by decide +kernel
theorem dX4_goesMinute_11 : decode cX4_goesMinute 11 = .ok (.getfield 62, 3) := by decide +kernel
theorem dX4_goesMinute_14 : decode cX4_goesMinute 14 = .ok (.iload_n 1, 1) := by decide +kernel
theorem dX4_goesMinute_15 : decode cX4_goesMinute 15 = .ok (.aload_n 0, 1) := by decide +kernel
theorem dX4_goesMinute_16 : decode cX4_goesMinute 16 = .ok (.iload_n 1, 1) := by decide +kernel
theorem dX4_goesMinute_17 : decode cX4_goesMinute 17 = .ok (.invokevirtual 171, 3) := by decide +kernel
theorem dX4_goesMinute_20 : decode cX4_goesMinute 20 = .ok (.iastore, 1) := by decide +kernel
theorem dX4_goesMinute_21 : decode cX4_goesMinute 21 = .ok (.iinc 1 1, 3) := by decide +kernel
theorem dX4_goesMinute_24 : decode cX4_goesMinute 24 = .ok (.goto (-22), 3) := by decide +kernel
theorem dX4_goesMinute_27 : decode cX4_goesMinute 27 = .ok (.aload_n 0, 1) := by decide +kernel
theorem dX4_goesMinute_28 : decode cX4_goesMinute 28 = .ok (.dup, 1) := by decide +kernel
theorem dX4_goesMinute_29 : decode cX4_goesMinute 29 = .ok (.getfield 120, 3) := by decide +kernel
theorem dX4_goesMinute_32 : decode cX4_goesMinute 32 = .ok (.iconst 1, 1) := by decide +kernel
theorem dX4_goesMinute_33 : decode cX4_goesMinute 33 = .ok (.iadd, 1) := by decide +kernel
theorem dX4_goesMinute_34 : decode cX4_goesMinute 34 = .ok (.putfield 120, 3) := by decide +kernel
theorem dX4_goesMinute_37 : decode cX4_goesMinute 37 = .ok (.iconst 0, 1) := by decide +kernel
theorem dX4_goesMinute_38 : decode cX4_goesMinute 38 = .ok (.istore_n 1, 1) := by decide +kernel
theorem dX4_goesMinute_39 : decode cX4_goesMinute 39 = .ok (.iload_n 1, 1) := by decide +kernel
theorem dX4_goesMinute_40 : decode cX4_goesMinute 40 = .ok (.aload_n 0, 1) := by decide +kernel
theorem dX4_goesMinute_41 : decode cX4_goesMinute 41 = .ok (.getfield 75, 3) := by decide +kernel
theorem dX4_goesMinute_44 : decode cX4_goesMinute 44 = .ok (.if_icmp .ge 89, 3) := by decide +kernel
theorem dX4_goesMinute_47 : decode cX4_goesMinute 47 = .ok (.aload_n 0, 1) := by decide +kernel
theorem dX4_goesMinute_48 : decode cX4_goesMinute 48 = .ok (.getfield 62, 3) := by decide +kernel
theorem dX4_goesMinute_51 : decode cX4_goesMinute 51 = .ok (.iload_n 1, 1) := by decide +kernel
theorem dX4_goesMinute_52 : decode cX4_goesMinute 52 = .ok (.iaload, 1) := by decide +kernel
theorem dX4_goesMinute_53 : decode cX4_goesMinute 53 = .ok (.aload_n 0, 1) := by decide +kernel
theorem dX4_goesMinute_54 : decode cX4_goesMinute 54 = .ok (.getfield 25, 3) := by decide +kernel
theorem dX4_goesMinute_57 : decode cX4_goesMinute 57 = .ok (.iload_n 1, 1) := by decide +kernel
theorem dX4_goesMinute_58 : decode cX4_goesMinute 58 = .ok (.iaload, 1) := by decide +kernel
theorem dX4_goesMinute_59 : decode cX4_goesMinute 59 = .ok (.if_icmp .ne 7, 3) := by decide +kernel
theorem dX4_goesMinute_62 : decode cX4_goesMinute 62 = .ok (.iconst 1, 1) := by decide +kernel
theorem dX4_goesMinute_63 : decode cX4_goesMinute 63 = .ok (.goto 4, 3) := by decide +kernel
theorem dX4_goesMinute_66 : decode cX4_goesMinute 66 = .ok (.iconst 0, 1) := by decide +kernel
theorem dX4_goesMinute_67 : decode cX4_goesMinute 67 = .ok (.istore_n 2, 1) := by decide +kernel
theorem dX4_goesMinute_68 : decode cX4_goesMinute 68 = .ok (.aload_n 0, 1) := by decide +kernel
theorem dX4_goesMinute_69 : decode cX4_goesMinute 69 = .ok (.getfield 25, 3) := by decide +kernel
theorem dX4_goesMinute_72 : decode cX4_goesMinute 72 = .ok (.iload_n 1, 1) := by decide +kernel
theorem dX4_goesMinute_73 : decode cX4_goesMinute 73 = .ok (.aload_n 0, 1) := by decide +kernel
theorem dX4_goesMinute_74 : decode cX4_goesMinute 74 = .ok (.getfield 62, 3) := by decide +kernel
theorem dX4_goesMinute_77 : decode cX4_goesMinute 77 = .ok (.iload_n 1, 1) := by decide +kernel
theorem dX4_goesMinute_78 : decode cX4_goesMinute 78 = .ok (.iaload, 1) := by decide +kernel
theorem dX4_goesMinute_79 : decode cX4_goesMinute 79 = .ok (.iastore, 1) := by decide +kernel
theorem dX4_goesMinute_80 : decode cX4_goesMinute 80 = .ok (.aload_n 0, 1) := by decide +kernel
theorem dX4_goesMinute_81 : decode cX4_goesMinute 81 = .ok (.getfield 22, 3) := by decide +kernel
theorem dX4_goesMinute_84 : decode cX4_goesMinute 84 = .ok (.iload_n 1, 1) := by decide +kernel
theorem dX4_goesMinute_85 : decode cX4_goesMinute 85 = .ok (.iaload, 1) := by decide +kernel
theorem dX4_goesMinute_86 : decode cX4_goesMinute 86 = .ok (.iconst 1, 1) := by decide +kernel
theorem dX4_goesMinute_87 : decode cX4_goesMinute 87 = .ok (.if_icmp .ne 10, 3) := by decide +kernel
theorem dX4_goesMinute_90 : decode cX4_goesMinute 90 = .ok (.iload_n 2, 1) := by decide +kernel
theorem dX4_goesMinute_91 : decode cX4_goesMinute 91 = .ok (.ifCond .eq 36, 3) := by decide +kernel
theorem dX4_goesMinute_94 : decode cX4_goesMinute 94 = .ok (.goto 13, 3) := by decide +kernel
theorem dX4_goesMinute_97 : decode cX4_goesMinute 97 = .ok (.aload_n 0, 1) := by decide +kernel
theorem dX4_goesMinute_98 : decode cX4_goesMinute 98 = .ok (.getfield 22, 3) := by decide +kernel
theorem dX4_goesMinute_101 : decode cX4_goesMinute 101 = .ok (.iload_n 1, 1) := by decide +kernel
theorem dX4_goesMinute_102 : decode cX4_goesMinute 102 = .ok (.iaload, 1) := by decide +kernel
theorem dX4_goesMinute_103 : decode cX4_goesMinute 103 = .ok (.iconst 5, 1) := by decide +kernel
theorem dX4_goesMinute_104 : decode cX4_goesMinute 104 = .ok (.if_icmp .eq 23, 3) := by decide +kernel
theorem dX4_goesMinute_107 : decode cX4_goesMinute 107 = .ok (.aload_n 0, 1) := by decide +kernel
theorem dX4_goesMinute_108 : decode cX4_goesMinute 108 = .ok (.getfield 34, 3) := by decide +kernel
theorem dX4_goesMinute_111 : decode cX4_goesMinute 111 = .ok (.bipush 6, 2) := by decide +kernel
theorem dX4_goesMinute_113 : decode cX4_goesMinute 113 = .ok (.iload_n 1, 1) := by decide +kernel
theorem dX4_goesMinute_114 : decode cX4_goesMinute 114 = .ok (.imul, 1) := by decide +kernel
theorem dX4_goesMinute_115 : decode cX4_goesMinute 115 = .ok (.aload_n 0, 1) := by decide +kernel
theorem dX4_goesMinute_116 : decode cX4_goesMinute 116 = .ok (.getfield 25, 3) := by decide +kernel
theorem dX4_goesMinute_119 : decode cX4_goesMinute 119 = .ok (.iload_n 1, 1) := by decide +kernel
theorem dX4_goesMinute_120 : decode cX4_goesMinute 120 = .ok (.iaload, 1) := by decide +kernel
theorem dX4_goesMinute_121 : decode cX4_goesMinute 121 = .ok (.iadd, 1) := by decide +kernel
theorem dX4_goesMinute_122 : decode cX4_goesMinute 122 = .ok (.aload_n 0, 1) := by decide +kernel
theorem dX4_goesMinute_123 : decode cX4_goesMinute 123 = .ok (.getfield 120, 3) := by decide +kernel
theorem dX4_goesMinute_126 : decode cX4_goesMinute 126 = .ok (.iastore, 1) := by decide +kernel
theorem dX4_goesMinute_127 : decode cX4_goesMinute 127 = .ok (.iinc 1 1, 3) := by decide +kernel
theorem dX4_goesMinute_130 : decode cX4_goesMinute 130 = .ok (.goto (-91), 3) := by decide +kernel
theorem dX4_goesMinute_133 : decode cX4_goesMinute 133 = .ok (.return_, 1) := by decide +kernel
theorem dX4_room_0 : decode cX4_room 0 = .ok (.iload_n 1, 1) := by decide +kernel
theorem dX4_room_1 : decode cX4_room 1 = .ok (.invokestatic 117, 3) := by decide +kernel
theorem dX4_room_4 : decode cX4_room 4 = .ok (.ifCond .ne 9, 3) := by decide +kernel
theorem dX4_room_7 : decode cX4_room 7 = .ok (.aload_n 0, 1) := by decide +kernel
theorem dX4_room_8 : decode cX4_room 8 = .ok (.iconst (-1), 1) := by decide +kernel
theorem dX4_room_9 : decode cX4_room 9 = .ok (.invokevirtual 85, 3) := by decide +kernel
theorem dX4_room_12 : decode cX4_room 12 = .ok (.ireturn, 1) := by decide +kernel
theorem dX4_room_13 : decode cX4_room 13 = .ok (.iload_n 2, 1) := by decide +kernel
theorem dX4_room_14 : decode cX4_room 14 = .ok (.tableswitch 47 0 2 #[26, 33, 40], 26) := by decide +kernel
theorem dX4_room_40 : decode cX4_room 40 = .ok (.aload_n 0, 1) := by decide +kernel
theorem dX4_room_41 : decode cX4_room 41 = .ok (.getfield 13, 3) := by decide +kernel
theorem dX4_room_44 : decode cX4_room 44 = .ok (.iload_n 1, 1) := by decide +kernel
theorem dX4_room_45 : decode cX4_room 45 = .ok (.iaload, 1) := by decide +kernel
theorem dX4_room_46 : decode cX4_room 46 = .ok (.ireturn, 1) := by decide +kernel
theorem dX4_room_47 : decode cX4_room 47 = .ok (.aload_n 0, 1) := by decide +kernel
theorem dX4_room_48 : decode cX4_room 48 = .ok (.getfield 16, 3) := by decide +kernel
theorem dX4_room_51 : decode cX4_room 51 = .ok (.iload_n 1, 1) := by decide +kernel
theorem dX4_room_52 : decode cX4_room 52 = .ok (.iaload, 1) := by decide +kernel
theorem dX4_room_53 : decode cX4_room 53 = .ok (.ireturn, 1) := by decide +kernel
theorem dX4_room_54 : decode cX4_room 54 = .ok (.aload_n 0, 1) := by decide +kernel
theorem dX4_room_55 : decode cX4_room 55 = .ok (.getfield 19, 3) := by decide +kernel
theorem dX4_room_58 : decode cX4_room 58 = .ok (.iload_n 1, 1) := by decide +kernel
theorem dX4_room_59 : decode cX4_room 59 = .ok (.iaload, 1) := by decide +kernel
theorem dX4_room_60 : decode cX4_room 60 = .ok (.ireturn, 1) := by decide +kernel
theorem dX4_room_61 : decode cX4_room 61 = .ok (.aload_n 0, 1) := by decide +kernel
theorem dX4_room_62 : decode cX4_room 62 = .ok (.bipush (-2), 2) := by decide +kernel
theorem dX4_room_64 : decode cX4_room 64 = .ok (.invokevirtual 85, 3) := by decide +kernel
theorem dX4_room_67 : decode cX4_room 67 = .ok (.ireturn, 1) := by decide +kernel
theorem dX4_walker_0 : decode cX4_walker 0 = .ok (.aload_n 0, 1) := by decide +kernel
theorem dX4_walker_1 : decode cX4_walker 1 = .ok (.iload_n 1, 1) := by decide +kernel
theorem dX4_walker_2 : decode cX4_walker 2 = .ok (.invokevirtual 174, 3) := by decide +kernel
theorem dX4_walker_5 : decode cX4_walker 5 = .ok (.ifCond .ne 9, 3) := by decide +kernel
theorem dX4_walker_8 : decode cX4_walker 8 = .ok (.aload_n 0, 1) := by decide +kernel
theorem dX4_walker_9 : decode cX4_walker 9 = .ok (.iconst (-1), 1) := by decide +kernel
theorem dX4_walker_10 : decode cX4_walker 10 = .ok (.invokevirtual 85, 3) := by decide +kernel
theorem dX4_walker_13 : decode cX4_walker 13 = .ok (.ireturn, 1) := by decide +kernel
theorem dX4_walker_14 : decode cX4_walker 14 = .ok (.iload_n 2, 1) := by decide +kernel
theorem dX4_walker_15 : decode cX4_walker 15 = .ok (.tableswitch 56 0 3 #[29, 36, 43, 50], 29) := by decide +kernel
theorem dX4_walker_44 : decode cX4_walker 44 = .ok (.aload_n 0, 1) := by decide +kernel
theorem dX4_walker_45 : decode cX4_walker 45 = .ok (.getfield 22, 3) := by decide +kernel
theorem dX4_walker_48 : decode cX4_walker 48 = .ok (.iload_n 1, 1) := by decide +kernel
theorem dX4_walker_49 : decode cX4_walker 49 = .ok (.iaload, 1) := by decide +kernel
theorem dX4_walker_50 : decode cX4_walker 50 = .ok (.ireturn, 1) := by decide +kernel
theorem dX4_walker_51 : decode cX4_walker 51 = .ok (.aload_n 0, 1) := by decide +kernel
theorem dX4_walker_52 : decode cX4_walker 52 = .ok (.getfield 25, 3) := by decide +kernel
theorem dX4_walker_55 : decode cX4_walker 55 = .ok (.iload_n 1, 1) := by decide +kernel
theorem dX4_walker_56 : decode cX4_walker 56 = .ok (.iaload, 1) := by decide +kernel
theorem dX4_walker_57 : decode cX4_walker 57 = .ok (.ireturn, 1) := by decide +kernel
theorem dX4_walker_58 : decode cX4_walker 58 = .ok (.aload_n 0, 1) := by decide +kernel
theorem dX4_walker_59 : decode cX4_walker 59 = .ok (.getfield 28, 3) := by decide +kernel
theorem dX4_walker_62 : decode cX4_walker 62 = .ok (.iload_n 1, 1) := by decide +kernel
theorem dX4_walker_63 : decode cX4_walker 63 = .ok (.iaload, 1) := by decide +kernel
theorem dX4_walker_64 : decode cX4_walker 64 = .ok (.ireturn, 1) := by decide +kernel
theorem dX4_walker_65 : decode cX4_walker 65 = .ok (.aload_n 0, 1) := by decide +kernel
theorem dX4_walker_66 : decode cX4_walker 66 = .ok (.iload_n 1, 1) := by decide +kernel
theorem dX4_walker_67 : decode cX4_walker 67 = .ok (.invokevirtual 171, 3) := by decide +kernel
theorem dX4_walker_70 : decode cX4_walker 70 = .ok (.ireturn, 1) := by decide +kernel
theorem dX4_walker_71 : decode cX4_walker 71 = .ok (.aload_n 0, 1) := by decide +kernel
theorem dX4_walker_72 : decode cX4_walker 72 = .ok (.bipush (-2), 2) := by decide +kernel
theorem dX4_walker_74 : decode cX4_walker 74 = .ok (.invokevirtual 85, 3) := by decide +kernel
theorem dX4_walker_77 : decode cX4_walker 77 = .ok (.ireturn, 1) := by decide +kernel
theorem dX4_put_0 : decode cX4_put 0 = .ok (.aload_n 0, 1) := by decide +kernel
theorem dX4_put_1 : decode cX4_put 1 = .ok (.iload_n 1, 1) := by decide +kernel
theorem dX4_put_2 : decode cX4_put 2 = .ok (.invokevirtual 174, 3) := by decide +kernel
theorem dX4_put_5 : decode cX4_put 5 = .ok (.ifCond .eq 10, 3) := by decide +kernel
theorem dX4_put_8 : decode cX4_put 8 = .ok (.iload_n 2, 1) := by decide +kernel
theorem dX4_put_9 : decode cX4_put 9 = .ok (.invokestatic 117, 3) := by decide +kernel
theorem dX4_put_12 : decode cX4_put 12 = .ok (.ifCond .ne 9, 3) := by decide +kernel
theorem dX4_put_15 : decode cX4_put 15 = .ok (.aload_n 0, 1) := by decide +kernel
theorem dX4_put_16 : decode cX4_put 16 = .ok (.iconst (-1), 1) := by decide +kernel
theorem dX4_put_17 : decode cX4_put 17 = .ok (.invokevirtual 85, 3) := by decide +kernel
theorem dX4_put_20 : decode cX4_put 20 = .ok (.ireturn, 1) := by decide +kernel
theorem dX4_put_21 : decode cX4_put 21 = .ok (.aload_n 0, 1) := by decide +kernel
theorem dX4_put_22 : decode cX4_put 22 = .ok (.getfield 25, 3) := by decide +kernel
theorem dX4_put_25 : decode cX4_put 25 = .ok (.iload_n 1, 1) := by decide +kernel
theorem dX4_put_26 : decode cX4_put 26 = .ok (.iaload, 1) := by decide +kernel
theorem dX4_put_27 : decode cX4_put 27 = .ok (.istore_n 3, 1) := by decide +kernel
theorem dX4_put_28 : decode cX4_put 28 = .ok (.aload_n 0, 1) := by decide +kernel
theorem dX4_put_29 : decode cX4_put 29 = .ok (.getfield 25, 3) := by decide +kernel
theorem dX4_put_32 : decode cX4_put 32 = .ok (.iload_n 1, 1) := by decide +kernel
theorem dX4_put_33 : decode cX4_put 33 = .ok (.iload_n 2, 1) := by decide +kernel
theorem dX4_put_34 : decode cX4_put 34 = .ok (.iastore, 1) := by decide +kernel
theorem dX4_put_35 : decode cX4_put 35 = .ok (.iload_n 3, 1) := by decide +kernel
theorem dX4_put_36 : decode cX4_put 36 = .ok (.ireturn, 1) := by decide +kernel
theorem dX4_wind_0 : decode cX4_wind 0 = .ok (.iload_n 1, 1) := by decide +kernel
theorem dX4_wind_1 : decode cX4_wind 1 = .ok (.invokestatic 117, 3) := by decide +kernel
theorem dX4_wind_4 : decode cX4_wind 4 = .ok (.ifCond .ne 7, 3) := by decide +kernel
theorem dX4_wind_7 : decode cX4_wind 7 = .ok (.iconst (-1), 1) := by decide +kernel
theorem dX4_wind_8 : decode cX4_wind 8 = .ok (.goto 9, 3) := by decide +kernel
theorem dX4_wind_11 : decode cX4_wind 11 = .ok (.iload_n 2, 1) := by decide +kernel
theorem dX4_wind_12 : decode cX4_wind 12 = .ok (.iconst 0, 1) := by decide +kernel
theorem dX4_wind_13 : decode cX4_wind 13 = .ok (.iconst 3, 1) := by decide +kernel
theorem dX4_wind_14 : decode cX4_wind 14 = .ok (.invokestatic 78, 3) := by decide +kernel
theorem dX4_wind_17 : decode cX4_wind 17 = .ok (.istore_n 3, 1) := by decide +kernel
theorem dX4_wind_18 : decode cX4_wind 18 = .ok (.iload_n 3, 1) := by decide +kernel
theorem dX4_wind_19 : decode cX4_wind 19 = .ok (.ifCond .eq 9, 3) := by decide +kernel
theorem dX4_wind_22 : decode cX4_wind 22 = .ok (.aload_n 0, 1) := by decide +kernel
theorem dX4_wind_23 : decode cX4_wind 23 = .ok (.iload_n 3, 1) := by decide +kernel
theorem dX4_wind_24 : decode cX4_wind 24 = .ok (.invokevirtual 85, 3) := by decide +kernel
theorem dX4_wind_27 : decode cX4_wind 27 = .ok (.ireturn, 1) := by decide +kernel
theorem dX4_wind_28 : decode cX4_wind 28 = .ok (.aload_n 0, 1) := by decide +kernel
theorem dX4_wind_29 : decode cX4_wind 29 = .ok (.getfield 13, 3) := by decide +kernel
theorem dX4_wind_32 : decode cX4_wind 32 = .ok (.iload_n 1, 1) := by decide +kernel
theorem dX4_wind_33 : decode cX4_wind 33 = .ok (.iaload, 1) := by decide +kernel
theorem dX4_wind_34 : decode cX4_wind 34 = .ok (.istore 4, 2) := by decide +kernel
theorem dX4_wind_36 : decode cX4_wind 36 = .ok (.aload_n 0, 1) := by decide +kernel
theorem dX4_wind_37 : decode cX4_wind 37 = .ok (.getfield 13, 3) := by decide +kernel
theorem dX4_wind_40 : decode cX4_wind 40 = .ok (.iload_n 1, 1) := by decide +kernel
theorem dX4_wind_41 : decode cX4_wind 41 = .ok (.iload_n 2, 1) := by decide +kernel
theorem dX4_wind_42 : decode cX4_wind 42 = .ok (.iastore, 1) := by decide +kernel
theorem dX4_wind_43 : decode cX4_wind 43 = .ok (.iload 4, 2) := by decide +kernel
theorem dX4_wind_45 : decode cX4_wind 45 = .ok (.ireturn, 1) := by decide +kernel
theorem dX4_nose_0 : decode cX4_nose 0 = .ok (.iload_n 1, 1) := by decide +kernel
theorem dX4_nose_1 : decode cX4_nose 1 = .ok (.iconst 1, 1) := by decide +kernel
theorem dX4_nose_2 : decode cX4_nose 2 = .ok (.bipush 9, 2) := by decide +kernel
theorem dX4_nose_4 : decode cX4_nose 4 = .ok (.invokestatic 78, 3) := by decide +kernel
theorem dX4_nose_7 : decode cX4_nose 7 = .ok (.istore_n 2, 1) := by decide +kernel
theorem dX4_nose_8 : decode cX4_nose 8 = .ok (.iload_n 2, 1) := by decide +kernel
theorem dX4_nose_9 : decode cX4_nose 9 = .ok (.ifCond .eq 9, 3) := by decide +kernel
theorem dX4_nose_12 : decode cX4_nose 12 = .ok (.aload_n 0, 1) := by decide +kernel
theorem dX4_nose_13 : decode cX4_nose 13 = .ok (.iload_n 2, 1) := by decide +kernel
theorem dX4_nose_14 : decode cX4_nose 14 = .ok (.invokevirtual 85, 3) := by decide +kernel
theorem dX4_nose_17 : decode cX4_nose 17 = .ok (.ireturn, 1) := by decide +kernel
theorem dX4_nose_18 : decode cX4_nose 18 = .ok (.aload_n 0, 1) := by decide +kernel
theorem dX4_nose_19 : decode cX4_nose 19 = .ok (.getfield 37, 3) := by decide +kernel
theorem dX4_nose_22 : decode cX4_nose 22 = .ok (.istore_n 3, 1) := by decide +kernel
theorem dX4_nose_23 : decode cX4_nose 23 = .ok (.aload_n 0, 1) := by decide +kernel
theorem dX4_nose_24 : decode cX4_nose 24 = .ok (.iload_n 1, 1) := by decide +kernel
theorem dX4_nose_25 : decode cX4_nose 25 = .ok (.putfield 37, 3) := by decide +kernel
theorem dX4_nose_28 : decode cX4_nose 28 = .ok (.iload_n 3, 1) := by decide +kernel
theorem dX4_nose_29 : decode cX4_nose 29 = .ok (.ireturn, 1) := by decide +kernel
theorem dX4_pass_0 : decode cX4_pass 0 = .ok (.iload_n 1, 1) := by decide +kernel
theorem dX4_pass_1 : decode cX4_pass 1 = .ok (.iconst 1, 1) := by decide +kernel
theorem dX4_pass_2 : decode cX4_pass 2 = .ok (.bipush 40, 2) := by decide +kernel
theorem dX4_pass_4 : decode cX4_pass 4 = .ok (.invokestatic 78, 3) := by decide +kernel
theorem dX4_pass_7 : decode cX4_pass 7 = .ok (.istore_n 2, 1) := by decide +kernel
theorem dX4_pass_8 : decode cX4_pass 8 = .ok (.iload_n 2, 1) := by decide +kernel
theorem dX4_pass_9 : decode cX4_pass 9 = .ok (.ifCond .ne 17, 3) := by decide +kernel
theorem dX4_pass_12 : decode cX4_pass 12 = .ok (.aload_n 0, 1) := by decide +kernel
theorem dX4_pass_13 : decode cX4_pass 13 = .ok (.getfield 120, 3) := by decide +kernel
theorem dX4_pass_16 : decode cX4_pass 16 = .ok (.iload_n 1, 1) := by decide +kernel
theorem dX4_pass_17 : decode cX4_pass 17 = .ok (.iadd, 1) := by decide +kernel
theorem dX4_pass_18 : decode cX4_pass 18 = .ok (.bipush 99, 2) := by decide +kernel
theorem dX4_pass_20 : decode cX4_pass 20 = .ok (.if_icmp .le 6, 3) := by decide +kernel
theorem dX4_pass_23 : decode cX4_pass 23 = .ok (.bipush (-6), 2) := by decide +kernel
theorem dX4_pass_25 : decode cX4_pass 25 = .ok (.istore_n 2, 1) := by decide +kernel
theorem dX4_pass_26 : decode cX4_pass 26 = .ok (.iload_n 2, 1) := by decide +kernel
theorem dX4_pass_27 : decode cX4_pass 27 = .ok (.ifCond .eq 9, 3) := by decide +kernel
theorem dX4_pass_30 : decode cX4_pass 30 = .ok (.aload_n 0, 1) := by decide +kernel
theorem dX4_pass_31 : decode cX4_pass 31 = .ok (.iload_n 2, 1) := by decide +kernel
theorem dX4_pass_32 : decode cX4_pass 32 = .ok (.invokevirtual 85, 3) := by decide +kernel
theorem dX4_pass_35 : decode cX4_pass 35 = .ok (.ireturn, 1) := by decide +kernel
theorem dX4_pass_36 : decode cX4_pass 36 = .ok (.iconst 0, 1) := by decide +kernel
theorem dX4_pass_37 : decode cX4_pass 37 = .ok (.istore_n 3, 1) := by decide +kernel
theorem dX4_pass_38 : decode cX4_pass 38 = .ok (.iload_n 3, 1) := by decide +kernel
theorem dX4_pass_39 : decode cX4_pass 39 = .ok (.iload_n 1, 1) := by decide +kernel
theorem dX4_pass_40 : decode cX4_pass 40 = .ok (.if_icmp .ge 13, 3) := by decide +kernel
theorem dX4_pass_43 : decode cX4_pass 43 = .ok (.aload_n 0, 1) := by decide +kernel
theorem dX4_pass_44 : decode cX4_pass 44 = .ok (.invokevirtual 177, 3) := by decide +kernel
theorem dX4_pass_47 : decode cX4_pass 47 = .ok (.iinc 3 1, 3) := by decide +kernel
theorem dX4_pass_50 : decode cX4_pass 50 = .ok (.goto (-12), 3) := by decide +kernel
theorem dX4_pass_53 : decode cX4_pass 53 = .ok (.aload_n 0, 1) := by decide +kernel
theorem dX4_pass_54 : decode cX4_pass 54 = .ok (.getfield 120, 3) := by decide +kernel
theorem dX4_pass_57 : decode cX4_pass 57 = .ok (.ireturn, 1) := by decide +kernel
theorem dX4_rain_0 : decode cX4_rain 0 = .ok (.iconst 0, 1) := by decide +kernel
theorem dX4_rain_1 : decode cX4_rain 1 = .ok (.istore_n 1, 1) := by decide +kernel
theorem dX4_rain_2 : decode cX4_rain 2 = .ok (.iconst 0, 1) := by decide +kernel
theorem dX4_rain_3 : decode cX4_rain 3 = .ok (.istore_n 2, 1) := by decide +kernel
theorem dX4_rain_4 : decode cX4_rain 4 = .ok (.iload_n 2, 1) := by decide +kernel
theorem dX4_rain_5 : decode cX4_rain 5 = .ok (.aload_n 0, 1) := by decide +kernel
theorem dX4_rain_6 : decode cX4_rain 6 = .ok (.getfield 75, 3) := by decide +kernel
theorem dX4_rain_9 : decode cX4_rain 9 = .ok (.if_icmp .ge 61, 3) := by decide +kernel
theorem dX4_rain_12 : decode cX4_rain 12 = .ok (.iconst 0, 1) := by decide +kernel
theorem dX4_rain_13 : decode cX4_rain 13 = .ok (.istore_n 3, 1) := by decide +kernel
theorem dX4_rain_14 : decode cX4_rain 14 = .ok (.iload_n 3, 1) := by decide +kernel
theorem dX4_rain_15 : decode cX4_rain 15 = .ok (.bipush 6, 2) := by decide +kernel
theorem dX4_rain_17 : decode cX4_rain 17 = .ok (.if_icmp .ge 47, 3) := by decide +kernel
theorem dX4_rain_20 : decode cX4_rain 20 = .ok (.aload_n 0, 1) := by decide +kernel
theorem dX4_rain_21 : decode cX4_rain 21 = .ok (.iload_n 2, 1) := by decide +kernel
theorem dX4_rain_22 : decode cX4_rain 22 = .ok (.iload_n 3, 1) := by decide +kernel
theorem dX4_rain_23 : decode cX4_rain 23 = .ok (.invokevirtual 153, 3) := by decide +kernel
theorem dX4_rain_26 : decode cX4_rain 26 = .ok (.ifCond .eq 32, 3) := by decide +kernel
theorem dX4_rain_29 : decode cX4_rain 29 = .ok (.aload_n 0, 1) := by decide +kernel
theorem dX4_rain_30 : decode cX4_rain 30 = .ok (.getfield 16, 3) := by decide +kernel
theorem dX4_rain_33 : decode cX4_rain 33 = .ok (.iload_n 3, 1) := by decide +kernel
theorem dX4_rain_34 : decode cX4_rain 34 = .ok (.iaload, 1) := by decide +kernel
theorem dX4_rain_35 : decode cX4_rain 35 = .ok (.iconst 1, 1) := by decide +kernel
theorem dX4_rain_36 : decode cX4_rain 36 = .ok (.if_icmp .ne 6, 3) := by decide +kernel
theorem dX4_rain_39 : decode cX4_rain 39 = .ok (.goto 19, 3) := by decide +kernel
theorem dX4_rain_42 : decode cX4_rain 42 = .ok (.aload_n 0, 1) := by decide +kernel
theorem dX4_rain_43 : decode cX4_rain 43 = .ok (.getfield 34, 3) := by decide +kernel
theorem dX4_rain_46 : decode cX4_rain 46 = .ok (.bipush 6, 2) := by decide +kernel
theorem dX4_rain_48 : decode cX4_rain 48 = .ok (.iload_n 2, 1) := by decide +kernel
theorem dX4_rain_49 : decode cX4_rain 49 = .ok (.imul, 1) := by decide +kernel
theorem dX4_rain_50 : decode cX4_rain 50 = .ok (.iload_n 3, 1) := by decide +kernel
theorem dX4_rain_51 : decode cX4_rain 51 = .ok (.iadd, 1) := by decide +kernel
theorem dX4_rain_52 : decode cX4_rain 52 = .ok (.bipush (-9), 2) := by decide +kernel
theorem dX4_rain_54 : decode cX4_rain 54 = .ok (.iastore, 1) := by decide +kernel
theorem dX4_rain_55 : decode cX4_rain 55 = .ok (.iinc 1 1, 3) := by decide +kernel
theorem dX4_rain_58 : decode cX4_rain 58 = .ok (.iinc 3 1, 3) := by decide +kernel
theorem dX4_rain_61 : decode cX4_rain 61 = .ok (.goto (-47), 3) := by decide +kernel
theorem dX4_rain_64 : decode cX4_rain 64 = .ok (.iinc 2 1, 3) := by decide +kernel
theorem dX4_rain_67 : decode cX4_rain 67 = .ok (.goto (-63), 3) := by decide +kernel
theorem dX4_rain_70 : decode cX4_rain 70 = .ok (.iload_n 1, 1) := by decide +kernel
theorem dX4_rain_71 : decode cX4_rain 71 = .ok (.ireturn, 1) := by decide +kernel
theorem dX4_age_0 : decode cX4_age 0 = .ok (.aload_n 0, 1) := by decide +kernel
theorem dX4_age_1 : decode cX4_age 1 = .ok (.iload_n 1, 1) := by decide +kernel
theorem dX4_age_2 : decode cX4_age 2 = .ok (.invokevirtual 174, 3) := by decide +kernel
theorem dX4_age_5 : decode cX4_age 5 = .ok (.ifCond .eq 10, 3) := by decide +kernel
theorem dX4_age_8 : decode cX4_age 8 = .ok (.iload_n 2, 1) := by decide +kernel
theorem dX4_age_9 : decode cX4_age 9 = .ok (.invokestatic 117, 3) := by decide +kernel
theorem dX4_age_12 : decode cX4_age 12 = .ok (.ifCond .ne 9, 3) := by decide +kernel
theorem dX4_age_15 : decode cX4_age 15 = .ok (.aload_n 0, 1) := by decide +kernel
theorem dX4_age_16 : decode cX4_age 16 = .ok (.iconst (-1), 1) := by decide +kernel
theorem dX4_age_17 : decode cX4_age 17 = .ok (.invokevirtual 85, 3) := by decide +kernel
theorem dX4_age_20 : decode cX4_age 20 = .ok (.ireturn, 1) := by decide +kernel
theorem dX4_age_21 : decode cX4_age 21 = .ok (.aload_n 0, 1) := by decide +kernel
theorem dX4_age_22 : decode cX4_age 22 = .ok (.iload_n 1, 1) := by decide +kernel
theorem dX4_age_23 : decode cX4_age 23 = .ok (.iload_n 2, 1) := by decide +kernel
theorem dX4_age_24 : decode cX4_age 24 = .ok (.invokevirtual 153, 3) := by decide +kernel
theorem dX4_age_27 : decode cX4_age 27 = .ok (.ifCond .eq 12, 3) := by decide +kernel
theorem dX4_age_30 : decode cX4_age 30 = .ok (.aload_n 0, 1) := by decide +kernel
theorem dX4_age_31 : decode cX4_age 31 = .ok (.iload_n 1, 1) := by decide +kernel
theorem dX4_age_32 : decode cX4_age 32 = .ok (.iload_n 2, 1) := by decide +kernel
theorem dX4_age_33 : decode cX4_age 33 = .ok (.invokevirtual 157, 3) := by decide +kernel
theorem dX4_age_36 : decode cX4_age 36 = .ok (.goto 5, 3) := by decide +kernel
theorem dX4_age_39 : decode cX4_age 39 = .ok (.bipush (-9), 2) := by decide +kernel
theorem dX4_age_41 : decode cX4_age 41 = .ok (.ireturn, 1) := by decide +kernel
theorem dX4_smelt_0 : decode cX4_smelt 0 = .ok (.iload_n 1, 1) := by decide +kernel
theorem dX4_smelt_1 : decode cX4_smelt 1 = .ok (.invokestatic 117, 3) := by decide +kernel
theorem dX4_smelt_4 : decode cX4_smelt 4 = .ok (.ifCond .ne 9, 3) := by decide +kernel
theorem dX4_smelt_7 : decode cX4_smelt 7 = .ok (.aload_n 0, 1) := by decide +kernel
theorem dX4_smelt_8 : decode cX4_smelt 8 = .ok (.iconst (-1), 1) := by decide +kernel
theorem dX4_smelt_9 : decode cX4_smelt 9 = .ok (.invokevirtual 85, 3) := by decide +kernel
theorem dX4_smelt_12 : decode cX4_smelt 12 = .ok (.ireturn, 1) := by decide +kernel
theorem dX4_smelt_13 : decode cX4_smelt 13 = .ok (.iload_n 2, 1) := by decide +kernel
theorem dX4_smelt_14 : decode cX4_smelt 14 = .ok (.tableswitch 60 0 3 #[30, 36, 45, 54], 30) := by decide +kernel
theorem dX4_smelt_44 : decode cX4_smelt 44 = .ok (.aload_n 0, 1) := by decide +kernel
theorem dX4_smelt_45 : decode cX4_smelt 45 = .ok (.iload_n 1, 1) := by decide +kernel
theorem dX4_smelt_46 : decode cX4_smelt 46 = .ok (.invokevirtual 180, 3) := by decide +kernel
theorem dX4_smelt_49 : decode cX4_smelt 49 = .ok (.ireturn, 1) := by decide +kernel
theorem dX4_smelt_50 : decode cX4_smelt 50 = .ok (.aload_n 0, 1) := by decide +kernel
theorem dX4_smelt_51 : decode cX4_smelt 51 = .ok (.iload_n 1, 1) := by decide +kernel
theorem dX4_smelt_52 : decode cX4_smelt 52 = .ok (.bipush (-9), 2) := by decide +kernel
theorem dX4_smelt_54 : decode cX4_smelt 54 = .ok (.iconst 0, 1) := by decide +kernel
theorem dX4_smelt_55 : decode cX4_smelt 55 = .ok (.invokevirtual 161, 3) := by decide +kernel
theorem dX4_smelt_58 : decode cX4_smelt 58 = .ok (.ireturn, 1) := by decide +kernel
theorem dX4_smelt_59 : decode cX4_smelt 59 = .ok (.aload_n 0, 1) := by decide +kernel
theorem dX4_smelt_60 : decode cX4_smelt 60 = .ok (.iload_n 1, 1) := by decide +kernel
theorem dX4_smelt_61 : decode cX4_smelt 61 = .ok (.bipush (-9), 2) := by decide +kernel
theorem dX4_smelt_63 : decode cX4_smelt 63 = .ok (.iconst 1, 1) := by decide +kernel
theorem dX4_smelt_64 : decode cX4_smelt 64 = .ok (.invokevirtual 161, 3) := by decide +kernel
theorem dX4_smelt_67 : decode cX4_smelt 67 = .ok (.ireturn, 1) := by decide +kernel
theorem dX4_smelt_68 : decode cX4_smelt 68 = .ok (.aload_n 0, 1) := by decide +kernel
theorem dX4_smelt_69 : decode cX4_smelt 69 = .ok (.iload_n 1, 1) := by decide +kernel
theorem dX4_smelt_70 : decode cX4_smelt 70 = .ok (.invokevirtual 183, 3) := by decide +kernel
theorem dX4_smelt_73 : decode cX4_smelt 73 = .ok (.ireturn, 1) := by decide +kernel
theorem dX4_smelt_74 : decode cX4_smelt 74 = .ok (.aload_n 0, 1) := by decide +kernel
theorem dX4_smelt_75 : decode cX4_smelt 75 = .ok (.bipush (-2), 2) := by decide +kernel
theorem dX4_smelt_77 : decode cX4_smelt 77 = .ok (.invokevirtual 85, 3) := by decide +kernel
theorem dX4_smelt_80 : decode cX4_smelt 80 = .ok (.ireturn, 1) := by decide +kernel
theorem dX4_goesAhead_0 : decode cX4_goesAhead 0 = .ok (.aload_n 0, 1) := by decide +kernel
theorem dX4_goesAhead_1 : decode cX4_goesAhead 1 = .ok (.iconst 1, 1) := by decide +kernel
theorem dX4_goesAhead_2 : decode cX4_goesAhead 2 = .ok (.iconst 1, 1) := by decide +kernel
theorem dX4_goesAhead_3 : decode cX4_goesAhead 3 = .ok (.invokevirtual 129, 3) := by decide +kernel
theorem dX4_goesAhead_6 : decode cX4_goesAhead 6 = .ok (.iconst 0, 1) := by decide +kernel
theorem dX4_goesAhead_7 : decode cX4_goesAhead 7 = .ok (.istore_n 2, 1) := by decide +kernel
theorem dX4_goesAhead_8 : decode cX4_goesAhead 8 = .ok (.iload_n 2, 1) := by decide +kernel
theorem dX4_goesAhead_9 : decode cX4_goesAhead 9 = .ok (.iload_n 1, 1) := by decide +kernel
theorem dX4_goesAhead_10 : decode cX4_goesAhead 10 = .ok (.if_icmp .ge 13, 3) := by decide +kernel
theorem dX4_goesAhead_13 : decode cX4_goesAhead 13 = .ok (.aload_n 0, 1) := by decide +kernel
theorem dX4_goesAhead_14 : decode cX4_goesAhead 14 = .ok (.invokevirtual 177, 3) := by decide +kernel
theorem dX4_goesAhead_17 : decode cX4_goesAhead 17 = .ok (.iinc 2 1, 3) := by decide +kernel
theorem dX4_goesAhead_20 : decode cX4_goesAhead 20 = .ok (.goto (-12), 3) := by decide +kernel
theorem dX4_goesAhead_23 : decode cX4_goesAhead 23 = .ok (.return_, 1) := by decide +kernel
theorem dX4_behind_0 : decode cX4_behind 0 = .ok (.aload_n 0, 1) := by decide +kernel
theorem dX4_behind_1 : decode cX4_behind 1 = .ok (.iload_n 1, 1) := by decide +kernel
theorem dX4_behind_2 : decode cX4_behind 2 = .ok (.invokevirtual 174, 3) := by decide +kernel
theorem dX4_behind_5 : decode cX4_behind 5 = .ok (.ifCond .ne 7, 3) := by decide +kernel
theorem dX4_behind_8 : decode cX4_behind 8 = .ok (.iconst (-1), 1) := by decide +kernel
theorem dX4_behind_9 : decode cX4_behind 9 = .ok (.goto 10, 3) := by decide +kernel
theorem dX4_behind_12 : decode cX4_behind 12 = .ok (.iload_n 2, 1) := by decide +kernel
theorem dX4_behind_13 : decode cX4_behind 13 = .ok (.iconst 0, 1) := by decide +kernel
theorem dX4_behind_14 : decode cX4_behind 14 = .ok (.bipush 40, 2) := by decide +kernel
theorem dX4_behind_16 : decode cX4_behind 16 = .ok (.invokestatic 78, 3) := by decide +kernel
theorem dX4_behind_19 : decode cX4_behind 19 = .ok (.istore_n 3, 1) := by decide +kernel
theorem dX4_behind_20 : decode cX4_behind 20 = .ok (.iload_n 3, 1) := by decide +kernel
theorem dX4_behind_21 : decode cX4_behind 21 = .ok (.ifCond .eq 9, 3) := by decide +kernel
theorem dX4_behind_24 : decode cX4_behind 24 = .ok (.aload_n 0, 1) := by decide +kernel
theorem dX4_behind_25 : decode cX4_behind 25 = .ok (.iload_n 3, 1) := by decide +kernel
theorem dX4_behind_26 : decode cX4_behind 26 = .ok (.invokevirtual 85, 3) := by decide +kernel
theorem dX4_behind_29 : decode cX4_behind 29 = .ok (.ireturn, 1) := by decide +kernel
theorem dX4_behind_30 : decode cX4_behind 30 = .ok (.aload_n 0, 1) := by decide +kernel
theorem dX4_behind_31 : decode cX4_behind 31 = .ok (.iload_n 2, 1) := by decide +kernel
theorem dX4_behind_32 : decode cX4_behind 32 = .ok (.invokevirtual 186, 3) := by decide +kernel
theorem dX4_behind_35 : decode cX4_behind 35 = .ok (.aload_n 0, 1) := by decide +kernel
theorem dX4_behind_36 : decode cX4_behind 36 = .ok (.getfield 25, 3) := by decide +kernel
theorem dX4_behind_39 : decode cX4_behind 39 = .ok (.iload_n 1, 1) := by decide +kernel
theorem dX4_behind_40 : decode cX4_behind 40 = .ok (.iaload, 1) := by decide +kernel
theorem dX4_behind_41 : decode cX4_behind 41 = .ok (.istore 4, 2) := by decide +kernel
theorem dX4_behind_43 : decode cX4_behind 43 = .ok (.aload_n 0, 1) := by decide +kernel
theorem dX4_behind_44 : decode cX4_behind 44 = .ok (.iconst 1, 1) := by decide +kernel
theorem dX4_behind_45 : decode cX4_behind 45 = .ok (.iconst 0, 1) := by decide +kernel
theorem dX4_behind_46 : decode cX4_behind 46 = .ok (.invokevirtual 129, 3) := by decide +kernel
theorem dX4_behind_49 : decode cX4_behind 49 = .ok (.iload 4, 2) := by decide +kernel
theorem dX4_behind_51 : decode cX4_behind 51 = .ok (.ireturn, 1) := by decide +kernel
theorem dX4_freshest_0 : decode cX4_freshest 0 = .ok (.iload_n 1, 1) := by decide +kernel
theorem dX4_freshest_1 : decode cX4_freshest 1 = .ok (.invokestatic 117, 3) := by decide +kernel
theorem dX4_freshest_4 : decode cX4_freshest 4 = .ok (.ifCond .ne 7, 3) := by decide +kernel
theorem dX4_freshest_7 : decode cX4_freshest 7 = .ok (.iconst (-1), 1) := by decide +kernel
theorem dX4_freshest_8 : decode cX4_freshest 8 = .ok (.goto 10, 3) := by decide +kernel
theorem dX4_freshest_11 : decode cX4_freshest 11 = .ok (.iload_n 2, 1) := by decide +kernel
theorem dX4_freshest_12 : decode cX4_freshest 12 = .ok (.iconst 0, 1) := by decide +kernel
theorem dX4_freshest_13 : decode cX4_freshest 13 = .ok (.bipush 40, 2) := by decide +kernel
theorem dX4_freshest_15 : decode cX4_freshest 15 = .ok (.invokestatic 78, 3) := by decide +kernel
theorem dX4_freshest_18 : decode cX4_freshest 18 = .ok (.istore_n 3, 1) := by decide +kernel
theorem dX4_freshest_19 : decode cX4_freshest 19 = .ok (.iload_n 3, 1) := by decide +kernel
theorem dX4_freshest_20 : decode cX4_freshest 20 = .ok (.ifCond .eq 9, 3) := by decide +kernel
theorem dX4_freshest_23 : decode cX4_freshest 23 = .ok (.aload_n 0, 1) := by decide +kernel
theorem dX4_freshest_24 : decode cX4_freshest 24 = .ok (.iload_n 3, 1) := by decide +kernel
theorem dX4_freshest_25 : decode cX4_freshest 25 = .ok (.invokevirtual 85, 3) := by decide +kernel
theorem dX4_freshest_28 : decode cX4_freshest 28 = .ok (.ireturn, 1) := by decide +kernel
theorem dX4_freshest_29 : decode cX4_freshest 29 = .ok (.aload_n 0, 1) := by decide +kernel
theorem dX4_freshest_30 : decode cX4_freshest 30 = .ok (.iload_n 2, 1) := by decide +kernel
theorem dX4_freshest_31 : decode cX4_freshest 31 = .ok (.invokevirtual 186, 3) := by decide +kernel
theorem dX4_freshest_34 : decode cX4_freshest 34 = .ok (.aload_n 0, 1) := by decide +kernel
theorem dX4_freshest_35 : decode cX4_freshest 35 = .ok (.iload_n 1, 1) := by decide +kernel
theorem dX4_freshest_36 : decode cX4_freshest 36 = .ok (.bipush (-9), 2) := by decide +kernel
theorem dX4_freshest_38 : decode cX4_freshest 38 = .ok (.iconst 0, 1) := by decide +kernel
theorem dX4_freshest_39 : decode cX4_freshest 39 = .ok (.invokevirtual 161, 3) := by decide +kernel
theorem dX4_freshest_42 : decode cX4_freshest 42 = .ok (.istore 4, 2) := by decide +kernel
theorem dX4_freshest_44 : decode cX4_freshest 44 = .ok (.aload_n 0, 1) := by decide +kernel
theorem dX4_freshest_45 : decode cX4_freshest 45 = .ok (.iconst 1, 1) := by decide +kernel
theorem dX4_freshest_46 : decode cX4_freshest 46 = .ok (.iconst 0, 1) := by decide +kernel
theorem dX4_freshest_47 : decode cX4_freshest 47 = .ok (.invokevirtual 129, 3) := by decide +kernel
theorem dX4_freshest_50 : decode cX4_freshest 50 = .ok (.iload 4, 2) := by decide +kernel
theorem dX4_freshest_52 : decode cX4_freshest 52 = .ok (.ireturn, 1) := by decide +kernel
theorem dX4_meet_0 : decode cX4_meet 0 = .ok (.aload_n 0, 1) := by decide +kernel
theorem dX4_meet_1 : decode cX4_meet 1 = .ok (.iload_n 1, 1) := by decide +kernel
theorem dX4_meet_2 : decode cX4_meet 2 = .ok (.invokevirtual 174, 3) := by decide +kernel
theorem dX4_meet_5 : decode cX4_meet 5 = .ok (.ifCond .eq 16, 3) := by decide +kernel
theorem dX4_meet_8 : decode cX4_meet 8 = .ok (.aload_n 0, 1) := by decide +kernel
theorem dX4_meet_9 : decode cX4_meet 9 = .ok (.iload_n 2, 1) := by decide +kernel
theorem dX4_meet_10 : decode cX4_meet 10 = .ok (.invokevirtual 174, 3) := by decide +kernel
theorem dX4_meet_13 : decode cX4_meet 13 = .ok (.ifCond .eq 8, 3) := by decide +kernel
theorem dX4_meet_16 : decode cX4_meet 16 = .ok (.iload_n 1, 1) := by decide +kernel
theorem dX4_meet_17 : decode cX4_meet 17 = .ok (.iload_n 2, 1) := by decide +kernel
theorem dX4_meet_18 : decode cX4_meet 18 = .ok (.if_icmp .ne 9, 3) := by decide +kernel
theorem dX4_meet_21 : decode cX4_meet 21 = .ok (.aload_n 0, 1) := by decide +kernel
theorem dX4_meet_22 : decode cX4_meet 22 = .ok (.iconst (-1), 1) := by decide +kernel
theorem dX4_meet_23 : decode cX4_meet 23 = .ok (.invokevirtual 85, 3) := by decide +kernel
theorem dX4_meet_26 : decode cX4_meet 26 = .ok (.ireturn, 1) := by decide +kernel
theorem dX4_meet_27 : decode cX4_meet 27 = .ok (.aload_n 0, 1) := by decide +kernel
theorem dX4_meet_28 : decode cX4_meet 28 = .ok (.iconst 0, 1) := by decide +kernel
theorem dX4_meet_29 : decode cX4_meet 29 = .ok (.invokevirtual 186, 3) := by decide +kernel
theorem dX4_meet_32 : decode cX4_meet 32 = .ok (.bipush (-9), 2) := by decide +kernel
theorem dX4_meet_34 : decode cX4_meet 34 = .ok (.istore_n 3, 1) := by decide +kernel
theorem dX4_meet_35 : decode cX4_meet 35 = .ok (.iconst 0, 1) := by decide +kernel
theorem dX4_meet_36 : decode cX4_meet 36 = .ok (.istore 4, 2) := by decide +kernel
theorem dX4_meet_38 : decode cX4_meet 38 = .ok (.iload 4, 2) := by decide +kernel
theorem dX4_meet_40 : decode cX4_meet 40 = .ok (.bipush 40, 2) := by decide +kernel
theorem dX4_meet_42 : decode cX4_meet 42 = .ok (.if_icmp .gt 35, 3) := by decide +kernel
theorem dX4_meet_45 : decode cX4_meet 45 = .ok (.iload_n 3, 1) := by decide +kernel
theorem dX4_meet_46 : decode cX4_meet 46 = .ok (.ifCond .ge 31, 3) := by decide +kernel
theorem dX4_meet_49 : decode cX4_meet 49 = .ok (.aload_n 0, 1) := by decide +kernel
theorem dX4_meet_50 : decode cX4_meet 50 = .ok (.getfield 25, 3) := by decide +kernel
theorem dX4_meet_53 : decode cX4_meet 53 = .ok (.iload_n 1, 1) := by decide +kernel
theorem dX4_meet_54 : decode cX4_meet 54 = .ok (.iaload, 1) := by decide +kernel
theorem dX4_meet_55 : decode cX4_meet 55 = .ok (.aload_n 0, 1) := by decide +kernel
theorem dX4_meet_56 : decode cX4_meet 56 = .ok (.getfield 25, 3) := by decide +kernel
theorem dX4_meet_59 : decode cX4_meet 59 = .ok (.iload_n 2, 1) := by decide +kernel
theorem dX4_meet_60 : decode cX4_meet 60 = .ok (.iaload, 1) := by decide +kernel
theorem dX4_meet_61 : decode cX4_meet 61 = .ok (.if_icmp .ne 6, 3) := by decide +kernel
theorem dX4_meet_64 : decode cX4_meet 64 = .ok (.iload 4, 2) := by decide +kernel
theorem dX4_meet_66 : decode cX4_meet 66 = .ok (.istore_n 3, 1) := by decide +kernel
theorem dX4_meet_67 : decode cX4_meet 67 = .ok (.aload_n 0, 1) := by decide +kernel
theorem dX4_meet_68 : decode cX4_meet 68 = .ok (.invokevirtual 177, 3) := by decide +kernel
theorem dX4_meet_71 : decode cX4_meet 71 = .ok (.iinc 4 1, 3) := by decide +kernel
theorem dX4_meet_74 : decode cX4_meet 74 = .ok (.goto (-36), 3) := by decide +kernel
theorem dX4_meet_77 : decode cX4_meet 77 = .ok (.aload_n 0, 1) := by decide +kernel
theorem dX4_meet_78 : decode cX4_meet 78 = .ok (.iconst 1, 1) := by decide +kernel
theorem dX4_meet_79 : decode cX4_meet 79 = .ok (.iconst 0, 1) := by decide +kernel
theorem dX4_meet_80 : decode cX4_meet 80 = .ok (.invokevirtual 129, 3) := by decide +kernel
theorem dX4_meet_83 : decode cX4_meet 83 = .ok (.iload_n 3, 1) := by decide +kernel
theorem dX4_meet_84 : decode cX4_meet 84 = .ok (.ireturn, 1) := by decide +kernel
theorem dX4_scented_0 : decode cX4_scented 0 = .ok (.iload_n 1, 1) := by decide +kernel
theorem dX4_scented_1 : decode cX4_scented 1 = .ok (.iconst 0, 1) := by decide +kernel
theorem dX4_scented_2 : decode cX4_scented 2 = .ok (.bipush 40, 2) := by decide +kernel
theorem dX4_scented_4 : decode cX4_scented 4 = .ok (.invokestatic 78, 3) := by decide +kernel
theorem dX4_scented_7 : decode cX4_scented 7 = .ok (.istore_n 2, 1) := by decide +kernel
theorem dX4_scented_8 : decode cX4_scented 8 = .ok (.iload_n 2, 1) := by decide +kernel
theorem dX4_scented_9 : decode cX4_scented 9 = .ok (.ifCond .eq 9, 3) := by decide +kernel
theorem dX4_scented_12 : decode cX4_scented 12 = .ok (.aload_n 0, 1) := by decide +kernel
theorem dX4_scented_13 : decode cX4_scented 13 = .ok (.iload_n 2, 1) := by decide +kernel
theorem dX4_scented_14 : decode cX4_scented 14 = .ok (.invokevirtual 85, 3) := by decide +kernel
theorem dX4_scented_17 : decode cX4_scented 17 = .ok (.ireturn, 1) := by decide +kernel
theorem dX4_scented_18 : decode cX4_scented 18 = .ok (.aload_n 0, 1) := by decide +kernel
theorem dX4_scented_19 : decode cX4_scented 19 = .ok (.iload_n 1, 1) := by decide +kernel
theorem dX4_scented_20 : decode cX4_scented 20 = .ok (.invokevirtual 186, 3) := by decide +kernel
theorem dX4_scented_23 : decode cX4_scented 23 = .ok (.iconst 0, 1) := by decide +kernel
theorem dX4_scented_24 : decode cX4_scented 24 = .ok (.istore_n 3, 1) := by decide +kernel
theorem dX4_scented_25 : decode cX4_scented 25 = .ok (.iconst 0, 1) := by decide +kernel
theorem dX4_scented_26 : decode cX4_scented 26 = .ok (.istore 4, 2) := by decide +kernel
theorem dX4_scented_28 : decode cX4_scented 28 = .ok (.iload 4, 2) := by decide +kernel
theorem dX4_scented_30 : decode cX4_scented 30 = .ok (.aload_n 0, 1) := by decide +kernel
theorem dX4_scented_31 : decode cX4_scented 31 = .ok (.getfield 75, 3) := by decide +kernel
theorem dX4_scented_34 : decode cX4_scented 34 = .ok (.if_icmp .ge 37, 3) := by decide +kernel
theorem dX4_scented_37 : decode cX4_scented 37 = .ok (.iload_n 3, 1) := by decide +kernel
theorem dX4_scented_38 : decode cX4_scented 38 = .ok (.aload_n 0, 1) := by decide +kernel
theorem dX4_scented_39 : decode cX4_scented 39 = .ok (.aload_n 0, 1) := by decide +kernel
theorem dX4_scented_40 : decode cX4_scented 40 = .ok (.getfield 25, 3) := by decide +kernel
theorem dX4_scented_43 : decode cX4_scented 43 = .ok (.iload 4, 2) := by decide +kernel
theorem dX4_scented_45 : decode cX4_scented 45 = .ok (.iaload, 1) := by decide +kernel
theorem dX4_scented_46 : decode cX4_scented 46 = .ok (.iload 4, 2) := by decide +kernel
theorem dX4_scented_48 : decode cX4_scented 48 = .ok (.iconst 0, 1) := by decide +kernel
theorem dX4_scented_49 : decode cX4_scented 49 = .ok (.invokevirtual 161, 3) := by decide +kernel
theorem dX4_scented_52 : decode cX4_scented 52 = .ok (.ifCond .lt 10, 3) := by decide +kernel
theorem dX4_scented_55 : decode cX4_scented 55 = .ok (.iconst 1, 1) := by decide +kernel
theorem dX4_scented_56 : decode cX4_scented 56 = .ok (.iload 4, 2) := by decide +kernel
theorem dX4_scented_58 : decode cX4_scented 58 = .ok (.ishl, 1) := by decide +kernel
theorem dX4_scented_59 : decode cX4_scented 59 = .ok (.goto 4, 3) := by decide +kernel
theorem dX4_scented_62 : decode cX4_scented 62 = .ok (.iconst 0, 1) := by decide +kernel
theorem dX4_scented_63 : decode cX4_scented 63 = .ok (.ior, 1) := by decide +kernel
theorem dX4_scented_64 : decode cX4_scented 64 = .ok (.istore_n 3, 1) := by decide +kernel
theorem dX4_scented_65 : decode cX4_scented 65 = .ok (.iinc 4 1, 3) := by decide +kernel
theorem dX4_scented_68 : decode cX4_scented 68 = .ok (.goto (-40), 3) := by decide +kernel
theorem dX4_scented_71 : decode cX4_scented 71 = .ok (.aload_n 0, 1) := by decide +kernel
theorem dX4_scented_72 : decode cX4_scented 72 = .ok (.iconst 1, 1) := by decide +kernel
theorem dX4_scented_73 : decode cX4_scented 73 = .ok (.iconst 0, 1) := by decide +kernel
theorem dX4_scented_74 : decode cX4_scented 74 = .ok (.invokevirtual 129, 3) := by decide +kernel
theorem dX4_scented_77 : decode cX4_scented 77 = .ok (.iload_n 3, 1) := by decide +kernel
theorem dX4_scented_78 : decode cX4_scented 78 = .ok (.ireturn, 1) := by decide +kernel
theorem dX4_mayBe_0 : decode cX4_mayBe 0 = .ok (.aload_n 0, 1) := by decide +kernel
theorem dX4_mayBe_1 : decode cX4_mayBe 1 = .ok (.getfield 65, 3) := by decide +kernel
theorem dX4_mayBe_4 : decode cX4_mayBe 4 = .ok (.iload_n 1, 1) := by decide +kernel
theorem dX4_mayBe_5 : decode cX4_mayBe 5 = .ok (.iaload, 1) := by decide +kernel
theorem dX4_mayBe_6 : decode cX4_mayBe 6 = .ok (.iload_n 3, 1) := by decide +kernel
theorem dX4_mayBe_7 : decode cX4_mayBe 7 = .ok (.if_icmp .gt 15, 3) := by decide +kernel
theorem dX4_mayBe_10 : decode cX4_mayBe 10 = .ok (.iload_n 3, 1) := by decide +kernel
theorem dX4_mayBe_11 : decode cX4_mayBe 11 = .ok (.aload_n 0, 1) := by decide +kernel
theorem dX4_mayBe_12 : decode cX4_mayBe 12 = .ok (.getfield 65, 3) := by decide +kernel
theorem dX4_mayBe_15 : decode cX4_mayBe 15 = .ok (.iload_n 1, 1) := by decide +kernel
theorem dX4_mayBe_16 : decode cX4_mayBe 16 = .ok (.iaload, 1) := by decide +kernel
theorem dX4_mayBe_17 : decode cX4_mayBe 17 = .ok (.isub, 1) := by decide +kernel
theorem dX4_mayBe_18 : decode cX4_mayBe 18 = .ok (.iload_n 2, 1) := by decide +kernel
theorem dX4_mayBe_19 : decode cX4_mayBe 19 = .ok (.if_icmp .ge 5, 3) := by decide +kernel
theorem dX4_mayBe_22 : decode cX4_mayBe 22 = .ok (.iconst 0, 1) := by decide +kernel
theorem dX4_mayBe_23 : decode cX4_mayBe 23 = .ok (.ireturn, 1) := by decide +kernel
theorem dX4_mayBe_24 : decode cX4_mayBe 24 = .ok (.iconst 0, 1) := by decide +kernel
theorem dX4_mayBe_25 : decode cX4_mayBe 25 = .ok (.istore 4, 2) := by decide +kernel
theorem dX4_mayBe_27 : decode cX4_mayBe 27 = .ok (.iload 4, 2) := by decide +kernel
theorem dX4_mayBe_29 : decode cX4_mayBe 29 = .ok (.bipush 6, 2) := by decide +kernel
theorem dX4_mayBe_31 : decode cX4_mayBe 31 = .ok (.if_icmp .ge 41, 3) := by decide +kernel
theorem dX4_mayBe_34 : decode cX4_mayBe 34 = .ok (.iload 4, 2) := by decide +kernel
theorem dX4_mayBe_36 : decode cX4_mayBe 36 = .ok (.iload_n 1, 1) := by decide +kernel
theorem dX4_mayBe_37 : decode cX4_mayBe 37 = .ok (.if_icmp .eq 29, 3) := by decide +kernel
theorem dX4_mayBe_40 : decode cX4_mayBe 40 = .ok (.aload_n 0, 1) := by decide +kernel
theorem dX4_mayBe_41 : decode cX4_mayBe 41 = .ok (.getfield 65, 3) := by decide +kernel
theorem dX4_mayBe_44 : decode cX4_mayBe 44 = .ok (.iload 4, 2) := by decide +kernel
theorem dX4_mayBe_46 : decode cX4_mayBe 46 = .ok (.iaload, 1) := by decide +kernel
theorem dX4_mayBe_47 : decode cX4_mayBe 47 = .ok (.iload_n 3, 1) := by decide +kernel
theorem dX4_mayBe_48 : decode cX4_mayBe 48 = .ok (.if_icmp .gt 18, 3) := by decide +kernel
theorem dX4_mayBe_51 : decode cX4_mayBe 51 = .ok (.iload_n 3, 1) := by decide +kernel
theorem dX4_mayBe_52 : decode cX4_mayBe 52 = .ok (.aload_n 0, 1) := by decide +kernel
theorem dX4_mayBe_53 : decode cX4_mayBe 53 = .ok (.getfield 65, 3) := by decide +kernel
theorem dX4_mayBe_56 : decode cX4_mayBe 56 = .ok (.iload 4, 2) := by decide +kernel
theorem dX4_mayBe_58 : decode cX4_mayBe 58 = .ok (.iaload, 1) := by decide +kernel
theorem dX4_mayBe_59 : decode cX4_mayBe 59 = .ok (.isub, 1) := by decide +kernel
theorem dX4_mayBe_60 : decode cX4_mayBe 60 = .ok (.iload_n 2, 1) := by decide +kernel
theorem dX4_mayBe_61 : decode cX4_mayBe 61 = .ok (.if_icmp .ne 5, 3) := by decide +kernel
theorem dX4_mayBe_64 : decode cX4_mayBe 64 = .ok (.iconst 0, 1) := by decide +kernel
theorem dX4_mayBe_65 : decode cX4_mayBe 65 = .ok (.ireturn, 1) := by decide +kernel
theorem dX4_mayBe_66 : decode cX4_mayBe 66 = .ok (.iinc 4 1, 3) := by decide +kernel
theorem dX4_mayBe_69 : decode cX4_mayBe 69 = .ok (.goto (-42), 3) := by decide +kernel
theorem dX4_mayBe_72 : decode cX4_mayBe 72 = .ok (.iconst 1, 1) := by decide +kernel
theorem dX4_mayBe_73 : decode cX4_mayBe 73 = .ok (.ireturn, 1) := by decide +kernel
theorem dX4_areMinutes_0 : decode cX4_areMinutes 0 = .ok (.iconst 0, 1) := by decide +kernel
theorem dX4_areMinutes_1 : decode cX4_areMinutes 1 = .ok (.istore_n 2, 1) := by decide +kernel
theorem dX4_areMinutes_2 : decode cX4_areMinutes 2 = .ok (.iload_n 2, 1) := by decide +kernel
theorem dX4_areMinutes_3 : decode cX4_areMinutes 3 = .ok (.bipush 6, 2) := by decide +kernel
theorem dX4_areMinutes_5 : decode cX4_areMinutes 5 = .ok (.if_icmp .ge 32, 3) := by decide +kernel
theorem dX4_areMinutes_8 : decode cX4_areMinutes 8 = .ok (.aload_n 0, 1) := by decide +kernel
theorem dX4_areMinutes_9 : decode cX4_areMinutes 9 = .ok (.getfield 65, 3) := by decide +kernel
theorem dX4_areMinutes_12 : decode cX4_areMinutes 12 = .ok (.iload_n 2, 1) := by decide +kernel
theorem dX4_areMinutes_13 : decode cX4_areMinutes 13 = .ok (.iaload, 1) := by decide +kernel
theorem dX4_areMinutes_14 : decode cX4_areMinutes 14 = .ok (.bipush 30, 2) := by decide +kernel
theorem dX4_areMinutes_16 : decode cX4_areMinutes 16 = .ok (.if_icmp .eq 15, 3) := by decide +kernel
theorem dX4_areMinutes_19 : decode cX4_areMinutes 19 = .ok (.aload_n 0, 1) := by decide +kernel
theorem dX4_areMinutes_20 : decode cX4_areMinutes 20 = .ok (.getfield 65, 3) := by decide +kernel
theorem dX4_areMinutes_23 : decode cX4_areMinutes 23 = .ok (.iload_n 2, 1) := by decide +kernel
theorem dX4_areMinutes_24 : decode cX4_areMinutes 24 = .ok (.iaload, 1) := by decide +kernel
theorem dX4_areMinutes_25 : decode cX4_areMinutes 25 = .ok (.iload_n 1, 1) := by decide +kernel
theorem dX4_areMinutes_26 : decode cX4_areMinutes 26 = .ok (.if_icmp .le 5, 3) := by decide +kernel
theorem dX4_areMinutes_29 : decode cX4_areMinutes 29 = .ok (.iconst 0, 1) := by decide +kernel
theorem dX4_areMinutes_30 : decode cX4_areMinutes 30 = .ok (.ireturn, 1) := by decide +kernel
theorem dX4_areMinutes_31 : decode cX4_areMinutes 31 = .ok (.iinc 2 1, 3) := by decide +kernel
theorem dX4_areMinutes_34 : decode cX4_areMinutes 34 = .ok (.goto (-32), 3) := by decide +kernel
theorem dX4_areMinutes_37 : decode cX4_areMinutes 37 = .ok (.iconst 1, 1) := by decide +kernel
theorem dX4_areMinutes_38 : decode cX4_areMinutes 38 = .ok (.ireturn, 1) := by decide +kernel
theorem dX4_isStep_0 : decode cX4_isStep 0 = .ok (.iload_n 1, 1) := by decide +kernel
theorem dX4_isStep_1 : decode cX4_isStep 1 = .ok (.iload_n 2, 1) := by decide +kernel
theorem dX4_isStep_2 : decode cX4_isStep 2 = .ok (.if_icmp .eq 12, 3) := by decide +kernel
theorem dX4_isStep_5 : decode cX4_isStep 5 = .ok (.aload_n 0, 1) := by decide +kernel
theorem dX4_isStep_6 : decode cX4_isStep 6 = .ok (.iload_n 1, 1) := by decide +kernel
theorem dX4_isStep_7 : decode cX4_isStep 7 = .ok (.iload_n 2, 1) := by decide +kernel
theorem dX4_isStep_8 : decode cX4_isStep 8 = .ok (.invokevirtual 165, 3) := by decide +kernel
theorem dX4_isStep_11 : decode cX4_isStep 11 = .ok (.ifCond .eq 7, 3) := by decide +kernel
theorem dX4_isStep_14 : decode cX4_isStep 14 = .ok (.iconst 1, 1) := by decide +kernel
theorem dX4_isStep_15 : decode cX4_isStep 15 = .ok (.goto 4, 3) := by decide +kernel
theorem dX4_isStep_18 : decode cX4_isStep 18 = .ok (.iconst 0, 1) := by decide +kernel
theorem dX4_isStep_19 : decode cX4_isStep 19 = .ok (.ireturn, 1) := by decide +kernel
theorem dX4_findWays_0 : decode cX4_findWays 0 = .ok (.aload_n 0, 1) := by decide +kernel
theorem dX4_findWays_1 : decode cX4_findWays 1 = .ok (.iload_n 1, 1) := by decide +kernel
theorem dX4_findWays_2 : decode cX4_findWays 2 = .ok (.invokevirtual 190, 3) := by decide +kernel
theorem dX4_findWays_5 : decode cX4_findWays 5 = .ok (.istore_n 2, 1) := by decide +kernel
theorem dX4_findWays_6 : decode cX4_findWays 6 = .ok (.iconst 0, 1) := by decide +kernel
theorem dX4_findWays_7 : decode cX4_findWays 7 = .ok (.istore_n 3, 1) := by decide +kernel
theorem dX4_findWays_8 : decode cX4_findWays 8 = .ok (.iload_n 3, 1) := by decide +kernel
theorem dX4_findWays_9 : decode cX4_findWays 9 = .ok (.iload_n 1, 1) := by decide +kernel
theorem dX4_findWays_10 : decode cX4_findWays 10 = .ok (.if_icmp .gt 124, 3) := by decide +kernel
theorem dX4_findWays_13 : decode cX4_findWays 13 = .ok (.iconst 0, 1) := by decide +kernel
theorem dX4_findWays_14 : decode cX4_findWays 14 = .ok (.istore 4, 2) := by decide +kernel
theorem dX4_findWays_16 : decode cX4_findWays 16 = .ok (.iload 4, 2) := by decide +kernel
theorem dX4_findWays_18 : decode cX4_findWays 18 = .ok (.bipush 6, 2) := by decide +kernel
theorem dX4_findWays_20 : decode cX4_findWays 20 = .ok (.if_icmp .ge 108, 3) := by decide +kernel
theorem dX4_findWays_23 : decode cX4_findWays 23 = .ok (.iload_n 3, 1) := by decide +kernel
theorem dX4_findWays_24 : decode cX4_findWays 24 = .ok (.ifCond .ne 7, 3) := by decide +kernel
theorem dX4_findWays_27 : decode cX4_findWays 27 = .ok (.lconst 1, 1) := by decide +kernel
theorem dX4_findWays_28 : decode cX4_findWays 28 = .ok (.goto 4, 3) := by decide +kernel
theorem dX4_findWays_31 : decode cX4_findWays 31 = .ok (.lconst 0, 1) := by decide +kernel
theorem dX4_findWays_32 : decode cX4_findWays 32 = .ok (.lstore 5, 2) := by decide +kernel
theorem dX4_findWays_34 : decode cX4_findWays 34 = .ok (.iconst 0, 1) := by decide +kernel
theorem dX4_findWays_35 : decode cX4_findWays 35 = .ok (.istore 7, 2) := by decide +kernel
theorem dX4_findWays_37 : decode cX4_findWays 37 = .ok (.iload 7, 2) := by decide +kernel
theorem dX4_findWays_39 : decode cX4_findWays 39 = .ok (.bipush 6, 2) := by decide +kernel
theorem dX4_findWays_41 : decode cX4_findWays 41 = .ok (.if_icmp .ge 48, 3) := by decide +kernel
theorem dX4_findWays_44 : decode cX4_findWays 44 = .ok (.iload_n 3, 1) := by decide +kernel
theorem dX4_findWays_45 : decode cX4_findWays 45 = .ok (.ifCond .le 44, 3) := by decide +kernel
theorem dX4_findWays_48 : decode cX4_findWays 48 = .ok (.lload 5, 2) := by decide +kernel
theorem dX4_findWays_50 : decode cX4_findWays 50 = .ok (.aload_n 0, 1) := by decide +kernel
theorem dX4_findWays_51 : decode cX4_findWays 51 = .ok (.iload 7, 2) := by decide +kernel
theorem dX4_findWays_53 : decode cX4_findWays 53 = .ok (.iload 4, 2) := by decide +kernel
theorem dX4_findWays_55 : decode cX4_findWays 55 = .ok (.invokevirtual 193, 3) := by decide +kernel
theorem dX4_findWays_58 : decode cX4_findWays 58 = .ok (.ifCond .eq 21, 3) := by decide +kernel
theorem dX4_findWays_61 : decode cX4_findWays 61 = .ok (.aload_n 0, 1) := by decide +kernel
theorem dX4_findWays_62 : decode cX4_findWays 62 = .ok (.getfield 68, 3) := by decide +kernel
theorem dX4_findWays_65 : decode cX4_findWays 65 = .ok (.bipush 6, 2) := by decide +kernel
theorem dX4_findWays_67 : decode cX4_findWays 67 = .ok (.iload_n 3, 1) := by decide +kernel
theorem dX4_findWays_68 : decode cX4_findWays 68 = .ok (.imul, 1) := by decide +kernel
theorem dX4_findWays_69 : decode cX4_findWays 69 = .ok (.bipush 6, 2) := by decide +kernel
theorem dX4_findWays_71 : decode cX4_findWays 71 = .ok (.isub, 1) := by decide +kernel
theorem dX4_findWays_72 : decode cX4_findWays 72 = .ok (.iload 7, 2) := by decide +kernel
theorem dX4_findWays_74 : decode cX4_findWays 74 = .ok (.iadd, 1) := by decide +kernel
theorem dX4_findWays_75 : decode cX4_findWays 75 = .ok (.laload, 1) := by decide +kernel
theorem dX4_findWays_76 : decode cX4_findWays 76 = .ok (.goto 4, 3) := by decide +kernel
theorem dX4_findWays_79 : decode cX4_findWays 79 = .ok (.lconst 0, 1) := by decide +kernel
theorem dX4_findWays_80 : decode cX4_findWays 80 = .ok (.ladd, 1) := by decide +kernel
theorem dX4_findWays_81 : decode cX4_findWays 81 = .ok (.lstore 5, 2) := by decide +kernel
theorem dX4_findWays_83 : decode cX4_findWays 83 = .ok (.iinc 7 1, 3) := by decide +kernel
theorem dX4_findWays_86 : decode cX4_findWays 86 = .ok (.goto (-49), 3) := by decide +kernel
theorem dX4_findWays_89 : decode cX4_findWays 89 = .ok (.aload_n 0, 1) := by decide +kernel
theorem dX4_findWays_90 : decode cX4_findWays 90 = .ok (.getfield 68, 3) := by decide +kernel
theorem dX4_findWays_93 : decode cX4_findWays 93 = .ok (.bipush 6, 2) := by decide +kernel
theorem dX4_findWays_95 : decode cX4_findWays 95 = .ok (.iload_n 3, 1) := by decide +kernel
theorem dX4_findWays_96 : decode cX4_findWays 96 = .ok (.imul, 1) := by decide +kernel
theorem dX4_findWays_97 : decode cX4_findWays 97 = .ok (.iload 4, 2) := by decide +kernel
theorem dX4_findWays_99 : decode cX4_findWays 99 = .ok (.iadd, 1) := by decide +kernel
theorem dX4_findWays_100 : decode cX4_findWays 100 = .ok (.iload_n 2, 1) := by decide +kernel
theorem dX4_findWays_101 : decode cX4_findWays 101 = .ok (.ifCond .eq 19, 3) := by decide +kernel
theorem dX4_findWays_104 : decode cX4_findWays 104 = .ok (.aload_n 0, 1) := by decide +kernel
theorem dX4_findWays_105 : decode cX4_findWays 105 = .ok (.iload 4, 2) := by decide +kernel
theorem dX4_findWays_107 : decode cX4_findWays 107 = .ok (.iload_n 3, 1) := by decide +kernel
theorem dX4_findWays_108 : decode cX4_findWays 108 = .ok (.iload_n 1, 1) := by decide +kernel
theorem dX4_findWays_109 : decode cX4_findWays 109 = .ok (.invokevirtual 196, 3) := by decide +kernel
theorem dX4_findWays_112 : decode cX4_findWays 112 = .ok (.ifCond .eq 8, 3) := by decide +kernel
theorem dX4_findWays_115 : decode cX4_findWays 115 = .ok (.lload 5, 2) := by decide +kernel
theorem dX4_findWays_117 : decode cX4_findWays 117 = .ok (.goto 4, 3) := by decide +kernel
theorem dX4_findWays_120 : decode cX4_findWays 120 = .ok (.lconst 0, 1) := by decide +kernel
theorem dX4_findWays_121 : decode cX4_findWays 121 = .ok (.lastore, 1) := by decide +kernel
theorem dX4_findWays_122 : decode cX4_findWays 122 = .ok (.iinc 4 1, 3) := by decide +kernel
theorem dX4_findWays_125 : decode cX4_findWays 125 = .ok (.goto (-109), 3) := by decide +kernel
theorem dX4_findWays_128 : decode cX4_findWays 128 = .ok (.iinc 3 1, 3) := by decide +kernel
theorem dX4_findWays_131 : decode cX4_findWays 131 = .ok (.goto (-123), 3) := by decide +kernel
theorem dX4_findWays_134 : decode cX4_findWays 134 = .ok (.iload_n 1, 1) := by decide +kernel
theorem dX4_findWays_135 : decode cX4_findWays 135 = .ok (.istore_n 3, 1) := by decide +kernel
theorem dX4_findWays_136 : decode cX4_findWays 136 = .ok (.iload_n 3, 1) := by decide +kernel
theorem dX4_findWays_137 : decode cX4_findWays 137 = .ok (.ifCond .lt 126, 3) := by decide +kernel
theorem dX4_findWays_140 : decode cX4_findWays 140 = .ok (.iconst 0, 1) := by decide +kernel
theorem dX4_findWays_141 : decode cX4_findWays 141 = .ok (.istore 4, 2) := by decide +kernel
theorem dX4_findWays_143 : decode cX4_findWays 143 = .ok (.iload 4, 2) := by decide +kernel
theorem dX4_findWays_145 : decode cX4_findWays 145 = .ok (.bipush 6, 2) := by decide +kernel
theorem dX4_findWays_147 : decode cX4_findWays 147 = .ok (.if_icmp .ge 110, 3) := by decide +kernel
theorem dX4_findWays_150 : decode cX4_findWays 150 = .ok (.iload_n 3, 1) := by decide +kernel
theorem dX4_findWays_151 : decode cX4_findWays 151 = .ok (.iload_n 1, 1) := by decide +kernel
theorem dX4_findWays_152 : decode cX4_findWays 152 = .ok (.if_icmp .ne 7, 3) := by decide +kernel
theorem dX4_findWays_155 : decode cX4_findWays 155 = .ok (.lconst 1, 1) := by decide +kernel
theorem dX4_findWays_156 : decode cX4_findWays 156 = .ok (.goto 4, 3) := by decide +kernel
theorem dX4_findWays_159 : decode cX4_findWays 159 = .ok (.lconst 0, 1) := by decide +kernel
theorem dX4_findWays_160 : decode cX4_findWays 160 = .ok (.lstore 5, 2) := by decide +kernel
theorem dX4_findWays_162 : decode cX4_findWays 162 = .ok (.iconst 0, 1) := by decide +kernel
theorem dX4_findWays_163 : decode cX4_findWays 163 = .ok (.istore 7, 2) := by decide +kernel
theorem dX4_findWays_165 : decode cX4_findWays 165 = .ok (.iload 7, 2) := by decide +kernel
theorem dX4_findWays_167 : decode cX4_findWays 167 = .ok (.bipush 6, 2) := by decide +kernel
theorem dX4_findWays_169 : decode cX4_findWays 169 = .ok (.if_icmp .ge 49, 3) := by decide +kernel
theorem dX4_findWays_172 : decode cX4_findWays 172 = .ok (.iload_n 3, 1) := by decide +kernel
theorem dX4_findWays_173 : decode cX4_findWays 173 = .ok (.iload_n 1, 1) := by decide +kernel
theorem dX4_findWays_174 : decode cX4_findWays 174 = .ok (.if_icmp .ge 44, 3) := by decide +kernel
theorem dX4_findWays_177 : decode cX4_findWays 177 = .ok (.lload 5, 2) := by decide +kernel
theorem dX4_findWays_179 : decode cX4_findWays 179 = .ok (.aload_n 0, 1) := by decide +kernel
theorem dX4_findWays_180 : decode cX4_findWays 180 = .ok (.iload 4, 2) := by decide +kernel
theorem dX4_findWays_182 : decode cX4_findWays 182 = .ok (.iload 7, 2) := by decide +kernel
theorem dX4_findWays_184 : decode cX4_findWays 184 = .ok (.invokevirtual 193, 3) := by decide +kernel
theorem dX4_findWays_187 : decode cX4_findWays 187 = .ok (.ifCond .eq 21, 3) := by decide +kernel
theorem dX4_findWays_190 : decode cX4_findWays 190 = .ok (.aload_n 0, 1) := by decide +kernel
theorem dX4_findWays_191 : decode cX4_findWays 191 = .ok (.getfield 72, 3) := by decide +kernel
theorem dX4_findWays_194 : decode cX4_findWays 194 = .ok (.bipush 6, 2) := by decide +kernel
theorem dX4_findWays_196 : decode cX4_findWays 196 = .ok (.iload_n 3, 1) := by decide +kernel
theorem dX4_findWays_197 : decode cX4_findWays 197 = .ok (.imul, 1) := by decide +kernel
theorem dX4_findWays_198 : decode cX4_findWays 198 = .ok (.bipush 6, 2) := by decide +kernel
theorem dX4_findWays_200 : decode cX4_findWays 200 = .ok (.iadd, 1) := by decide +kernel
theorem dX4_findWays_201 : decode cX4_findWays 201 = .ok (.iload 7, 2) := by decide +kernel
theorem dX4_findWays_203 : decode cX4_findWays 203 = .ok (.iadd, 1) := by decide +kernel
theorem dX4_findWays_204 : decode cX4_findWays 204 = .ok (.laload, 1) := by decide +kernel
theorem dX4_findWays_205 : decode cX4_findWays 205 = .ok (.goto 4, 3) := by decide +kernel
theorem dX4_findWays_208 : decode cX4_findWays 208 = .ok (.lconst 0, 1) := by decide +kernel
theorem dX4_findWays_209 : decode cX4_findWays 209 = .ok (.ladd, 1) := by decide +kernel
theorem dX4_findWays_210 : decode cX4_findWays 210 = .ok (.lstore 5, 2) := by decide +kernel
theorem dX4_findWays_212 : decode cX4_findWays 212 = .ok (.iinc 7 1, 3) := by decide +kernel
theorem dX4_findWays_215 : decode cX4_findWays 215 = .ok (.goto (-50), 3) := by decide +kernel
theorem dX4_findWays_218 : decode cX4_findWays 218 = .ok (.aload_n 0, 1) := by decide +kernel
theorem dX4_findWays_219 : decode cX4_findWays 219 = .ok (.getfield 72, 3) := by decide +kernel
theorem dX4_findWays_222 : decode cX4_findWays 222 = .ok (.bipush 6, 2) := by decide +kernel
theorem dX4_findWays_224 : decode cX4_findWays 224 = .ok (.iload_n 3, 1) := by decide +kernel
theorem dX4_findWays_225 : decode cX4_findWays 225 = .ok (.imul, 1) := by decide +kernel
theorem dX4_findWays_226 : decode cX4_findWays 226 = .ok (.iload 4, 2) := by decide +kernel
theorem dX4_findWays_228 : decode cX4_findWays 228 = .ok (.iadd, 1) := by decide +kernel
theorem dX4_findWays_229 : decode cX4_findWays 229 = .ok (.iload_n 2, 1) := by decide +kernel
theorem dX4_findWays_230 : decode cX4_findWays 230 = .ok (.ifCond .eq 19, 3) := by decide +kernel
theorem dX4_findWays_233 : decode cX4_findWays 233 = .ok (.aload_n 0, 1) := by decide +kernel
theorem dX4_findWays_234 : decode cX4_findWays 234 = .ok (.iload 4, 2) := by decide +kernel
theorem dX4_findWays_236 : decode cX4_findWays 236 = .ok (.iload_n 3, 1) := by decide +kernel
theorem dX4_findWays_237 : decode cX4_findWays 237 = .ok (.iload_n 1, 1) := by decide +kernel
theorem dX4_findWays_238 : decode cX4_findWays 238 = .ok (.invokevirtual 196, 3) := by decide +kernel
theorem dX4_findWays_241 : decode cX4_findWays 241 = .ok (.ifCond .eq 8, 3) := by decide +kernel
theorem dX4_findWays_244 : decode cX4_findWays 244 = .ok (.lload 5, 2) := by decide +kernel
theorem dX4_findWays_246 : decode cX4_findWays 246 = .ok (.goto 4, 3) := by decide +kernel
theorem dX4_findWays_249 : decode cX4_findWays 249 = .ok (.lconst 0, 1) := by decide +kernel
theorem dX4_findWays_250 : decode cX4_findWays 250 = .ok (.lastore, 1) := by decide +kernel
theorem dX4_findWays_251 : decode cX4_findWays 251 = .ok (.iinc 4 1, 3) := by decide +kernel
theorem dX4_findWays_254 : decode cX4_findWays 254 = .ok (.goto (-111), 3) := by decide +kernel
theorem dX4_findWays_257 : decode cX4_findWays 257 = .ok (.iinc 3 (-1), 3) := by decide +kernel
theorem dX4_findWays_260 : decode cX4_findWays 260 = .ok (.goto (-124), 3) := by decide +kernel
theorem dX4_findWays_263 : decode cX4_findWays 263 = .ok (.return_, 1) := by decide +kernel
theorem dX4_walked_0 : decode cX4_walked 0 = .ok (.iload_n 1, 1) := by decide +kernel
theorem dX4_walked_1 : decode cX4_walked 1 = .ok (.iconst 0, 1) := by decide +kernel
theorem dX4_walked_2 : decode cX4_walked 2 = .ok (.bipush 8, 2) := by decide +kernel
theorem dX4_walked_4 : decode cX4_walked 4 = .ok (.invokestatic 78, 3) := by decide +kernel
theorem dX4_walked_7 : decode cX4_walked 7 = .ok (.istore_n 2, 1) := by decide +kernel
theorem dX4_walked_8 : decode cX4_walked 8 = .ok (.iload_n 2, 1) := by decide +kernel
theorem dX4_walked_9 : decode cX4_walked 9 = .ok (.ifCond .ne 15, 3) := by decide +kernel
theorem dX4_walked_12 : decode cX4_walked 12 = .ok (.aload_n 0, 1) := by decide +kernel
theorem dX4_walked_13 : decode cX4_walked 13 = .ok (.getfield 199, 3) := by decide +kernel
theorem dX4_walked_16 : decode cX4_walked 16 = .ok (.bipush 6, 2) := by decide +kernel
theorem dX4_walked_18 : decode cX4_walked 18 = .ok (.if_icmp .eq 6, 3) := by decide +kernel
theorem dX4_walked_21 : decode cX4_walked 21 = .ok (.bipush (-3), 2) := by decide +kernel
theorem dX4_walked_23 : decode cX4_walked 23 = .ok (.istore_n 2, 1) := by decide +kernel
theorem dX4_walked_24 : decode cX4_walked 24 = .ok (.iload_n 2, 1) := by decide +kernel
theorem dX4_walked_25 : decode cX4_walked 25 = .ok (.ifCond .eq 9, 3) := by decide +kernel
theorem dX4_walked_28 : decode cX4_walked 28 = .ok (.aload_n 0, 1) := by decide +kernel
theorem dX4_walked_29 : decode cX4_walked 29 = .ok (.iload_n 2, 1) := by decide +kernel
theorem dX4_walked_30 : decode cX4_walked 30 = .ok (.invokevirtual 85, 3) := by decide +kernel
theorem dX4_walked_33 : decode cX4_walked 33 = .ok (.ireturn, 1) := by decide +kernel
theorem dX4_walked_34 : decode cX4_walked 34 = .ok (.aload_n 0, 1) := by decide +kernel
theorem dX4_walked_35 : decode cX4_walked 35 = .ok (.iload_n 1, 1) := by decide +kernel
theorem dX4_walked_36 : decode cX4_walked 36 = .ok (.invokevirtual 202, 3) := by decide +kernel
theorem dX4_walked_39 : decode cX4_walked 39 = .ok (.lconst 0, 1) := by decide +kernel
theorem dX4_walked_40 : decode cX4_walked 40 = .ok (.lstore_n 3, 1) := by decide +kernel
theorem dX4_walked_41 : decode cX4_walked 41 = .ok (.iconst 0, 1) := by decide +kernel
theorem dX4_walked_42 : decode cX4_walked 42 = .ok (.istore 5, 2) := by decide +kernel
theorem dX4_walked_44 : decode cX4_walked 44 = .ok (.iload 5, 2) := by decide +kernel
theorem dX4_walked_46 : decode cX4_walked 46 = .ok (.bipush 6, 2) := by decide +kernel
theorem dX4_walked_48 : decode cX4_walked 48 = .ok (.if_icmp .ge 24, 3) := by decide +kernel
theorem dX4_walked_51 : decode cX4_walked 51 = .ok (.lload_n 3, 1) := by decide +kernel
theorem dX4_walked_52 : decode cX4_walked 52 = .ok (.aload_n 0, 1) := by decide +kernel
theorem dX4_walked_53 : decode cX4_walked 53 = .ok (.getfield 68, 3) := by decide +kernel
theorem dX4_walked_56 : decode cX4_walked 56 = .ok (.bipush 6, 2) := by decide +kernel
theorem dX4_walked_58 : decode cX4_walked 58 = .ok (.iload_n 1, 1) := by decide +kernel
theorem dX4_walked_59 : decode cX4_walked 59 = .ok (.imul, 1) := by decide +kernel
theorem dX4_walked_60 : decode cX4_walked 60 = .ok (.iload 5, 2) := by decide +kernel
theorem dX4_walked_62 : decode cX4_walked 62 = .ok (.iadd, 1) := by decide +kernel
theorem dX4_walked_63 : decode cX4_walked 63 = .ok (.laload, 1) := by decide +kernel
theorem dX4_walked_64 : decode cX4_walked 64 = .ok (.ladd, 1) := by decide +kernel
theorem dX4_walked_65 : decode cX4_walked 65 = .ok (.lstore_n 3, 1) := by decide +kernel
theorem dX4_walked_66 : decode cX4_walked 66 = .ok (.iinc 5 1, 3) := by decide +kernel
theorem dX4_walked_69 : decode cX4_walked 69 = .ok (.goto (-25), 3) := by decide +kernel
theorem dX4_walked_72 : decode cX4_walked 72 = .ok (.lload_n 3, 1) := by decide +kernel
theorem dX4_walked_73 : decode cX4_walked 73 = .ok (.l2i, 1) := by decide +kernel
theorem dX4_walked_74 : decode cX4_walked 74 = .ok (.ireturn, 1) := by decide +kernel
theorem dX4_notAsked_0 : decode cX4_notAsked 0 = .ok (.iload_n 1, 1) := by decide +kernel
theorem dX4_notAsked_1 : decode cX4_notAsked 1 = .ok (.ifCond .lt 7, 3) := by decide +kernel
theorem dX4_notAsked_4 : decode cX4_notAsked 4 = .ok (.iload_n 2, 1) := by decide +kernel
theorem dX4_notAsked_5 : decode cX4_notAsked 5 = .ok (.ifCond .ge 8, 3) := by decide +kernel
theorem dX4_notAsked_8 : decode cX4_notAsked 8 = .ok (.bipush (-4), 2) := by decide +kernel
theorem dX4_notAsked_10 : decode cX4_notAsked 10 = .ok (.goto 20, 3) := by decide +kernel
theorem dX4_notAsked_13 : decode cX4_notAsked 13 = .ok (.iload_n 1, 1) := by decide +kernel
theorem dX4_notAsked_14 : decode cX4_notAsked 14 = .ok (.bipush 8, 2) := by decide +kernel
theorem dX4_notAsked_16 : decode cX4_notAsked 16 = .ok (.if_icmp .gt 8, 3) := by decide +kernel
theorem dX4_notAsked_19 : decode cX4_notAsked 19 = .ok (.iload_n 2, 1) := by decide +kernel
theorem dX4_notAsked_20 : decode cX4_notAsked 20 = .ok (.iload_n 1, 1) := by decide +kernel
theorem dX4_notAsked_21 : decode cX4_notAsked 21 = .ok (.if_icmp .le 8, 3) := by decide +kernel
theorem dX4_notAsked_24 : decode cX4_notAsked 24 = .ok (.bipush (-6), 2) := by decide +kernel
theorem dX4_notAsked_26 : decode cX4_notAsked 26 = .ok (.goto 4, 3) := by decide +kernel
theorem dX4_notAsked_29 : decode cX4_notAsked 29 = .ok (.iconst 0, 1) := by decide +kernel
theorem dX4_notAsked_30 : decode cX4_notAsked 30 = .ok (.istore_n 3, 1) := by decide +kernel
theorem dX4_notAsked_31 : decode cX4_notAsked 31 = .ok (.iload_n 3, 1) := by decide +kernel
theorem dX4_notAsked_32 : decode cX4_notAsked 32 = .ok (.ifCond .ne 17, 3) := by decide +kernel
theorem dX4_notAsked_35 : decode cX4_notAsked 35 = .ok (.aload_n 0, 1) := by decide +kernel
theorem dX4_notAsked_36 : decode cX4_notAsked 36 = .ok (.getfield 199, 3) := by decide +kernel
theorem dX4_notAsked_39 : decode cX4_notAsked 39 = .ok (.bipush 6, 2) := by decide +kernel
theorem dX4_notAsked_41 : decode cX4_notAsked 41 = .ok (.if_icmp .eq 8, 3) := by decide +kernel
theorem dX4_notAsked_44 : decode cX4_notAsked 44 = .ok (.bipush (-3), 2) := by decide +kernel
theorem dX4_notAsked_46 : decode cX4_notAsked 46 = .ok (.goto 4, 3) := by decide +kernel
theorem dX4_notAsked_49 : decode cX4_notAsked 49 = .ok (.iload_n 3, 1) := by decide +kernel
theorem dX4_notAsked_50 : decode cX4_notAsked 50 = .ok (.ireturn, 1) := by decide +kernel
theorem dX4_waysBy_0 : decode cX4_waysBy 0 = .ok (.aload_n 0, 1) := by decide +kernel
theorem dX4_waysBy_1 : decode cX4_waysBy 1 = .ok (.getfield 68, 3) := by decide +kernel
theorem dX4_waysBy_4 : decode cX4_waysBy 4 = .ok (.bipush 6, 2) := by decide +kernel
theorem dX4_waysBy_6 : decode cX4_waysBy 6 = .ok (.iload_n 1, 1) := by decide +kernel
theorem dX4_waysBy_7 : decode cX4_waysBy 7 = .ok (.imul, 1) := by decide +kernel
theorem dX4_waysBy_8 : decode cX4_waysBy 8 = .ok (.iload_n 2, 1) := by decide +kernel
theorem dX4_waysBy_9 : decode cX4_waysBy 9 = .ok (.iadd, 1) := by decide +kernel
theorem dX4_waysBy_10 : decode cX4_waysBy 10 = .ok (.laload, 1) := by decide +kernel
theorem dX4_waysBy_11 : decode cX4_waysBy 11 = .ok (.aload_n 0, 1) := by decide +kernel
theorem dX4_waysBy_12 : decode cX4_waysBy 12 = .ok (.getfield 72, 3) := by decide +kernel
theorem dX4_waysBy_15 : decode cX4_waysBy 15 = .ok (.bipush 6, 2) := by decide +kernel
theorem dX4_waysBy_17 : decode cX4_waysBy 17 = .ok (.iload_n 1, 1) := by decide +kernel
theorem dX4_waysBy_18 : decode cX4_waysBy 18 = .ok (.imul, 1) := by decide +kernel
theorem dX4_waysBy_19 : decode cX4_waysBy 19 = .ok (.iload_n 2, 1) := by decide +kernel
theorem dX4_waysBy_20 : decode cX4_waysBy 20 = .ok (.iadd, 1) := by decide +kernel
theorem dX4_waysBy_21 : decode cX4_waysBy 21 = .ok (.laload, 1) := by decide +kernel
theorem dX4_waysBy_22 : decode cX4_waysBy 22 = .ok (.lmul, 1) := by decide +kernel
theorem dX4_waysBy_23 : decode cX4_waysBy 23 = .ok (.lreturn, 1) := by decide +kernel
theorem dX4_likeliest_0 : decode cX4_likeliest 0 = .ok (.aload_n 0, 1) := by decide +kernel
theorem dX4_likeliest_1 : decode cX4_likeliest 1 = .ok (.iload_n 1, 1) := by decide +kernel
theorem dX4_likeliest_2 : decode cX4_likeliest 2 = .ok (.iload_n 2, 1) := by decide +kernel
theorem dX4_likeliest_3 : decode cX4_likeliest 3 = .ok (.invokevirtual 205, 3) := by decide +kernel
theorem dX4_likeliest_6 : decode cX4_likeliest 6 = .ok (.istore_n 3, 1) := by decide +kernel
theorem dX4_likeliest_7 : decode cX4_likeliest 7 = .ok (.iload_n 3, 1) := by decide +kernel
theorem dX4_likeliest_8 : decode cX4_likeliest 8 = .ok (.ifCond .eq 9, 3) := by decide +kernel
theorem dX4_likeliest_11 : decode cX4_likeliest 11 = .ok (.aload_n 0, 1) := by decide +kernel
theorem dX4_likeliest_12 : decode cX4_likeliest 12 = .ok (.iload_n 3, 1) := by decide +kernel
theorem dX4_likeliest_13 : decode cX4_likeliest 13 = .ok (.invokevirtual 85, 3) := by decide +kernel
theorem dX4_likeliest_16 : decode cX4_likeliest 16 = .ok (.ireturn, 1) := by decide +kernel
theorem dX4_likeliest_17 : decode cX4_likeliest 17 = .ok (.aload_n 0, 1) := by decide +kernel
theorem dX4_likeliest_18 : decode cX4_likeliest 18 = .ok (.iload_n 1, 1) := by decide +kernel
theorem dX4_likeliest_19 : decode cX4_likeliest 19 = .ok (.invokevirtual 202, 3) := by decide +kernel
theorem dX4_likeliest_22 : decode cX4_likeliest 22 = .ok (.bipush (-9), 2) := by decide +kernel
theorem dX4_likeliest_24 : decode cX4_likeliest 24 = .ok (.istore 4, 2) := by decide +kernel
theorem dX4_likeliest_26 : decode cX4_likeliest 26 = .ok (.iconst 0, 1) := by decide +kernel
theorem dX4_likeliest_27 : decode cX4_likeliest 27 = .ok (.istore 5, 2) := by decide +kernel
theorem dX4_likeliest_29 : decode cX4_likeliest 29 = .ok (.iload 5, 2) := by decide +kernel
theorem dX4_likeliest_31 : decode cX4_likeliest 31 = .ok (.bipush 6, 2) := by decide +kernel
theorem dX4_likeliest_33 : decode cX4_likeliest 33 = .ok (.if_icmp .ge 48, 3) := by decide +kernel
theorem dX4_likeliest_36 : decode cX4_likeliest 36 = .ok (.aload_n 0, 1) := by decide +kernel
theorem dX4_likeliest_37 : decode cX4_likeliest 37 = .ok (.iload_n 2, 1) := by decide +kernel
theorem dX4_likeliest_38 : decode cX4_likeliest 38 = .ok (.iload 5, 2) := by decide +kernel
theorem dX4_likeliest_40 : decode cX4_likeliest 40 = .ok (.invokevirtual 208, 3) := by decide +kernel
theorem dX4_likeliest_43 : decode cX4_likeliest 43 = .ok (.lconst 0, 1) := by decide +kernel
theorem dX4_likeliest_44 : decode cX4_likeliest 44 = .ok (.lcmp, 1) := by decide +kernel
theorem dX4_likeliest_45 : decode cX4_likeliest 45 = .ok (.ifCond .le 30, 3) := by decide +kernel
theorem dX4_likeliest_48 : decode cX4_likeliest 48 = .ok (.iload 4, 2) := by decide +kernel
theorem dX4_likeliest_50 : decode cX4_likeliest 50 = .ok (.ifCond .lt 21, 3) := by decide +kernel
theorem dX4_likeliest_53 : decode cX4_likeliest 53 = .ok (.aload_n 0, 1) := by decide +kernel
theorem dX4_likeliest_54 : decode cX4_likeliest 54 = .ok (.iload_n 2, 1) := by decide +kernel
theorem dX4_likeliest_55 : decode cX4_likeliest 55 = .ok (.iload 5, 2) := by decide +kernel
theorem dX4_likeliest_57 : decode cX4_likeliest 57 = .ok (.invokevirtual 208, 3) := by decide +kernel
theorem dX4_likeliest_60 : decode cX4_likeliest 60 = .ok (.aload_n 0, 1) := by decide +kernel
theorem dX4_likeliest_61 : decode cX4_likeliest 61 = .ok (.iload_n 2, 1) := by decide +kernel
theorem dX4_likeliest_62 : decode cX4_likeliest 62 = .ok (.iload 4, 2) := by decide +kernel
theorem dX4_likeliest_64 : decode cX4_likeliest 64 = .ok (.invokevirtual 208, 3) := by decide +kernel
theorem dX4_likeliest_67 : decode cX4_likeliest 67 = .ok (.lcmp, 1) := by decide +kernel
theorem dX4_likeliest_68 : decode cX4_likeliest 68 = .ok (.ifCond .le 7, 3) := by decide +kernel
theorem dX4_likeliest_71 : decode cX4_likeliest 71 = .ok (.iload 5, 2) := by decide +kernel
theorem dX4_likeliest_73 : decode cX4_likeliest 73 = .ok (.istore 4, 2) := by decide +kernel
theorem dX4_likeliest_75 : decode cX4_likeliest 75 = .ok (.iinc 5 1, 3) := by decide +kernel
theorem dX4_likeliest_78 : decode cX4_likeliest 78 = .ok (.goto (-49), 3) := by decide +kernel
theorem dX4_likeliest_81 : decode cX4_likeliest 81 = .ok (.iload 4, 2) := by decide +kernel
theorem dX4_likeliest_83 : decode cX4_likeliest 83 = .ok (.ireturn, 1) := by decide +kernel
theorem dX4_sure_0 : decode cX4_sure 0 = .ok (.aload_n 0, 1) := by decide +kernel
theorem dX4_sure_1 : decode cX4_sure 1 = .ok (.iload_n 1, 1) := by decide +kernel
theorem dX4_sure_2 : decode cX4_sure 2 = .ok (.iload_n 2, 1) := by decide +kernel
theorem dX4_sure_3 : decode cX4_sure 3 = .ok (.invokevirtual 205, 3) := by decide +kernel
theorem dX4_sure_6 : decode cX4_sure 6 = .ok (.istore_n 3, 1) := by decide +kernel
theorem dX4_sure_7 : decode cX4_sure 7 = .ok (.iload_n 3, 1) := by decide +kernel
theorem dX4_sure_8 : decode cX4_sure 8 = .ok (.ifCond .eq 9, 3) := by decide +kernel
theorem dX4_sure_11 : decode cX4_sure 11 = .ok (.aload_n 0, 1) := by decide +kernel
theorem dX4_sure_12 : decode cX4_sure 12 = .ok (.iload_n 3, 1) := by decide +kernel
theorem dX4_sure_13 : decode cX4_sure 13 = .ok (.invokevirtual 85, 3) := by decide +kernel
theorem dX4_sure_16 : decode cX4_sure 16 = .ok (.ireturn, 1) := by decide +kernel
theorem dX4_sure_17 : decode cX4_sure 17 = .ok (.aload_n 0, 1) := by decide +kernel
theorem dX4_sure_18 : decode cX4_sure 18 = .ok (.iload_n 1, 1) := by decide +kernel
theorem dX4_sure_19 : decode cX4_sure 19 = .ok (.invokevirtual 202, 3) := by decide +kernel
theorem dX4_sure_22 : decode cX4_sure 22 = .ok (.iconst 0, 1) := by decide +kernel
theorem dX4_sure_23 : decode cX4_sure 23 = .ok (.istore 4, 2) := by decide +kernel
theorem dX4_sure_25 : decode cX4_sure 25 = .ok (.iconst 0, 1) := by decide +kernel
theorem dX4_sure_26 : decode cX4_sure 26 = .ok (.istore 5, 2) := by decide +kernel
theorem dX4_sure_28 : decode cX4_sure 28 = .ok (.iload 5, 2) := by decide +kernel
theorem dX4_sure_30 : decode cX4_sure 30 = .ok (.bipush 6, 2) := by decide +kernel
theorem dX4_sure_32 : decode cX4_sure 32 = .ok (.if_icmp .ge 34, 3) := by decide +kernel
theorem dX4_sure_35 : decode cX4_sure 35 = .ok (.iload 4, 2) := by decide +kernel
theorem dX4_sure_37 : decode cX4_sure 37 = .ok (.aload_n 0, 1) := by decide +kernel
theorem dX4_sure_38 : decode cX4_sure 38 = .ok (.iload_n 2, 1) := by decide +kernel
theorem dX4_sure_39 : decode cX4_sure 39 = .ok (.iload 5, 2) := by decide +kernel
theorem dX4_sure_41 : decode cX4_sure 41 = .ok (.invokevirtual 208, 3) := by decide +kernel
theorem dX4_sure_44 : decode cX4_sure 44 = .ok (.lconst 0, 1) := by decide +kernel
theorem dX4_sure_45 : decode cX4_sure 45 = .ok (.lcmp, 1) := by decide +kernel
theorem dX4_sure_46 : decode cX4_sure 46 = .ok (.ifCond .le 10, 3) := by decide +kernel
theorem dX4_sure_49 : decode cX4_sure 49 = .ok (.iconst 1, 1) := by decide +kernel
theorem dX4_sure_50 : decode cX4_sure 50 = .ok (.iload 5, 2) := by decide +kernel
theorem dX4_sure_52 : decode cX4_sure 52 = .ok (.ishl, 1) := by decide +kernel
theorem dX4_sure_53 : decode cX4_sure 53 = .ok (.goto 4, 3) := by decide +kernel
theorem dX4_sure_56 : decode cX4_sure 56 = .ok (.iconst 0, 1) := by decide +kernel
theorem dX4_sure_57 : decode cX4_sure 57 = .ok (.ior, 1) := by decide +kernel
theorem dX4_sure_58 : decode cX4_sure 58 = .ok (.istore 4, 2) := by decide +kernel
theorem dX4_sure_60 : decode cX4_sure 60 = .ok (.iinc 5 1, 3) := by decide +kernel
theorem dX4_sure_63 : decode cX4_sure 63 = .ok (.goto (-35), 3) := by decide +kernel
theorem dX4_sure_66 : decode cX4_sure 66 = .ok (.iload 4, 2) := by decide +kernel
theorem dX4_sure_68 : decode cX4_sure 68 = .ok (.ireturn, 1) := by decide +kernel
theorem dX4_isLet_0 : decode cX4_isLet 0 = .ok (.iload_n 2, 1) := by decide +kernel
theorem dX4_isLet_1 : decode cX4_isLet 1 = .ok (.ifCond .eq 17, 3) := by decide +kernel
theorem dX4_isLet_4 : decode cX4_isLet 4 = .ok (.aload_n 0, 1) := by decide +kernel
theorem dX4_isLet_5 : decode cX4_isLet 5 = .ok (.iload_n 1, 1) := by decide +kernel
theorem dX4_isLet_6 : decode cX4_isLet 6 = .ok (.bipush (-9), 2) := by decide +kernel
theorem dX4_isLet_8 : decode cX4_isLet 8 = .ok (.iconst 0, 1) := by decide +kernel
theorem dX4_isLet_9 : decode cX4_isLet 9 = .ok (.invokevirtual 161, 3) := by decide +kernel
theorem dX4_isLet_12 : decode cX4_isLet 12 = .ok (.iconst 0, 1) := by decide +kernel
theorem dX4_isLet_13 : decode cX4_isLet 13 = .ok (.iconst 3, 1) := by decide +kernel
theorem dX4_isLet_14 : decode cX4_isLet 14 = .ok (.invokestatic 96, 3) := by decide +kernel
theorem dX4_isLet_17 : decode cX4_isLet 17 = .ok (.ireturn, 1) := by decide +kernel
theorem dX4_isLet_18 : decode cX4_isLet 18 = .ok (.iconst 0, 1) := by decide +kernel
theorem dX4_isLet_19 : decode cX4_isLet 19 = .ok (.istore_n 3, 1) := by decide +kernel
theorem dX4_isLet_20 : decode cX4_isLet 20 = .ok (.iload_n 3, 1) := by decide +kernel
theorem dX4_isLet_21 : decode cX4_isLet 21 = .ok (.aload_n 0, 1) := by decide +kernel
theorem dX4_isLet_22 : decode cX4_isLet 22 = .ok (.getfield 75, 3) := by decide +kernel
theorem dX4_isLet_25 : decode cX4_isLet 25 = .ok (.if_icmp .ge 21, 3) := by decide +kernel
theorem dX4_isLet_28 : decode cX4_isLet 28 = .ok (.aload_n 0, 1) := by decide +kernel
theorem dX4_isLet_29 : decode cX4_isLet 29 = .ok (.getfield 25, 3) := by decide +kernel
theorem dX4_isLet_32 : decode cX4_isLet 32 = .ok (.iload_n 3, 1) := by decide +kernel
theorem dX4_isLet_33 : decode cX4_isLet 33 = .ok (.iaload, 1) := by decide +kernel
theorem dX4_isLet_34 : decode cX4_isLet 34 = .ok (.iload_n 1, 1) := by decide +kernel
theorem dX4_isLet_35 : decode cX4_isLet 35 = .ok (.if_icmp .ne 5, 3) := by decide +kernel
theorem dX4_isLet_38 : decode cX4_isLet 38 = .ok (.iconst 0, 1) := by decide +kernel
theorem dX4_isLet_39 : decode cX4_isLet 39 = .ok (.ireturn, 1) := by decide +kernel
theorem dX4_isLet_40 : decode cX4_isLet 40 = .ok (.iinc 3 1, 3) := by decide +kernel
theorem dX4_isLet_43 : decode cX4_isLet 43 = .ok (.goto (-23), 3) := by decide +kernel
theorem dX4_isLet_46 : decode cX4_isLet 46 = .ok (.iconst 1, 1) := by decide +kernel
theorem dX4_isLet_47 : decode cX4_isLet 47 = .ok (.ireturn, 1) := by decide +kernel
theorem dX4_soonest_0 : decode cX4_soonest 0 = .ok (.aload_n 0, 1) := by decide +kernel
theorem dX4_soonest_1 : decode cX4_soonest 1 = .ok (.iconst 0, 1) := by decide +kernel
theorem dX4_soonest_2 : decode cX4_soonest 2 = .ok (.invokevirtual 186, 3) := by decide +kernel
theorem dX4_soonest_5 : decode cX4_soonest 5 = .ok (.bipush (-9), 2) := by decide +kernel
theorem dX4_soonest_7 : decode cX4_soonest 7 = .ok (.istore 4, 2) := by decide +kernel
theorem dX4_soonest_9 : decode cX4_soonest 9 = .ok (.iconst 1, 1) := by decide +kernel
theorem dX4_soonest_10 : decode cX4_soonest 10 = .ok (.iload_n 1, 1) := by decide +kernel
theorem dX4_soonest_11 : decode cX4_soonest 11 = .ok (.ishl, 1) := by decide +kernel
theorem dX4_soonest_12 : decode cX4_soonest 12 = .ok (.istore 5, 2) := by decide +kernel
theorem dX4_soonest_14 : decode cX4_soonest 14 = .ok (.iconst 0, 1) := by decide +kernel
theorem dX4_soonest_15 : decode cX4_soonest 15 = .ok (.istore 6, 2) := by decide +kernel
theorem dX4_soonest_17 : decode cX4_soonest 17 = .ok (.iload 6, 2) := by decide +kernel
theorem dX4_soonest_19 : decode cX4_soonest 19 = .ok (.bipush 40, 2) := by decide +kernel
theorem dX4_soonest_21 : decode cX4_soonest 21 = .ok (.if_icmp .gt 124, 3) := by decide +kernel
theorem dX4_soonest_24 : decode cX4_soonest 24 = .ok (.iload 4, 2) := by decide +kernel
theorem dX4_soonest_26 : decode cX4_soonest 26 = .ok (.ifCond .ge 119, 3) := by decide +kernel
theorem dX4_soonest_29 : decode cX4_soonest 29 = .ok (.iload 5, 2) := by decide +kernel
theorem dX4_soonest_31 : decode cX4_soonest 31 = .ok (.iload_n 2, 1) := by decide +kernel
theorem dX4_soonest_32 : decode cX4_soonest 32 = .ok (.ishr, 1) := by decide +kernel
theorem dX4_soonest_33 : decode cX4_soonest 33 = .ok (.iconst 1, 1) := by decide +kernel
theorem dX4_soonest_34 : decode cX4_soonest 34 = .ok (.iand, 1) := by decide +kernel
theorem dX4_soonest_35 : decode cX4_soonest 35 = .ok (.iconst 1, 1) := by decide +kernel
theorem dX4_soonest_36 : decode cX4_soonest 36 = .ok (.if_icmp .ne 7, 3) := by decide +kernel
theorem dX4_soonest_39 : decode cX4_soonest 39 = .ok (.iload 6, 2) := by decide +kernel
theorem dX4_soonest_41 : decode cX4_soonest 41 = .ok (.istore 4, 2) := by decide +kernel
theorem dX4_soonest_43 : decode cX4_soonest 43 = .ok (.aload_n 0, 1) := by decide +kernel
theorem dX4_soonest_44 : decode cX4_soonest 44 = .ok (.invokevirtual 177, 3) := by decide +kernel
theorem dX4_soonest_47 : decode cX4_soonest 47 = .ok (.iload 5, 2) := by decide +kernel
theorem dX4_soonest_49 : decode cX4_soonest 49 = .ok (.istore 7, 2) := by decide +kernel
theorem dX4_soonest_51 : decode cX4_soonest 51 = .ok (.iconst 0, 1) := by decide +kernel
theorem dX4_soonest_52 : decode cX4_soonest 52 = .ok (.istore 8, 2) := by decide +kernel
theorem dX4_soonest_54 : decode cX4_soonest 54 = .ok (.iload 8, 2) := by decide +kernel
theorem dX4_soonest_56 : decode cX4_soonest 56 = .ok (.bipush 6, 2) := by decide +kernel
theorem dX4_soonest_58 : decode cX4_soonest 58 = .ok (.if_icmp .ge 36, 3) := by decide +kernel
theorem dX4_soonest_61 : decode cX4_soonest 61 = .ok (.iload 7, 2) := by decide +kernel
theorem dX4_soonest_63 : decode cX4_soonest 63 = .ok (.iload 5, 2) := by decide +kernel
theorem dX4_soonest_65 : decode cX4_soonest 65 = .ok (.iload 8, 2) := by decide +kernel
theorem dX4_soonest_67 : decode cX4_soonest 67 = .ok (.ishr, 1) := by decide +kernel
theorem dX4_soonest_68 : decode cX4_soonest 68 = .ok (.iconst 1, 1) := by decide +kernel
theorem dX4_soonest_69 : decode cX4_soonest 69 = .ok (.iand, 1) := by decide +kernel
theorem dX4_soonest_70 : decode cX4_soonest 70 = .ok (.iconst 1, 1) := by decide +kernel
theorem dX4_soonest_71 : decode cX4_soonest 71 = .ok (.if_icmp .ne 13, 3) := by decide +kernel
theorem dX4_soonest_74 : decode cX4_soonest 74 = .ok (.aload_n 0, 1) := by decide +kernel
theorem dX4_soonest_75 : decode cX4_soonest 75 = .ok (.getfield 19, 3) := by decide +kernel
theorem dX4_soonest_78 : decode cX4_soonest 78 = .ok (.iload 8, 2) := by decide +kernel
theorem dX4_soonest_80 : decode cX4_soonest 80 = .ok (.iaload, 1) := by decide +kernel
theorem dX4_soonest_81 : decode cX4_soonest 81 = .ok (.goto 4, 3) := by decide +kernel
theorem dX4_soonest_84 : decode cX4_soonest 84 = .ok (.iconst 0, 1) := by decide +kernel
theorem dX4_soonest_85 : decode cX4_soonest 85 = .ok (.ior, 1) := by decide +kernel
theorem dX4_soonest_86 : decode cX4_soonest 86 = .ok (.istore 7, 2) := by decide +kernel
theorem dX4_soonest_88 : decode cX4_soonest 88 = .ok (.iinc 8 1, 3) := by decide +kernel
theorem dX4_soonest_91 : decode cX4_soonest 91 = .ok (.goto (-37), 3) := by decide +kernel
theorem dX4_soonest_94 : decode cX4_soonest 94 = .ok (.iconst 0, 1) := by decide +kernel
theorem dX4_soonest_95 : decode cX4_soonest 95 = .ok (.istore 8, 2) := by decide +kernel
theorem dX4_soonest_97 : decode cX4_soonest 97 = .ok (.iload 8, 2) := by decide +kernel
theorem dX4_soonest_99 : decode cX4_soonest 99 = .ok (.bipush 6, 2) := by decide +kernel
theorem dX4_soonest_101 : decode cX4_soonest 101 = .ok (.if_icmp .ge 34, 3) := by decide +kernel
theorem dX4_soonest_104 : decode cX4_soonest 104 = .ok (.iload 7, 2) := by decide +kernel
theorem dX4_soonest_106 : decode cX4_soonest 106 = .ok (.aload_n 0, 1) := by decide +kernel
theorem dX4_soonest_107 : decode cX4_soonest 107 = .ok (.iload 8, 2) := by decide +kernel
theorem dX4_soonest_109 : decode cX4_soonest 109 = .ok (.iload_n 3, 1) := by decide +kernel
theorem dX4_soonest_110 : decode cX4_soonest 110 = .ok (.invokevirtual 212, 3) := by decide +kernel
theorem dX4_soonest_113 : decode cX4_soonest 113 = .ok (.ifCond .eq 7, 3) := by decide +kernel
theorem dX4_soonest_116 : decode cX4_soonest 116 = .ok (.iconst (-1), 1) := by decide +kernel
theorem dX4_soonest_117 : decode cX4_soonest 117 = .ok (.goto 9, 3) := by decide +kernel
theorem dX4_soonest_120 : decode cX4_soonest 120 = .ok (.iconst 1, 1) := by decide +kernel
theorem dX4_soonest_121 : decode cX4_soonest 121 = .ok (.iload 8, 2) := by decide +kernel
theorem dX4_soonest_123 : decode cX4_soonest 123 = .ok (.ishl, 1) := by decide +kernel
theorem dX4_soonest_124 : decode cX4_soonest 124 = .ok (.iconst (-1), 1) := by decide +kernel
theorem dX4_soonest_125 : decode cX4_soonest 125 = .ok (.ixor, 1) := by decide +kernel
theorem dX4_soonest_126 : decode cX4_soonest 126 = .ok (.iand, 1) := by decide +kernel
theorem dX4_soonest_127 : decode cX4_soonest 127 = .ok (.istore 7, 2) := by decide +kernel
theorem dX4_soonest_129 : decode cX4_soonest 129 = .ok (.iinc 8 1, 3) := by decide +kernel
theorem dX4_soonest_132 : decode cX4_soonest 132 = .ok (.goto (-35), 3) := by decide +kernel
theorem dX4_soonest_135 : decode cX4_soonest 135 = .ok (.iload 7, 2) := by decide +kernel
theorem dX4_soonest_137 : decode cX4_soonest 137 = .ok (.istore 5, 2) := by decide +kernel
theorem dX4_soonest_139 : decode cX4_soonest 139 = .ok (.iinc 6 1, 3) := by decide +kernel
theorem dX4_soonest_142 : decode cX4_soonest 142 = .ok (.goto (-125), 3) := by decide +kernel
theorem dX4_soonest_145 : decode cX4_soonest 145 = .ok (.aload_n 0, 1) := by decide +kernel
theorem dX4_soonest_146 : decode cX4_soonest 146 = .ok (.iconst 1, 1) := by decide +kernel
theorem dX4_soonest_147 : decode cX4_soonest 147 = .ok (.iconst 0, 1) := by decide +kernel
theorem dX4_soonest_148 : decode cX4_soonest 148 = .ok (.invokevirtual 129, 3) := by decide +kernel
theorem dX4_soonest_151 : decode cX4_soonest 151 = .ok (.iload 4, 2) := by decide +kernel
theorem dX4_soonest_153 : decode cX4_soonest 153 = .ok (.ireturn, 1) := by decide +kernel
theorem dX4_across_0 : decode cX4_across 0 = .ok (.iload_n 1, 1) := by decide +kernel
theorem dX4_across_1 : decode cX4_across 1 = .ok (.invokestatic 117, 3) := by decide +kernel
theorem dX4_across_4 : decode cX4_across 4 = .ok (.ifCond .eq 20, 3) := by decide +kernel
theorem dX4_across_7 : decode cX4_across 7 = .ok (.iload_n 2, 1) := by decide +kernel
theorem dX4_across_8 : decode cX4_across 8 = .ok (.invokestatic 117, 3) := by decide +kernel
theorem dX4_across_11 : decode cX4_across 11 = .ok (.ifCond .eq 13, 3) := by decide +kernel
theorem dX4_across_14 : decode cX4_across 14 = .ok (.aload_n 0, 1) := by decide +kernel
theorem dX4_across_15 : decode cX4_across 15 = .ok (.iload_n 1, 1) := by decide +kernel
theorem dX4_across_16 : decode cX4_across 16 = .ok (.iload_n 2, 1) := by decide +kernel
theorem dX4_across_17 : decode cX4_across 17 = .ok (.iconst 0, 1) := by decide +kernel
theorem dX4_across_18 : decode cX4_across 18 = .ok (.invokevirtual 216, 3) := by decide +kernel
theorem dX4_across_21 : decode cX4_across 21 = .ok (.goto 8, 3) := by decide +kernel
theorem dX4_across_24 : decode cX4_across 24 = .ok (.aload_n 0, 1) := by decide +kernel
theorem dX4_across_25 : decode cX4_across 25 = .ok (.iconst (-1), 1) := by decide +kernel
theorem dX4_across_26 : decode cX4_across 26 = .ok (.invokevirtual 85, 3) := by decide +kernel
theorem dX4_across_29 : decode cX4_across 29 = .ok (.ireturn, 1) := by decide +kernel
theorem dX4_covered_0 : decode cX4_covered 0 = .ok (.iload_n 1, 1) := by decide +kernel
theorem dX4_covered_1 : decode cX4_covered 1 = .ok (.invokestatic 117, 3) := by decide +kernel
theorem dX4_covered_4 : decode cX4_covered 4 = .ok (.ifCond .eq 20, 3) := by decide +kernel
theorem dX4_covered_7 : decode cX4_covered 7 = .ok (.iload_n 2, 1) := by decide +kernel
theorem dX4_covered_8 : decode cX4_covered 8 = .ok (.invokestatic 117, 3) := by decide +kernel
theorem dX4_covered_11 : decode cX4_covered 11 = .ok (.ifCond .eq 13, 3) := by decide +kernel
theorem dX4_covered_14 : decode cX4_covered 14 = .ok (.aload_n 0, 1) := by decide +kernel
theorem dX4_covered_15 : decode cX4_covered 15 = .ok (.iload_n 1, 1) := by decide +kernel
theorem dX4_covered_16 : decode cX4_covered 16 = .ok (.iload_n 2, 1) := by decide +kernel
theorem dX4_covered_17 : decode cX4_covered 17 = .ok (.iconst 1, 1) := by decide +kernel
theorem dX4_covered_18 : decode cX4_covered 18 = .ok (.invokevirtual 216, 3) := by decide +kernel
theorem dX4_covered_21 : decode cX4_covered 21 = .ok (.goto 8, 3) := by decide +kernel
theorem dX4_covered_24 : decode cX4_covered 24 = .ok (.aload_n 0, 1) := by decide +kernel
theorem dX4_covered_25 : decode cX4_covered 25 = .ok (.iconst (-1), 1) := by decide +kernel
theorem dX4_covered_26 : decode cX4_covered 26 = .ok (.invokevirtual 85, 3) := by decide +kernel
theorem dX4_covered_29 : decode cX4_covered 29 = .ok (.ireturn, 1) := by decide +kernel
theorem dX4_isAlone_0 : decode cX4_isAlone 0 = .ok (.aload_n 0, 1) := by decide +kernel
theorem dX4_isAlone_1 : decode cX4_isAlone 1 = .ok (.iload_n 1, 1) := by decide +kernel
theorem dX4_isAlone_2 : decode cX4_isAlone 2 = .ok (.bipush (-9), 2) := by decide +kernel
theorem dX4_isAlone_4 : decode cX4_isAlone 4 = .ok (.iconst 0, 1) := by decide +kernel
theorem dX4_isAlone_5 : decode cX4_isAlone 5 = .ok (.invokevirtual 161, 3) := by decide +kernel
theorem dX4_isAlone_8 : decode cX4_isAlone 8 = .ok (.aload_n 0, 1) := by decide +kernel
theorem dX4_isAlone_9 : decode cX4_isAlone 9 = .ok (.getfield 37, 3) := by decide +kernel
theorem dX4_isAlone_12 : decode cX4_isAlone 12 = .ok (.idiv, 1) := by decide +kernel
theorem dX4_isAlone_13 : decode cX4_isAlone 13 = .ok (.istore_n 2, 1) := by decide +kernel
theorem dX4_isAlone_14 : decode cX4_isAlone 14 = .ok (.iconst 0, 1) := by decide +kernel
theorem dX4_isAlone_15 : decode cX4_isAlone 15 = .ok (.istore_n 3, 1) := by decide +kernel
theorem dX4_isAlone_16 : decode cX4_isAlone 16 = .ok (.iconst 0, 1) := by decide +kernel
theorem dX4_isAlone_17 : decode cX4_isAlone 17 = .ok (.istore 4, 2) := by decide +kernel
theorem dX4_isAlone_19 : decode cX4_isAlone 19 = .ok (.iload 4, 2) := by decide +kernel
theorem dX4_isAlone_21 : decode cX4_isAlone 21 = .ok (.aload_n 0, 1) := by decide +kernel
theorem dX4_isAlone_22 : decode cX4_isAlone 22 = .ok (.getfield 75, 3) := by decide +kernel
theorem dX4_isAlone_25 : decode cX4_isAlone 25 = .ok (.if_icmp .ge 43, 3) := by decide +kernel
theorem dX4_isAlone_28 : decode cX4_isAlone 28 = .ok (.iload_n 3, 1) := by decide +kernel
theorem dX4_isAlone_29 : decode cX4_isAlone 29 = .ok (.aload_n 0, 1) := by decide +kernel
theorem dX4_isAlone_30 : decode cX4_isAlone 30 = .ok (.iload 4, 2) := by decide +kernel
theorem dX4_isAlone_32 : decode cX4_isAlone 32 = .ok (.iload_n 1, 1) := by decide +kernel
theorem dX4_isAlone_33 : decode cX4_isAlone 33 = .ok (.invokevirtual 153, 3) := by decide +kernel
theorem dX4_isAlone_36 : decode cX4_isAlone 36 = .ok (.ifCond .eq 23, 3) := by decide +kernel
theorem dX4_isAlone_39 : decode cX4_isAlone 39 = .ok (.aload_n 0, 1) := by decide +kernel
theorem dX4_isAlone_40 : decode cX4_isAlone 40 = .ok (.iload 4, 2) := by decide +kernel
theorem dX4_isAlone_42 : decode cX4_isAlone 42 = .ok (.iload_n 1, 1) := by decide +kernel
theorem dX4_isAlone_43 : decode cX4_isAlone 43 = .ok (.invokevirtual 157, 3) := by decide +kernel
theorem dX4_isAlone_46 : decode cX4_isAlone 46 = .ok (.aload_n 0, 1) := by decide +kernel
theorem dX4_isAlone_47 : decode cX4_isAlone 47 = .ok (.getfield 37, 3) := by decide +kernel
theorem dX4_isAlone_50 : decode cX4_isAlone 50 = .ok (.idiv, 1) := by decide +kernel
theorem dX4_isAlone_51 : decode cX4_isAlone 51 = .ok (.iload_n 2, 1) := by decide +kernel
theorem dX4_isAlone_52 : decode cX4_isAlone 52 = .ok (.if_icmp .ne 7, 3) := by decide +kernel
theorem dX4_isAlone_55 : decode cX4_isAlone 55 = .ok (.iconst 1, 1) := by decide +kernel
theorem dX4_isAlone_56 : decode cX4_isAlone 56 = .ok (.goto 4, 3) := by decide +kernel
theorem dX4_isAlone_59 : decode cX4_isAlone 59 = .ok (.iconst 0, 1) := by decide +kernel
theorem dX4_isAlone_60 : decode cX4_isAlone 60 = .ok (.iadd, 1) := by decide +kernel
theorem dX4_isAlone_61 : decode cX4_isAlone 61 = .ok (.istore_n 3, 1) := by decide +kernel
theorem dX4_isAlone_62 : decode cX4_isAlone 62 = .ok (.iinc 4 1, 3) := by decide +kernel
theorem dX4_isAlone_65 : decode cX4_isAlone 65 = .ok (.goto (-46), 3) := by decide +kernel
theorem dX4_isAlone_68 : decode cX4_isAlone 68 = .ok (.iload_n 3, 1) := by decide +kernel
theorem dX4_isAlone_69 : decode cX4_isAlone 69 = .ok (.iconst 1, 1) := by decide +kernel
theorem dX4_isAlone_70 : decode cX4_isAlone 70 = .ok (.if_icmp .ne 7, 3) := by decide +kernel
theorem dX4_isAlone_73 : decode cX4_isAlone 73 = .ok (.iconst 1, 1) := by decide +kernel
theorem dX4_isAlone_74 : decode cX4_isAlone 74 = .ok (.goto 4, 3) := by decide +kernel
theorem dX4_isAlone_77 : decode cX4_isAlone 77 = .ok (.iconst 0, 1) := by decide +kernel
theorem dX4_isAlone_78 : decode cX4_isAlone 78 = .ok (.ireturn, 1) := by decide +kernel
theorem dX4_told_0 : decode cX4_told 0 = .ok (.iload_n 1, 1) := by decide +kernel
theorem dX4_told_1 : decode cX4_told 1 = .ok (.invokestatic 117, 3) := by decide +kernel
theorem dX4_told_4 : decode cX4_told 4 = .ok (.ifCond .ne 9, 3) := by decide +kernel
theorem dX4_told_7 : decode cX4_told 7 = .ok (.aload_n 0, 1) := by decide +kernel
theorem dX4_told_8 : decode cX4_told 8 = .ok (.iconst (-1), 1) := by decide +kernel
theorem dX4_told_9 : decode cX4_told 9 = .ok (.invokevirtual 85, 3) := by decide +kernel
theorem dX4_told_12 : decode cX4_told 12 = .ok (.ireturn, 1) := by decide +kernel
theorem dX4_told_13 : decode cX4_told 13 = .ok (.aload_n 0, 1) := by decide +kernel
theorem dX4_told_14 : decode cX4_told 14 = .ok (.iload_n 1, 1) := by decide +kernel
theorem dX4_told_15 : decode cX4_told 15 = .ok (.invokevirtual 180, 3) := by decide +kernel
theorem dX4_told_18 : decode cX4_told 18 = .ok (.iconst 2, 1) := by decide +kernel
theorem dX4_told_19 : decode cX4_told 19 = .ok (.if_icmp .ge 6, 3) := by decide +kernel
theorem dX4_told_22 : decode cX4_told 22 = .ok (.bipush (-9), 2) := by decide +kernel
theorem dX4_told_24 : decode cX4_told 24 = .ok (.ireturn, 1) := by decide +kernel
theorem dX4_told_25 : decode cX4_told 25 = .ok (.aload_n 0, 1) := by decide +kernel
theorem dX4_told_26 : decode cX4_told 26 = .ok (.getfield 120, 3) := by decide +kernel
theorem dX4_told_29 : decode cX4_told 29 = .ok (.istore_n 2, 1) := by decide +kernel
theorem dX4_told_30 : decode cX4_told 30 = .ok (.iconst 0, 1) := by decide +kernel
theorem dX4_told_31 : decode cX4_told 31 = .ok (.istore_n 3, 1) := by decide +kernel
theorem dX4_told_32 : decode cX4_told 32 = .ok (.iload_n 3, 1) := by decide +kernel
theorem dX4_told_33 : decode cX4_told 33 = .ok (.bipush 40, 2) := by decide +kernel
theorem dX4_told_35 : decode cX4_told 35 = .ok (.if_icmp .gt 27, 3) := by decide +kernel
theorem dX4_told_38 : decode cX4_told 38 = .ok (.aload_n 0, 1) := by decide +kernel
theorem dX4_told_39 : decode cX4_told 39 = .ok (.iload_n 1, 1) := by decide +kernel
theorem dX4_told_40 : decode cX4_told 40 = .ok (.invokevirtual 219, 3) := by decide +kernel
theorem dX4_told_43 : decode cX4_told 43 = .ok (.ifCond .eq 19, 3) := by decide +kernel
theorem dX4_told_46 : decode cX4_told 46 = .ok (.iinc 3 1, 3) := by decide +kernel
theorem dX4_told_49 : decode cX4_told 49 = .ok (.aload_n 0, 1) := by decide +kernel
theorem dX4_told_50 : decode cX4_told 50 = .ok (.dup, 1) := by decide +kernel
theorem dX4_told_51 : decode cX4_told 51 = .ok (.getfield 120, 3) := by decide +kernel
theorem dX4_told_54 : decode cX4_told 54 = .ok (.iconst 1, 1) := by decide +kernel
theorem dX4_told_55 : decode cX4_told 55 = .ok (.iadd, 1) := by decide +kernel
theorem dX4_told_56 : decode cX4_told 56 = .ok (.putfield 120, 3) := by decide +kernel
theorem dX4_told_59 : decode cX4_told 59 = .ok (.goto (-27), 3) := by decide +kernel
theorem dX4_told_62 : decode cX4_told 62 = .ok (.aload_n 0, 1) := by decide +kernel
theorem dX4_told_63 : decode cX4_told 63 = .ok (.iload_n 2, 1) := by decide +kernel
theorem dX4_told_64 : decode cX4_told 64 = .ok (.putfield 120, 3) := by decide +kernel
theorem dX4_told_67 : decode cX4_told 67 = .ok (.iload_n 3, 1) := by decide +kernel
theorem dX4_told_68 : decode cX4_told 68 = .ok (.ireturn, 1) := by decide +kernel
theorem dX4_row_0 : decode cX4_row 0 = .ok (.iload_n 1, 1) := by decide +kernel
theorem dX4_row_1 : decode cX4_row 1 = .ok (.iconst 0, 1) := by decide +kernel
theorem dX4_row_2 : decode cX4_row 2 = .ok (.bipush 30, 2) := by decide +kernel
theorem dX4_row_4 : decode cX4_row 4 = .ok (.invokestatic 78, 3) := by decide +kernel
theorem dX4_row_7 : decode cX4_row 7 = .ok (.istore_n 2, 1) := by decide +kernel
theorem dX4_row_8 : decode cX4_row 8 = .ok (.iload_n 2, 1) := by decide +kernel
theorem dX4_row_9 : decode cX4_row 9 = .ok (.ifCond .ne 15, 3) := by decide +kernel
theorem dX4_row_12 : decode cX4_row 12 = .ok (.aload_n 0, 1) := by decide +kernel
theorem dX4_row_13 : decode cX4_row 13 = .ok (.getfield 199, 3) := by decide +kernel
theorem dX4_row_16 : decode cX4_row 16 = .ok (.bipush 12, 2) := by decide +kernel
theorem dX4_row_18 : decode cX4_row 18 = .ok (.if_icmp .ne 6, 3) := by decide +kernel
theorem dX4_row_21 : decode cX4_row 21 = .ok (.bipush (-6), 2) := by decide +kernel
theorem dX4_row_23 : decode cX4_row 23 = .ok (.istore_n 2, 1) := by decide +kernel
theorem dX4_row_24 : decode cX4_row 24 = .ok (.iload_n 2, 1) := by decide +kernel
theorem dX4_row_25 : decode cX4_row 25 = .ok (.ifCond .eq 9, 3) := by decide +kernel
theorem dX4_row_28 : decode cX4_row 28 = .ok (.aload_n 0, 1) := by decide +kernel
theorem dX4_row_29 : decode cX4_row 29 = .ok (.iload_n 2, 1) := by decide +kernel
theorem dX4_row_30 : decode cX4_row 30 = .ok (.invokevirtual 85, 3) := by decide +kernel
theorem dX4_row_33 : decode cX4_row 33 = .ok (.ireturn, 1) := by decide +kernel
theorem dX4_row_34 : decode cX4_row 34 = .ok (.aload_n 0, 1) := by decide +kernel
theorem dX4_row_35 : decode cX4_row 35 = .ok (.getfield 65, 3) := by decide +kernel
theorem dX4_row_38 : decode cX4_row 38 = .ok (.aload_n 0, 1) := by decide +kernel
theorem dX4_row_39 : decode cX4_row 39 = .ok (.getfield 199, 3) := by decide +kernel
theorem dX4_row_42 : decode cX4_row 42 = .ok (.iload_n 1, 1) := by decide +kernel
theorem dX4_row_43 : decode cX4_row 43 = .ok (.iastore, 1) := by decide +kernel
theorem dX4_row_44 : decode cX4_row 44 = .ok (.aload_n 0, 1) := by decide +kernel
theorem dX4_row_45 : decode cX4_row 45 = .ok (.dup, 1) := by decide +kernel
theorem dX4_row_46 : decode cX4_row 46 = .ok (.getfield 199, 3) := by decide +kernel
theorem dX4_row_49 : decode cX4_row 49 = .ok (.iconst 1, 1) := by decide +kernel
theorem dX4_row_50 : decode cX4_row 50 = .ok (.iadd, 1) := by decide +kernel
theorem dX4_row_51 : decode cX4_row 51 = .ok (.putfield 199, 3) := by decide +kernel
theorem dX4_row_54 : decode cX4_row 54 = .ok (.aload_n 0, 1) := by decide +kernel
theorem dX4_row_55 : decode cX4_row 55 = .ok (.getfield 199, 3) := by decide +kernel
theorem dX4_row_58 : decode cX4_row 58 = .ok (.ireturn, 1) := by decide +kernel
theorem dX4_clear_0 : decode cX4_clear 0 = .ok (.aload_n 0, 1) := by decide +kernel
theorem dX4_clear_1 : decode cX4_clear 1 = .ok (.getfield 199, 3) := by decide +kernel
theorem dX4_clear_4 : decode cX4_clear 4 = .ok (.istore_n 1, 1) := by decide +kernel
theorem dX4_clear_5 : decode cX4_clear 5 = .ok (.aload_n 0, 1) := by decide +kernel
theorem dX4_clear_6 : decode cX4_clear 6 = .ok (.iconst 0, 1) := by decide +kernel
theorem dX4_clear_7 : decode cX4_clear 7 = .ok (.putfield 199, 3) := by decide +kernel
theorem dX4_clear_10 : decode cX4_clear 10 = .ok (.iload_n 1, 1) := by decide +kernel
theorem dX4_clear_11 : decode cX4_clear 11 = .ok (.ireturn, 1) := by decide +kernel
theorem dX4_judge_0 : decode cX4_judge 0 = .ok (.aload_n 0, 1) := by decide +kernel
theorem dX4_judge_1 : decode cX4_judge 1 = .ok (.getfield 199, 3) := by decide +kernel
theorem dX4_judge_4 : decode cX4_judge 4 = .ok (.istore_n 1, 1) := by decide +kernel
theorem dX4_judge_5 : decode cX4_judge 5 = .ok (.aload_n 0, 1) := by decide +kernel
theorem dX4_judge_6 : decode cX4_judge 6 = .ok (.iconst 0, 1) := by decide +kernel
theorem dX4_judge_7 : decode cX4_judge 7 = .ok (.putfield 199, 3) := by decide +kernel
theorem dX4_judge_10 : decode cX4_judge 10 = .ok (.iconst 0, 1) := by decide +kernel
theorem dX4_judge_11 : decode cX4_judge 11 = .ok (.istore_n 2, 1) := by decide +kernel
theorem dX4_judge_12 : decode cX4_judge 12 = .ok (.iload_n 2, 1) := by decide +kernel
theorem dX4_judge_13 : decode cX4_judge 13 = .ok (.bipush 6, 2) := by decide +kernel
theorem dX4_judge_15 : decode cX4_judge 15 = .ok (.if_icmp .ge 66, 3) := by decide +kernel
theorem dX4_judge_18 : decode cX4_judge 18 = .ok (.iload_n 2, 1) := by decide +kernel
theorem dX4_judge_19 : decode cX4_judge 19 = .ok (.iload_n 1, 1) := by decide +kernel
theorem dX4_judge_20 : decode cX4_judge 20 = .ok (.if_icmp .ne 5, 3) := by decide +kernel
theorem dX4_judge_23 : decode cX4_judge 23 = .ok (.iload_n 2, 1) := by decide +kernel
theorem dX4_judge_24 : decode cX4_judge 24 = .ok (.ireturn, 1) := by decide +kernel
theorem dX4_judge_25 : decode cX4_judge 25 = .ok (.aload_n 0, 1) := by decide +kernel
theorem dX4_judge_26 : decode cX4_judge 26 = .ok (.iload_n 2, 1) := by decide +kernel
theorem dX4_judge_27 : decode cX4_judge 27 = .ok (.bipush (-9), 2) := by decide +kernel
theorem dX4_judge_29 : decode cX4_judge 29 = .ok (.iconst 0, 1) := by decide +kernel
theorem dX4_judge_30 : decode cX4_judge 30 = .ok (.invokevirtual 161, 3) := by decide +kernel
theorem dX4_judge_33 : decode cX4_judge 33 = .ok (.istore_n 3, 1) := by decide +kernel
theorem dX4_judge_34 : decode cX4_judge 34 = .ok (.iload_n 3, 1) := by decide +kernel
theorem dX4_judge_35 : decode cX4_judge 35 = .ok (.ifCond .ge 17, 3) := by decide +kernel
theorem dX4_judge_38 : decode cX4_judge 38 = .ok (.aload_n 0, 1) := by decide +kernel
theorem dX4_judge_39 : decode cX4_judge 39 = .ok (.getfield 65, 3) := by decide +kernel
theorem dX4_judge_42 : decode cX4_judge 42 = .ok (.iload_n 2, 1) := by decide +kernel
theorem dX4_judge_43 : decode cX4_judge 43 = .ok (.iaload, 1) := by decide +kernel
theorem dX4_judge_44 : decode cX4_judge 44 = .ok (.bipush 30, 2) := by decide +kernel
theorem dX4_judge_46 : decode cX4_judge 46 = .ok (.if_icmp .eq 29, 3) := by decide +kernel
theorem dX4_judge_49 : decode cX4_judge 49 = .ok (.goto 24, 3) := by decide +kernel
theorem dX4_judge_52 : decode cX4_judge 52 = .ok (.aload_n 0, 1) := by decide +kernel
theorem dX4_judge_53 : decode cX4_judge 53 = .ok (.getfield 65, 3) := by decide +kernel
theorem dX4_judge_56 : decode cX4_judge 56 = .ok (.iload_n 2, 1) := by decide +kernel
theorem dX4_judge_57 : decode cX4_judge 57 = .ok (.iaload, 1) := by decide +kernel
theorem dX4_judge_58 : decode cX4_judge 58 = .ok (.bipush 30, 2) := by decide +kernel
theorem dX4_judge_60 : decode cX4_judge 60 = .ok (.if_icmp .eq 13, 3) := by decide +kernel
theorem dX4_judge_63 : decode cX4_judge 63 = .ok (.aload_n 0, 1) := by decide +kernel
theorem dX4_judge_64 : decode cX4_judge 64 = .ok (.getfield 65, 3) := by decide +kernel
theorem dX4_judge_67 : decode cX4_judge 67 = .ok (.iload_n 2, 1) := by decide +kernel
theorem dX4_judge_68 : decode cX4_judge 68 = .ok (.iaload, 1) := by decide +kernel
theorem dX4_judge_69 : decode cX4_judge 69 = .ok (.iload_n 3, 1) := by decide +kernel
theorem dX4_judge_70 : decode cX4_judge 70 = .ok (.if_icmp .eq 5, 3) := by decide +kernel
theorem dX4_judge_73 : decode cX4_judge 73 = .ok (.iload_n 2, 1) := by decide +kernel
theorem dX4_judge_74 : decode cX4_judge 74 = .ok (.ireturn, 1) := by decide +kernel
theorem dX4_judge_75 : decode cX4_judge 75 = .ok (.iinc 2 1, 3) := by decide +kernel
theorem dX4_judge_78 : decode cX4_judge 78 = .ok (.goto (-66), 3) := by decide +kernel
theorem dX4_judge_81 : decode cX4_judge 81 = .ok (.iload_n 1, 1) := by decide +kernel
theorem dX4_judge_82 : decode cX4_judge 82 = .ok (.bipush 6, 2) := by decide +kernel
theorem dX4_judge_84 : decode cX4_judge 84 = .ok (.if_icmp .le 8, 3) := by decide +kernel
theorem dX4_judge_87 : decode cX4_judge 87 = .ok (.bipush 6, 2) := by decide +kernel
theorem dX4_judge_89 : decode cX4_judge 89 = .ok (.goto 5, 3) := by decide +kernel
theorem dX4_judge_92 : decode cX4_judge 92 = .ok (.bipush (-9), 2) := by decide +kernel
theorem dX4_judge_94 : decode cX4_judge 94 = .ok (.ireturn, 1) := by decide +kernel
theorem dX4_seeds_0 : decode cX4_seeds 0 = .ok (.iload_n 3, 1) := by decide +kernel
theorem dX4_seeds_1 : decode cX4_seeds 1 = .ok (.invokestatic 117, 3) := by decide +kernel
theorem dX4_seeds_4 : decode cX4_seeds 4 = .ok (.ifCond .ne 7, 3) := by decide +kernel
theorem dX4_seeds_7 : decode cX4_seeds 7 = .ok (.iconst (-1), 1) := by decide +kernel
theorem dX4_seeds_8 : decode cX4_seeds 8 = .ok (.goto 10, 3) := by decide +kernel
theorem dX4_seeds_11 : decode cX4_seeds 11 = .ok (.iload_n 1, 1) := by decide +kernel
theorem dX4_seeds_12 : decode cX4_seeds 12 = .ok (.iconst 1, 1) := by decide +kernel
theorem dX4_seeds_13 : decode cX4_seeds 13 = .ok (.bipush 30, 2) := by decide +kernel
theorem dX4_seeds_15 : decode cX4_seeds 15 = .ok (.invokestatic 78, 3) := by decide +kernel
theorem dX4_seeds_18 : decode cX4_seeds 18 = .ok (.istore 4, 2) := by decide +kernel
theorem dX4_seeds_20 : decode cX4_seeds 20 = .ok (.iload 4, 2) := by decide +kernel
theorem dX4_seeds_22 : decode cX4_seeds 22 = .ok (.ifCond .eq 10, 3) := by decide +kernel
theorem dX4_seeds_25 : decode cX4_seeds 25 = .ok (.aload_n 0, 1) := by decide +kernel
theorem dX4_seeds_26 : decode cX4_seeds 26 = .ok (.iload 4, 2) := by decide +kernel
theorem dX4_seeds_28 : decode cX4_seeds 28 = .ok (.invokevirtual 85, 3) := by decide +kernel
theorem dX4_seeds_31 : decode cX4_seeds 31 = .ok (.ireturn, 1) := by decide +kernel
theorem dX4_seeds_32 : decode cX4_seeds 32 = .ok (.aload_n 0, 1) := by decide +kernel
theorem dX4_seeds_33 : decode cX4_seeds 33 = .ok (.iconst 0, 1) := by decide +kernel
theorem dX4_seeds_34 : decode cX4_seeds 34 = .ok (.invokevirtual 186, 3) := by decide +kernel
theorem dX4_seeds_37 : decode cX4_seeds 37 = .ok (.iload_n 2, 1) := by decide +kernel
theorem dX4_seeds_38 : decode cX4_seeds 38 = .ok (.istore 5, 2) := by decide +kernel
theorem dX4_seeds_40 : decode cX4_seeds 40 = .ok (.iconst 0, 1) := by decide +kernel
theorem dX4_seeds_41 : decode cX4_seeds 41 = .ok (.istore 6, 2) := by decide +kernel
theorem dX4_seeds_43 : decode cX4_seeds 43 = .ok (.iload 6, 2) := by decide +kernel
theorem dX4_seeds_45 : decode cX4_seeds 45 = .ok (.iload_n 1, 1) := by decide +kernel
theorem dX4_seeds_46 : decode cX4_seeds 46 = .ok (.if_icmp .ge 60, 3) := by decide +kernel
theorem dX4_seeds_49 : decode cX4_seeds 49 = .ok (.iconst 0, 1) := by decide +kernel
theorem dX4_seeds_50 : decode cX4_seeds 50 = .ok (.istore 7, 2) := by decide +kernel
theorem dX4_seeds_52 : decode cX4_seeds 52 = .ok (.iload 7, 2) := by decide +kernel
theorem dX4_seeds_54 : decode cX4_seeds 54 = .ok (.aload_n 0, 1) := by decide +kernel
theorem dX4_seeds_55 : decode cX4_seeds 55 = .ok (.getfield 75, 3) := by decide +kernel
theorem dX4_seeds_58 : decode cX4_seeds 58 = .ok (.if_icmp .ge 38, 3) := by decide +kernel
theorem dX4_seeds_61 : decode cX4_seeds 61 = .ok (.iload 5, 2) := by decide +kernel
theorem dX4_seeds_63 : decode cX4_seeds 63 = .ok (.ldc 222, 2) := by decide +kernel
theorem dX4_seeds_65 : decode cX4_seeds 65 = .ok (.imul, 1) := by decide +kernel
theorem dX4_seeds_66 : decode cX4_seeds 66 = .ok (.ldc 223, 2) := by decide +kernel
theorem dX4_seeds_68 : decode cX4_seeds 68 = .ok (.iadd, 1) := by decide +kernel
theorem dX4_seeds_69 : decode cX4_seeds 69 = .ok (.istore 5, 2) := by decide +kernel
theorem dX4_seeds_71 : decode cX4_seeds 71 = .ok (.aload_n 0, 1) := by decide +kernel
theorem dX4_seeds_72 : decode cX4_seeds 72 = .ok (.getfield 25, 3) := by decide +kernel
theorem dX4_seeds_75 : decode cX4_seeds 75 = .ok (.iload 7, 2) := by decide +kernel
theorem dX4_seeds_77 : decode cX4_seeds 77 = .ok (.iload 5, 2) := by decide +kernel
theorem dX4_seeds_79 : decode cX4_seeds 79 = .ok (.ldc 224, 2) := by decide +kernel
theorem dX4_seeds_81 : decode cX4_seeds 81 = .ok (.iand, 1) := by decide +kernel
theorem dX4_seeds_82 : decode cX4_seeds 82 = .ok (.sipush 256, 3) := by decide +kernel
theorem dX4_seeds_85 : decode cX4_seeds 85 = .ok (.idiv, 1) := by decide +kernel
theorem dX4_seeds_86 : decode cX4_seeds 86 = .ok (.bipush 6, 2) := by decide +kernel
theorem dX4_seeds_88 : decode cX4_seeds 88 = .ok (.irem, 1) := by decide +kernel
theorem dX4_seeds_89 : decode cX4_seeds 89 = .ok (.iastore, 1) := by decide +kernel
theorem dX4_seeds_90 : decode cX4_seeds 90 = .ok (.iinc 7 1, 3) := by decide +kernel
theorem dX4_seeds_93 : decode cX4_seeds 93 = .ok (.goto (-41), 3) := by decide +kernel
theorem dX4_seeds_96 : decode cX4_seeds 96 = .ok (.aload_n 0, 1) := by decide +kernel
theorem dX4_seeds_97 : decode cX4_seeds 97 = .ok (.invokevirtual 177, 3) := by decide +kernel
theorem dX4_seeds_100 : decode cX4_seeds 100 = .ok (.iinc 6 1, 3) := by decide +kernel
theorem dX4_seeds_103 : decode cX4_seeds 103 = .ok (.goto (-60), 3) := by decide +kernel
theorem dX4_seeds_106 : decode cX4_seeds 106 = .ok (.aload_n 0, 1) := by decide +kernel
theorem dX4_seeds_107 : decode cX4_seeds 107 = .ok (.iload_n 3, 1) := by decide +kernel
theorem dX4_seeds_108 : decode cX4_seeds 108 = .ok (.invokevirtual 183, 3) := by decide +kernel
theorem dX4_seeds_111 : decode cX4_seeds 111 = .ok (.istore 6, 2) := by decide +kernel
theorem dX4_seeds_113 : decode cX4_seeds 113 = .ok (.aload_n 0, 1) := by decide +kernel
theorem dX4_seeds_114 : decode cX4_seeds 114 = .ok (.iconst 1, 1) := by decide +kernel
theorem dX4_seeds_115 : decode cX4_seeds 115 = .ok (.iconst 0, 1) := by decide +kernel
theorem dX4_seeds_116 : decode cX4_seeds 116 = .ok (.invokevirtual 129, 3) := by decide +kernel
theorem dX4_seeds_119 : decode cX4_seeds 119 = .ok (.iload 6, 2) := by decide +kernel
theorem dX4_seeds_121 : decode cX4_seeds 121 = .ok (.ireturn, 1) := by decide +kernel
theorem dX4_pathMany_0 : decode cX4_pathMany 0 = .ok (.iconst 0, 1) := by decide +kernel
theorem dX4_pathMany_1 : decode cX4_pathMany 1 = .ok (.istore_n 1, 1) := by decide +kernel
theorem dX4_pathMany_2 : decode cX4_pathMany 2 = .ok (.iconst 0, 1) := by decide +kernel
theorem dX4_pathMany_3 : decode cX4_pathMany 3 = .ok (.istore_n 2, 1) := by decide +kernel
theorem dX4_pathMany_4 : decode cX4_pathMany 4 = .ok (.iload_n 2, 1) := by decide +kernel
theorem dX4_pathMany_5 : decode cX4_pathMany 5 = .ok (.bipush 6, 2) := by decide +kernel
theorem dX4_pathMany_7 : decode cX4_pathMany 7 = .ok (.if_icmp .ge 39, 3) := by decide +kernel
theorem dX4_pathMany_10 : decode cX4_pathMany 10 = .ok (.iconst 0, 1) := by decide +kernel
theorem dX4_pathMany_11 : decode cX4_pathMany 11 = .ok (.istore_n 3, 1) := by decide +kernel
theorem dX4_pathMany_12 : decode cX4_pathMany 12 = .ok (.iload_n 3, 1) := by decide +kernel
theorem dX4_pathMany_13 : decode cX4_pathMany 13 = .ok (.iload_n 2, 1) := by decide +kernel
theorem dX4_pathMany_14 : decode cX4_pathMany 14 = .ok (.if_icmp .ge 26, 3) := by decide +kernel
theorem dX4_pathMany_17 : decode cX4_pathMany 17 = .ok (.iload_n 1, 1) := by decide +kernel
theorem dX4_pathMany_18 : decode cX4_pathMany 18 = .ok (.aload_n 0, 1) := by decide +kernel
theorem dX4_pathMany_19 : decode cX4_pathMany 19 = .ok (.iload_n 2, 1) := by decide +kernel
theorem dX4_pathMany_20 : decode cX4_pathMany 20 = .ok (.iload_n 3, 1) := by decide +kernel
theorem dX4_pathMany_21 : decode cX4_pathMany 21 = .ok (.invokevirtual 165, 3) := by decide +kernel
theorem dX4_pathMany_24 : decode cX4_pathMany 24 = .ok (.ifCond .eq 7, 3) := by decide +kernel
theorem dX4_pathMany_27 : decode cX4_pathMany 27 = .ok (.iconst 1, 1) := by decide +kernel
theorem dX4_pathMany_28 : decode cX4_pathMany 28 = .ok (.goto 4, 3) := by decide +kernel
theorem dX4_pathMany_31 : decode cX4_pathMany 31 = .ok (.iconst 0, 1) := by decide +kernel
theorem dX4_pathMany_32 : decode cX4_pathMany 32 = .ok (.iadd, 1) := by decide +kernel
theorem dX4_pathMany_33 : decode cX4_pathMany 33 = .ok (.istore_n 1, 1) := by decide +kernel
theorem dX4_pathMany_34 : decode cX4_pathMany 34 = .ok (.iinc 3 1, 3) := by decide +kernel
theorem dX4_pathMany_37 : decode cX4_pathMany 37 = .ok (.goto (-25), 3) := by decide +kernel
theorem dX4_pathMany_40 : decode cX4_pathMany 40 = .ok (.iinc 2 1, 3) := by decide +kernel
theorem dX4_pathMany_43 : decode cX4_pathMany 43 = .ok (.goto (-39), 3) := by decide +kernel
theorem dX4_pathMany_46 : decode cX4_pathMany 46 = .ok (.iload_n 1, 1) := by decide +kernel
theorem dX4_pathMany_47 : decode cX4_pathMany 47 = .ok (.ireturn, 1) := by decide +kernel
theorem dX4_traceMany_0 : decode cX4_traceMany 0 = .ok (.iconst 0, 1) := by decide +kernel
theorem dX4_traceMany_1 : decode cX4_traceMany 1 = .ok (.istore_n 1, 1) := by decide +kernel
theorem dX4_traceMany_2 : decode cX4_traceMany 2 = .ok (.iconst 0, 1) := by decide +kernel
theorem dX4_traceMany_3 : decode cX4_traceMany 3 = .ok (.istore_n 2, 1) := by decide +kernel
theorem dX4_traceMany_4 : decode cX4_traceMany 4 = .ok (.iload_n 2, 1) := by decide +kernel
theorem dX4_traceMany_5 : decode cX4_traceMany 5 = .ok (.bipush 6, 2) := by decide +kernel
theorem dX4_traceMany_7 : decode cX4_traceMany 7 = .ok (.if_icmp .ge 17, 3) := by decide +kernel
theorem dX4_traceMany_10 : decode cX4_traceMany 10 = .ok (.iload_n 1, 1) := by decide +kernel
theorem dX4_traceMany_11 : decode cX4_traceMany 11 = .ok (.aload_n 0, 1) := by decide +kernel
theorem dX4_traceMany_12 : decode cX4_traceMany 12 = .ok (.iload_n 2, 1) := by decide +kernel
theorem dX4_traceMany_13 : decode cX4_traceMany 13 = .ok (.invokevirtual 180, 3) := by decide +kernel
theorem dX4_traceMany_16 : decode cX4_traceMany 16 = .ok (.iadd, 1) := by decide +kernel
theorem dX4_traceMany_17 : decode cX4_traceMany 17 = .ok (.istore_n 1, 1) := by decide +kernel
theorem dX4_traceMany_18 : decode cX4_traceMany 18 = .ok (.iinc 2 1, 3) := by decide +kernel
theorem dX4_traceMany_21 : decode cX4_traceMany 21 = .ok (.goto (-17), 3) := by decide +kernel
theorem dX4_traceMany_24 : decode cX4_traceMany 24 = .ok (.iload_n 1, 1) := by decide +kernel
theorem dX4_traceMany_25 : decode cX4_traceMany 25 = .ok (.ireturn, 1) := by decide +kernel
theorem dX4_count_0 : decode cX4_count 0 = .ok (.iload_n 1, 1) := by decide +kernel
theorem dX4_count_1 : decode cX4_count 1 = .ok (.bipush 11, 2) := by decide +kernel
theorem dX4_count_3 : decode cX4_count 3 = .ok (.bipush 16, 2) := by decide +kernel
theorem dX4_count_5 : decode cX4_count 5 = .ok (.invokestatic 96, 3) := by decide +kernel
theorem dX4_count_8 : decode cX4_count 8 = .ok (.ifCond .eq 13, 3) := by decide +kernel
theorem dX4_count_11 : decode cX4_count 11 = .ok (.aload_n 0, 1) := by decide +kernel
theorem dX4_count_12 : decode cX4_count 12 = .ok (.getfield 7, 3) := by decide +kernel
theorem dX4_count_15 : decode cX4_count 15 = .ok (.iload_n 1, 1) := by decide +kernel
theorem dX4_count_16 : decode cX4_count 16 = .ok (.bipush 10, 2) := by decide +kernel
theorem dX4_count_18 : decode cX4_count 18 = .ok (.isub, 1) := by decide +kernel
theorem dX4_count_19 : decode cX4_count 19 = .ok (.iaload, 1) := by decide +kernel
theorem dX4_count_20 : decode cX4_count 20 = .ok (.ireturn, 1) := by decide +kernel
theorem dX4_count_21 : decode cX4_count 21 = .ok (.iload_n 1, 1) := by decide +kernel
theorem dX4_count_22 : decode cX4_count 22 = .ok (.tableswitch 77 0 6 #[42, 47, 52, 57, 62, 67, 72], 42) := by decide +kernel
theorem dX4_count_64 : decode cX4_count 64 = .ok (.aload_n 0, 1) := by decide +kernel
theorem dX4_count_65 : decode cX4_count 65 = .ok (.getfield 75, 3) := by decide +kernel
theorem dX4_count_68 : decode cX4_count 68 = .ok (.ireturn, 1) := by decide +kernel
theorem dX4_count_69 : decode cX4_count 69 = .ok (.aload_n 0, 1) := by decide +kernel
theorem dX4_count_70 : decode cX4_count 70 = .ok (.invokevirtual 225, 3) := by decide +kernel
theorem dX4_count_73 : decode cX4_count 73 = .ok (.ireturn, 1) := by decide +kernel
theorem dX4_count_74 : decode cX4_count 74 = .ok (.aload_n 0, 1) := by decide +kernel
theorem dX4_count_75 : decode cX4_count 75 = .ok (.getfield 120, 3) := by decide +kernel
theorem dX4_count_78 : decode cX4_count 78 = .ok (.ireturn, 1) := by decide +kernel
theorem dX4_count_79 : decode cX4_count 79 = .ok (.aload_n 0, 1) := by decide +kernel
theorem dX4_count_80 : decode cX4_count 80 = .ok (.getfield 37, 3) := by decide +kernel
theorem dX4_count_83 : decode cX4_count 83 = .ok (.ireturn, 1) := by decide +kernel
theorem dX4_count_84 : decode cX4_count 84 = .ok (.aload_n 0, 1) := by decide +kernel
theorem dX4_count_85 : decode cX4_count 85 = .ok (.invokevirtual 228, 3) := by decide +kernel
theorem dX4_count_88 : decode cX4_count 88 = .ok (.ireturn, 1) := by decide +kernel
theorem dX4_count_89 : decode cX4_count 89 = .ok (.aload_n 0, 1) := by decide +kernel
theorem dX4_count_90 : decode cX4_count 90 = .ok (.getfield 199, 3) := by decide +kernel
theorem dX4_count_93 : decode cX4_count 93 = .ok (.ireturn, 1) := by decide +kernel
theorem dX4_count_94 : decode cX4_count 94 = .ok (.aload_n 0, 1) := by decide +kernel
theorem dX4_count_95 : decode cX4_count 95 = .ok (.getfield 82, 3) := by decide +kernel
theorem dX4_count_98 : decode cX4_count 98 = .ok (.ireturn, 1) := by decide +kernel
theorem dX4_count_99 : decode cX4_count 99 = .ok (.bipush (-9), 2) := by decide +kernel
theorem dX4_count_101 : decode cX4_count 101 = .ok (.ireturn, 1) := by decide +kernel
theorem dJ6_bitCount_0f7a4_0 : decode cJ6_bitCount_0f7a4 0 = .ok (.iload_n 0, 1) := by decide +kernel
theorem dJ6_bitCount_0f7a4_1 : decode cJ6_bitCount_0f7a4 1 = .ok (.iload_n 0, 1) := by decide +kernel
theorem dJ6_bitCount_0f7a4_2 : decode cJ6_bitCount_0f7a4 2 = .ok (.iconst 1, 1) := by decide +kernel
theorem dJ6_bitCount_0f7a4_3 : decode cJ6_bitCount_0f7a4 3 = .ok (.iushr, 1) := by decide +kernel
theorem dJ6_bitCount_0f7a4_4 : decode cJ6_bitCount_0f7a4 4 = .ok (.ldc_w 265, 3) := by decide +kernel
theorem dJ6_bitCount_0f7a4_7 : decode cJ6_bitCount_0f7a4 7 = .ok (.iand, 1) := by decide +kernel
theorem dJ6_bitCount_0f7a4_8 : decode cJ6_bitCount_0f7a4 8 = .ok (.isub, 1) := by decide +kernel
theorem dJ6_bitCount_0f7a4_9 : decode cJ6_bitCount_0f7a4 9 = .ok (.istore_n 0, 1) := by decide +kernel
theorem dJ6_bitCount_0f7a4_10 : decode cJ6_bitCount_0f7a4 10 = .ok (.iload_n 0, 1) := by decide +kernel
theorem dJ6_bitCount_0f7a4_11 : decode cJ6_bitCount_0f7a4 11 = .ok (.ldc_w 266, 3) := by decide +kernel
theorem dJ6_bitCount_0f7a4_14 : decode cJ6_bitCount_0f7a4 14 = .ok (.iand, 1) := by decide +kernel
theorem dJ6_bitCount_0f7a4_15 : decode cJ6_bitCount_0f7a4 15 = .ok (.iload_n 0, 1) := by decide +kernel
theorem dJ6_bitCount_0f7a4_16 : decode cJ6_bitCount_0f7a4 16 = .ok (.iconst 2, 1) := by decide +kernel
theorem dJ6_bitCount_0f7a4_17 : decode cJ6_bitCount_0f7a4 17 = .ok (.iushr, 1) := by decide +kernel
theorem dJ6_bitCount_0f7a4_18 : decode cJ6_bitCount_0f7a4 18 = .ok (.ldc_w 266, 3) := by decide +kernel
theorem dJ6_bitCount_0f7a4_21 : decode cJ6_bitCount_0f7a4 21 = .ok (.iand, 1) := by decide +kernel
theorem dJ6_bitCount_0f7a4_22 : decode cJ6_bitCount_0f7a4 22 = .ok (.iadd, 1) := by decide +kernel
theorem dJ6_bitCount_0f7a4_23 : decode cJ6_bitCount_0f7a4 23 = .ok (.istore_n 0, 1) := by decide +kernel
theorem dJ6_bitCount_0f7a4_24 : decode cJ6_bitCount_0f7a4 24 = .ok (.iload_n 0, 1) := by decide +kernel
theorem dJ6_bitCount_0f7a4_25 : decode cJ6_bitCount_0f7a4 25 = .ok (.iload_n 0, 1) := by decide +kernel
theorem dJ6_bitCount_0f7a4_26 : decode cJ6_bitCount_0f7a4 26 = .ok (.iconst 4, 1) := by decide +kernel
theorem dJ6_bitCount_0f7a4_27 : decode cJ6_bitCount_0f7a4 27 = .ok (.iushr, 1) := by decide +kernel
theorem dJ6_bitCount_0f7a4_28 : decode cJ6_bitCount_0f7a4 28 = .ok (.iadd, 1) := by decide +kernel
theorem dJ6_bitCount_0f7a4_29 : decode cJ6_bitCount_0f7a4 29 = .ok (.ldc_w 267, 3) := by decide +kernel
theorem dJ6_bitCount_0f7a4_32 : decode cJ6_bitCount_0f7a4 32 = .ok (.iand, 1) := by decide +kernel
theorem dJ6_bitCount_0f7a4_33 : decode cJ6_bitCount_0f7a4 33 = .ok (.istore_n 0, 1) := by decide +kernel
theorem dJ6_bitCount_0f7a4_34 : decode cJ6_bitCount_0f7a4 34 = .ok (.iload_n 0, 1) := by decide +kernel
theorem dJ6_bitCount_0f7a4_35 : decode cJ6_bitCount_0f7a4 35 = .ok (.iload_n 0, 1) := by decide +kernel
theorem dJ6_bitCount_0f7a4_36 : decode cJ6_bitCount_0f7a4 36 = .ok (.bipush 8, 2) := by decide +kernel
theorem dJ6_bitCount_0f7a4_38 : decode cJ6_bitCount_0f7a4 38 = .ok (.iushr, 1) := by decide +kernel
theorem dJ6_bitCount_0f7a4_39 : decode cJ6_bitCount_0f7a4 39 = .ok (.iadd, 1) := by decide +kernel
theorem dJ6_bitCount_0f7a4_40 : decode cJ6_bitCount_0f7a4 40 = .ok (.istore_n 0, 1) := by decide +kernel
theorem dJ6_bitCount_0f7a4_41 : decode cJ6_bitCount_0f7a4 41 = .ok (.iload_n 0, 1) := by decide +kernel
theorem dJ6_bitCount_0f7a4_42 : decode cJ6_bitCount_0f7a4 42 = .ok (.iload_n 0, 1) := by decide +kernel
theorem dJ6_bitCount_0f7a4_43 : decode cJ6_bitCount_0f7a4 43 = .ok (.bipush 16, 2) := by decide +kernel
theorem dJ6_bitCount_0f7a4_45 : decode cJ6_bitCount_0f7a4 45 = .ok (.iushr, 1) := by decide +kernel
theorem dJ6_bitCount_0f7a4_46 : decode cJ6_bitCount_0f7a4 46 = .ok (.iadd, 1) := by decide +kernel
theorem dJ6_bitCount_0f7a4_47 : decode cJ6_bitCount_0f7a4 47 = .ok (.istore_n 0, 1) := by decide +kernel
theorem dJ6_bitCount_0f7a4_48 : decode cJ6_bitCount_0f7a4 48 = .ok (.iload_n 0, 1) := by decide +kernel
theorem dJ6_bitCount_0f7a4_49 : decode cJ6_bitCount_0f7a4 49 = .ok (.bipush 63, 2) := by decide +kernel
theorem dJ6_bitCount_0f7a4_51 : decode cJ6_bitCount_0f7a4 51 = .ok (.iand, 1) := by decide +kernel
theorem dJ6_bitCount_0f7a4_52 : decode cJ6_bitCount_0f7a4 52 = .ok (.ireturn, 1) := by decide +kernel
theorem dJ0_length_8abf5_0 : decode cJ0_length_8abf5 0 = .ok (.aload_n 0, 1) := by decide +kernel
theorem dJ0_length_8abf5_1 : decode cJ0_length_8abf5 1 = .ok (.getfield 9, 3) := by decide +kernel
theorem dJ0_length_8abf5_4 : decode cJ0_length_8abf5 4 = .ok (.arraylength, 1) := by decide +kernel
theorem dJ0_length_8abf5_5 : decode cJ0_length_8abf5 5 = .ok (.aload_n 0, 1) := by decide +kernel
theorem dJ0_length_8abf5_6 : decode cJ0_length_8abf5 6 = .ok (.invokevirtual 335, 3) := by decide +kernel
theorem dJ0_length_8abf5_9 : decode cJ0_length_8abf5 9 = .ok (.ishr, 1) := by decide +kernel
theorem dJ0_length_8abf5_10 : decode cJ0_length_8abf5 10 = .ok (.ireturn, 1) := by decide +kernel
theorem dJ0_indexOf_0f7a4_0 : decode cJ0_indexOf_0f7a4 0 = .ok (.aload_n 0, 1) := by decide +kernel
theorem dJ0_indexOf_0f7a4_1 : decode cJ0_indexOf_0f7a4 1 = .ok (.iload_n 1, 1) := by decide +kernel
theorem dJ0_indexOf_0f7a4_2 : decode cJ0_indexOf_0f7a4 2 = .ok (.iconst 0, 1) := by decide +kernel
theorem dJ0_indexOf_0f7a4_3 : decode cJ0_indexOf_0f7a4 3 = .ok (.invokevirtual 633, 3) := by decide +kernel
theorem dJ0_indexOf_0f7a4_6 : decode cJ0_indexOf_0f7a4 6 = .ok (.ireturn, 1) := by decide +kernel
theorem dJ0_indexOf_7cf53_0 : decode cJ0_indexOf_7cf53 0 = .ok (.aload_n 0, 1) := by decide +kernel
theorem dJ0_indexOf_7cf53_1 : decode cJ0_indexOf_7cf53 1 = .ok (.invokevirtual 492, 3) := by decide +kernel
theorem dJ0_indexOf_7cf53_4 : decode cJ0_indexOf_7cf53 4 = .ok (.ifCond .eq 19, 3) := by decide +kernel
theorem dJ0_indexOf_7cf53_7 : decode cJ0_indexOf_7cf53 7 = .ok (.aload_n 0, 1) := by decide +kernel
theorem dJ0_indexOf_7cf53_8 : decode cJ0_indexOf_7cf53 8 = .ok (.getfield 9, 3) := by decide +kernel
theorem dJ0_indexOf_7cf53_11 : decode cJ0_indexOf_7cf53 11 = .ok (.iload_n 1, 1) := by decide +kernel
theorem dJ0_indexOf_7cf53_12 : decode cJ0_indexOf_7cf53 12 = .ok (.iload_n 2, 1) := by decide +kernel
theorem dJ0_indexOf_7cf53_13 : decode cJ0_indexOf_7cf53 13 = .ok (.aload_n 0, 1) := by decide +kernel
theorem dJ0_indexOf_7cf53_14 : decode cJ0_indexOf_7cf53 14 = .ok (.invokevirtual 505, 3) := by decide +kernel
theorem dJ0_indexOf_7cf53_17 : decode cJ0_indexOf_7cf53 17 = .ok (.invokestatic 637, 3) := by decide +kernel
theorem dJ0_indexOf_7cf53_20 : decode cJ0_indexOf_7cf53 20 = .ok (.goto 16, 3) := by decide +kernel
theorem dJ0_indexOf_7cf53_23 : decode cJ0_indexOf_7cf53 23 = .ok (.aload_n 0, 1) := by decide +kernel
theorem dJ0_indexOf_7cf53_24 : decode cJ0_indexOf_7cf53 24 = .ok (.getfield 9, 3) := by decide +kernel
theorem dJ0_indexOf_7cf53_27 : decode cJ0_indexOf_7cf53 27 = .ok (.iload_n 1, 1) := by decide +kernel
theorem dJ0_indexOf_7cf53_28 : decode cJ0_indexOf_7cf53 28 = .ok (.iload_n 2, 1) := by decide +kernel
theorem dJ0_indexOf_7cf53_29 : decode cJ0_indexOf_7cf53 29 = .ok (.aload_n 0, 1) := by decide +kernel
theorem dJ0_indexOf_7cf53_30 : decode cJ0_indexOf_7cf53 30 = .ok (.invokevirtual 505, 3) := by decide +kernel
theorem dJ0_indexOf_7cf53_33 : decode cJ0_indexOf_7cf53 33 = .ok (.invokestatic 640, 3) := by decide +kernel
theorem dJ0_indexOf_7cf53_36 : decode cJ0_indexOf_7cf53 36 = .ok (.ireturn, 1) := by decide +kernel
theorem dJ0_coder_7d493_0 : decode cJ0_coder_7d493 0 = .ok (.getstatic 38, 3) := by decide +kernel
theorem dJ0_coder_7d493_3 : decode cJ0_coder_7d493 3 = .ok (.ifCond .eq 10, 3) := by decide +kernel
theorem dJ0_coder_7d493_6 : decode cJ0_coder_7d493 6 = .ok (.aload_n 0, 1) := by decide +kernel
theorem dJ0_coder_7d493_7 : decode cJ0_coder_7d493 7 = .ok (.getfield 15, 3) := by decide +kernel
theorem dJ0_coder_7d493_10 : decode cJ0_coder_7d493 10 = .ok (.goto 4, 3) := by decide +kernel
theorem dJ0_coder_7d493_13 : decode cJ0_coder_7d493 13 = .ok (.iconst 1, 1) := by decide +kernel
theorem dJ0_coder_7d493_14 : decode cJ0_coder_7d493 14 = .ok (.ireturn, 1) := by decide +kernel
theorem dJ0_isLatin1_aae02_0 : decode cJ0_isLatin1_aae02 0 = .ok (.getstatic 38, 3) := by decide +kernel
theorem dJ0_isLatin1_aae02_3 : decode cJ0_isLatin1_aae02 3 = .ok (.ifCond .eq 14, 3) := by decide +kernel
theorem dJ0_isLatin1_aae02_6 : decode cJ0_isLatin1_aae02 6 = .ok (.aload_n 0, 1) := by decide +kernel
theorem dJ0_isLatin1_aae02_7 : decode cJ0_isLatin1_aae02 7 = .ok (.getfield 15, 3) := by decide +kernel
theorem dJ0_isLatin1_aae02_10 : decode cJ0_isLatin1_aae02 10 = .ok (.ifCond .ne 7, 3) := by decide +kernel
theorem dJ0_isLatin1_aae02_13 : decode cJ0_isLatin1_aae02 13 = .ok (.iconst 1, 1) := by decide +kernel
theorem dJ0_isLatin1_aae02_14 : decode cJ0_isLatin1_aae02 14 = .ok (.goto 4, 3) := by decide +kernel
theorem dJ0_isLatin1_aae02_17 : decode cJ0_isLatin1_aae02 17 = .ok (.iconst 0, 1) := by decide +kernel
theorem dJ0_isLatin1_aae02_18 : decode cJ0_isLatin1_aae02 18 = .ok (.ireturn, 1) := by decide +kernel
theorem dJ1_canEncode_9a6ad_0 : decode cJ1_canEncode_9a6ad 0 = .ok (.iload_n 0, 1) := by decide +kernel
theorem dJ1_canEncode_9a6ad_1 : decode cJ1_canEncode_9a6ad 1 = .ok (.ifCond .lt 14, 3) := by decide +kernel
theorem dJ1_canEncode_9a6ad_4 : decode cJ1_canEncode_9a6ad 4 = .ok (.iload_n 0, 1) := by decide +kernel
theorem dJ1_canEncode_9a6ad_5 : decode cJ1_canEncode_9a6ad 5 = .ok (.sipush 255, 3) := by decide +kernel
theorem dJ1_canEncode_9a6ad_8 : decode cJ1_canEncode_9a6ad 8 = .ok (.if_icmp .gt 7, 3) := by decide +kernel
theorem dJ1_canEncode_9a6ad_11 : decode cJ1_canEncode_9a6ad 11 = .ok (.iconst 1, 1) := by decide +kernel
theorem dJ1_canEncode_9a6ad_12 : decode cJ1_canEncode_9a6ad 12 = .ok (.goto 4, 3) := by decide +kernel
theorem dJ1_canEncode_9a6ad_15 : decode cJ1_canEncode_9a6ad 15 = .ok (.iconst 0, 1) := by decide +kernel
theorem dJ1_canEncode_9a6ad_16 : decode cJ1_canEncode_9a6ad 16 = .ok (.ireturn, 1) := by decide +kernel
theorem dJ1_indexOf_4cfef_0 : decode cJ1_indexOf_4cfef 0 = .ok (.iload_n 1, 1) := by decide +kernel
theorem dJ1_indexOf_4cfef_1 : decode cJ1_indexOf_4cfef 1 = .ok (.invokestatic 88, 3) := by decide +kernel
theorem dJ1_indexOf_4cfef_4 : decode cJ1_indexOf_4cfef 4 = .ok (.ifCond .ne 5, 3) := by decide +kernel
theorem dJ1_indexOf_4cfef_7 : decode cJ1_indexOf_4cfef 7 = .ok (.iconst (-1), 1) := by decide +kernel
theorem dJ1_indexOf_4cfef_8 : decode cJ1_indexOf_4cfef 8 = .ok (.ireturn, 1) := by decide +kernel
theorem dJ1_indexOf_4cfef_9 : decode cJ1_indexOf_4cfef 9 = .ok (.iload_n 2, 1) := by decide +kernel
theorem dJ1_indexOf_4cfef_10 : decode cJ1_indexOf_4cfef 10 = .ok (.iconst 0, 1) := by decide +kernel
theorem dJ1_indexOf_4cfef_11 : decode cJ1_indexOf_4cfef 11 = .ok (.invokestatic 92, 3) := by decide +kernel
theorem dJ1_indexOf_4cfef_14 : decode cJ1_indexOf_4cfef 14 = .ok (.istore_n 2, 1) := by decide +kernel
theorem dJ1_indexOf_4cfef_15 : decode cJ1_indexOf_4cfef 15 = .ok (.iload_n 3, 1) := by decide +kernel
theorem dJ1_indexOf_4cfef_16 : decode cJ1_indexOf_4cfef 16 = .ok (.aload_n 0, 1) := by decide +kernel
theorem dJ1_indexOf_4cfef_17 : decode cJ1_indexOf_4cfef 17 = .ok (.arraylength, 1) := by decide +kernel
theorem dJ1_indexOf_4cfef_18 : decode cJ1_indexOf_4cfef 18 = .ok (.invokestatic 38, 3) := by decide +kernel
theorem dJ1_indexOf_4cfef_21 : decode cJ1_indexOf_4cfef 21 = .ok (.istore_n 3, 1) := by decide +kernel
theorem dJ1_indexOf_4cfef_22 : decode cJ1_indexOf_4cfef 22 = .ok (.iload_n 2, 1) := by decide +kernel
theorem dJ1_indexOf_4cfef_23 : decode cJ1_indexOf_4cfef 23 = .ok (.iload_n 3, 1) := by decide +kernel
theorem dJ1_indexOf_4cfef_24 : decode cJ1_indexOf_4cfef 24 = .ok (.if_icmp .lt 5, 3) := by decide +kernel
theorem dJ1_indexOf_4cfef_27 : decode cJ1_indexOf_4cfef 27 = .ok (.iconst (-1), 1) := by decide +kernel
theorem dJ1_indexOf_4cfef_28 : decode cJ1_indexOf_4cfef 28 = .ok (.ireturn, 1) := by decide +kernel
theorem dJ1_indexOf_4cfef_29 : decode cJ1_indexOf_4cfef 29 = .ok (.aload_n 0, 1) := by decide +kernel
theorem dJ1_indexOf_4cfef_30 : decode cJ1_indexOf_4cfef 30 = .ok (.iload_n 1, 1) := by decide +kernel
theorem dJ1_indexOf_4cfef_31 : decode cJ1_indexOf_4cfef 31 = .ok (.iload_n 2, 1) := by decide +kernel
theorem dJ1_indexOf_4cfef_32 : decode cJ1_indexOf_4cfef 32 = .ok (.iload_n 3, 1) := by decide +kernel
theorem dJ1_indexOf_4cfef_33 : decode cJ1_indexOf_4cfef 33 = .ok (.invokestatic 95, 3) := by decide +kernel
theorem dJ1_indexOf_4cfef_36 : decode cJ1_indexOf_4cfef 36 = .ok (.ireturn, 1) := by decide +kernel
theorem dJ1_indexOfChar_4cfef_0 : decode cJ1_indexOfChar_4cfef 0 = .ok (.iload_n 1, 1) := by decide +kernel
theorem dJ1_indexOfChar_4cfef_1 : decode cJ1_indexOfChar_4cfef 1 = .ok (.i2b, 1) := by decide +kernel
theorem dJ1_indexOfChar_4cfef_2 : decode cJ1_indexOfChar_4cfef 2 = .ok (.istore 4, 2) := by decide +kernel
theorem dJ1_indexOfChar_4cfef_4 : decode cJ1_indexOfChar_4cfef 4 = .ok (.iload_n 2, 1) := by decide +kernel
theorem dJ1_indexOfChar_4cfef_5 : decode cJ1_indexOfChar_4cfef 5 = .ok (.istore 5, 2) := by decide +kernel
theorem dJ1_indexOfChar_4cfef_7 : decode cJ1_indexOfChar_4cfef 7 = .ok (.iload 5, 2) := by decide +kernel
theorem dJ1_indexOfChar_4cfef_9 : decode cJ1_indexOfChar_4cfef 9 = .ok (.iload_n 3, 1) := by decide +kernel
theorem dJ1_indexOfChar_4cfef_10 : decode cJ1_indexOfChar_4cfef 10 = .ok (.if_icmp .ge 21, 3) := by decide +kernel
theorem dJ1_indexOfChar_4cfef_13 : decode cJ1_indexOfChar_4cfef 13 = .ok (.aload_n 0, 1) := by decide +kernel
theorem dJ1_indexOfChar_4cfef_14 : decode cJ1_indexOfChar_4cfef 14 = .ok (.iload 5, 2) := by decide +kernel
theorem dJ1_indexOfChar_4cfef_16 : decode cJ1_indexOfChar_4cfef 16 = .ok (.baload, 1) := by decide +kernel
theorem dJ1_indexOfChar_4cfef_17 : decode cJ1_indexOfChar_4cfef 17 = .ok (.iload 4, 2) := by decide +kernel
theorem dJ1_indexOfChar_4cfef_19 : decode cJ1_indexOfChar_4cfef 19 = .ok (.if_icmp .ne 6, 3) := by decide +kernel
theorem dJ1_indexOfChar_4cfef_22 : decode cJ1_indexOfChar_4cfef 22 = .ok (.iload 5, 2) := by decide +kernel
theorem dJ1_indexOfChar_4cfef_24 : decode cJ1_indexOfChar_4cfef 24 = .ok (.ireturn, 1) := by decide +kernel
theorem dJ1_indexOfChar_4cfef_25 : decode cJ1_indexOfChar_4cfef 25 = .ok (.iinc 5 1, 3) := by decide +kernel
theorem dJ1_indexOfChar_4cfef_28 : decode cJ1_indexOfChar_4cfef 28 = .ok (.goto (-21), 3) := by decide +kernel
theorem dJ1_indexOfChar_4cfef_31 : decode cJ1_indexOfChar_4cfef 31 = .ok (.iconst (-1), 1) := by decide +kernel
theorem dJ1_indexOfChar_4cfef_32 : decode cJ1_indexOfChar_4cfef 32 = .ok (.ireturn, 1) := by decide +kernel
theorem dL_law_0 : decode cL_law 0 = .ok (.new 7, 3) := by decide +kernel
theorem dL_law_3 : decode cL_law 3 = .ok (.dup, 1) := by decide +kernel
theorem dL_law_4 : decode cL_law 4 = .ok (.invokespecial 9, 3) := by decide +kernel
theorem dL_law_7 : decode cL_law 7 = .ok (.astore_n 1, 1) := by decide +kernel
theorem dL_law_8 : decode cL_law 8 = .ok (.new 10, 3) := by decide +kernel
theorem dL_law_11 : decode cL_law 11 = .ok (.dup, 1) := by decide +kernel
theorem dL_law_12 : decode cL_law 12 = .ok (.invokespecial 12, 3) := by decide +kernel
theorem dL_law_15 : decode cL_law 15 = .ok (.astore_n 2, 1) := by decide +kernel
theorem dL_law_16 : decode cL_law 16 = .ok (.iconst 0, 1) := by decide +kernel
theorem dL_law_17 : decode cL_law 17 = .ok (.istore_n 3, 1) := by decide +kernel
theorem dL_law_18 : decode cL_law 18 = .ok (.iload_n 3, 1) := by decide +kernel
theorem dL_law_19 : decode cL_law 19 = .ok (.aload_n 0, 1) := by decide +kernel
theorem dL_law_20 : decode cL_law 20 = .ok (.arraylength, 1) := by decide +kernel
theorem dL_law_21 : decode cL_law 21 = .ok (.iconst 4, 1) := by decide +kernel
theorem dL_law_22 : decode cL_law 22 = .ok (.isub, 1) := by decide +kernel
theorem dL_law_23 : decode cL_law 23 = .ok (.if_icmp .gt 877, 3) := by decide +kernel
theorem dL_law_26 : decode cL_law 26 = .ok (.aload_n 0, 1) := by decide +kernel
theorem dL_law_27 : decode cL_law 27 = .ok (.iload_n 3, 1) := by decide +kernel
theorem dL_law_28 : decode cL_law 28 = .ok (.iaload, 1) := by decide +kernel
theorem dL_law_29 : decode cL_law 29 = .ok (.bipush 31, 2) := by decide +kernel
theorem dL_law_31 : decode cL_law 31 = .ok (.iand, 1) := by decide +kernel
theorem dL_law_32 : decode cL_law 32 = .ok (.tableswitch 862 0 27 #[128, 151, 164, 197, 230, 263, 296, 319, 342, 355, 388, 421, 454, 487, 520, 543, 566, 599, 632, 665, 698, 721, 744, 757, 770, 813, 826, 839], 128) := by decide +kernel
theorem dL_law_160 : decode cL_law 160 = .ok (.aload_n 1, 1) := by decide +kernel
theorem dL_law_161 : decode cL_law 161 = .ok (.aload_n 0, 1) := by decide +kernel
theorem dL_law_162 : decode cL_law 162 = .ok (.iload_n 3, 1) := by decide +kernel
theorem dL_law_163 : decode cL_law 163 = .ok (.iconst 1, 1) := by decide +kernel
theorem dL_law_164 : decode cL_law 164 = .ok (.iadd, 1) := by decide +kernel
theorem dL_law_165 : decode cL_law 165 = .ok (.iaload, 1) := by decide +kernel
theorem dL_law_166 : decode cL_law 166 = .ok (.invokevirtual 13, 3) := by decide +kernel
theorem dL_law_169 : decode cL_law 169 = .ok (.aload_n 2, 1) := by decide +kernel
theorem dL_law_170 : decode cL_law 170 = .ok (.aload_n 0, 1) := by decide +kernel
theorem dL_law_171 : decode cL_law 171 = .ok (.iload_n 3, 1) := by decide +kernel
theorem dL_law_172 : decode cL_law 172 = .ok (.iconst 1, 1) := by decide +kernel
theorem dL_law_173 : decode cL_law 173 = .ok (.iadd, 1) := by decide +kernel
theorem dL_law_174 : decode cL_law 174 = .ok (.iaload, 1) := by decide +kernel
theorem dL_law_175 : decode cL_law 175 = .ok (.invokevirtual 17, 3) := by decide +kernel
theorem dL_law_178 : decode cL_law 178 = .ok (.if_icmp .eq 716, 3) := by decide +kernel
theorem dL_law_181 : decode cL_law 181 = .ok (.iconst 0, 1) := by decide +kernel
theorem dL_law_182 : decode cL_law 182 = .ok (.ireturn, 1) := by decide +kernel
theorem dL_law_183 : decode cL_law 183 = .ok (.aload_n 1, 1) := by decide +kernel
theorem dL_law_184 : decode cL_law 184 = .ok (.invokevirtual 18, 3) := by decide +kernel
theorem dL_law_187 : decode cL_law 187 = .ok (.aload_n 2, 1) := by decide +kernel
theorem dL_law_188 : decode cL_law 188 = .ok (.invokevirtual 22, 3) := by decide +kernel
theorem dL_law_191 : decode cL_law 191 = .ok (.if_icmp .eq 703, 3) := by decide +kernel
theorem dL_law_194 : decode cL_law 194 = .ok (.iconst 0, 1) := by decide +kernel
theorem dL_law_195 : decode cL_law 195 = .ok (.ireturn, 1) := by decide +kernel
theorem dL_law_196 : decode cL_law 196 = .ok (.aload_n 1, 1) := by decide +kernel
theorem dL_law_197 : decode cL_law 197 = .ok (.aload_n 0, 1) := by decide +kernel
theorem dL_law_198 : decode cL_law 198 = .ok (.iload_n 3, 1) := by decide +kernel
theorem dL_law_199 : decode cL_law 199 = .ok (.iconst 1, 1) := by decide +kernel
theorem dL_law_200 : decode cL_law 200 = .ok (.iadd, 1) := by decide +kernel
theorem dL_law_201 : decode cL_law 201 = .ok (.iaload, 1) := by decide +kernel
theorem dL_law_202 : decode cL_law 202 = .ok (.aload_n 0, 1) := by decide +kernel
theorem dL_law_203 : decode cL_law 203 = .ok (.iload_n 3, 1) := by decide +kernel
theorem dL_law_204 : decode cL_law 204 = .ok (.iconst 2, 1) := by decide +kernel
theorem dL_law_205 : decode cL_law 205 = .ok (.iadd, 1) := by decide +kernel
theorem dL_law_206 : decode cL_law 206 = .ok (.iaload, 1) := by decide +kernel
theorem dL_law_207 : decode cL_law 207 = .ok (.invokevirtual 23, 3) := by decide +kernel
theorem dL_law_210 : decode cL_law 210 = .ok (.aload_n 2, 1) := by decide +kernel
theorem dL_law_211 : decode cL_law 211 = .ok (.aload_n 0, 1) := by decide +kernel
theorem dL_law_212 : decode cL_law 212 = .ok (.iload_n 3, 1) := by decide +kernel
theorem dL_law_213 : decode cL_law 213 = .ok (.iconst 1, 1) := by decide +kernel
theorem dL_law_214 : decode cL_law 214 = .ok (.iadd, 1) := by decide +kernel
theorem dL_law_215 : decode cL_law 215 = .ok (.iaload, 1) := by decide +kernel
theorem dL_law_216 : decode cL_law 216 = .ok (.aload_n 0, 1) := by decide +kernel
theorem dL_law_217 : decode cL_law 217 = .ok (.iload_n 3, 1) := by decide +kernel
theorem dL_law_218 : decode cL_law 218 = .ok (.iconst 2, 1) := by decide +kernel
theorem dL_law_219 : decode cL_law 219 = .ok (.iadd, 1) := by decide +kernel
theorem dL_law_220 : decode cL_law 220 = .ok (.iaload, 1) := by decide +kernel
theorem dL_law_221 : decode cL_law 221 = .ok (.invokevirtual 27, 3) := by decide +kernel
theorem dL_law_224 : decode cL_law 224 = .ok (.if_icmp .eq 670, 3) := by decide +kernel
theorem dL_law_227 : decode cL_law 227 = .ok (.iconst 0, 1) := by decide +kernel
theorem dL_law_228 : decode cL_law 228 = .ok (.ireturn, 1) := by decide +kernel
theorem dL_law_229 : decode cL_law 229 = .ok (.aload_n 1, 1) := by decide +kernel
theorem dL_law_230 : decode cL_law 230 = .ok (.aload_n 0, 1) := by decide +kernel
theorem dL_law_231 : decode cL_law 231 = .ok (.iload_n 3, 1) := by decide +kernel
theorem dL_law_232 : decode cL_law 232 = .ok (.iconst 1, 1) := by decide +kernel
theorem dL_law_233 : decode cL_law 233 = .ok (.iadd, 1) := by decide +kernel
theorem dL_law_234 : decode cL_law 234 = .ok (.iaload, 1) := by decide +kernel
theorem dL_law_235 : decode cL_law 235 = .ok (.aload_n 0, 1) := by decide +kernel
theorem dL_law_236 : decode cL_law 236 = .ok (.iload_n 3, 1) := by decide +kernel
theorem dL_law_237 : decode cL_law 237 = .ok (.iconst 2, 1) := by decide +kernel
theorem dL_law_238 : decode cL_law 238 = .ok (.iadd, 1) := by decide +kernel
theorem dL_law_239 : decode cL_law 239 = .ok (.iaload, 1) := by decide +kernel
theorem dL_law_240 : decode cL_law 240 = .ok (.invokevirtual 28, 3) := by decide +kernel
theorem dL_law_243 : decode cL_law 243 = .ok (.aload_n 2, 1) := by decide +kernel
theorem dL_law_244 : decode cL_law 244 = .ok (.aload_n 0, 1) := by decide +kernel
theorem dL_law_245 : decode cL_law 245 = .ok (.iload_n 3, 1) := by decide +kernel
theorem dL_law_246 : decode cL_law 246 = .ok (.iconst 1, 1) := by decide +kernel
theorem dL_law_247 : decode cL_law 247 = .ok (.iadd, 1) := by decide +kernel
theorem dL_law_248 : decode cL_law 248 = .ok (.iaload, 1) := by decide +kernel
theorem dL_law_249 : decode cL_law 249 = .ok (.aload_n 0, 1) := by decide +kernel
theorem dL_law_250 : decode cL_law 250 = .ok (.iload_n 3, 1) := by decide +kernel
theorem dL_law_251 : decode cL_law 251 = .ok (.iconst 2, 1) := by decide +kernel
theorem dL_law_252 : decode cL_law 252 = .ok (.iadd, 1) := by decide +kernel
theorem dL_law_253 : decode cL_law 253 = .ok (.iaload, 1) := by decide +kernel
theorem dL_law_254 : decode cL_law 254 = .ok (.invokevirtual 31, 3) := by decide +kernel
theorem dL_law_257 : decode cL_law 257 = .ok (.if_icmp .eq 637, 3) := by decide +kernel
theorem dL_law_260 : decode cL_law 260 = .ok (.iconst 0, 1) := by decide +kernel
theorem dL_law_261 : decode cL_law 261 = .ok (.ireturn, 1) := by decide +kernel
theorem dL_law_262 : decode cL_law 262 = .ok (.aload_n 1, 1) := by decide +kernel
theorem dL_law_263 : decode cL_law 263 = .ok (.aload_n 0, 1) := by decide +kernel
theorem dL_law_264 : decode cL_law 264 = .ok (.iload_n 3, 1) := by decide +kernel
theorem dL_law_265 : decode cL_law 265 = .ok (.iconst 1, 1) := by decide +kernel
theorem dL_law_266 : decode cL_law 266 = .ok (.iadd, 1) := by decide +kernel
theorem dL_law_267 : decode cL_law 267 = .ok (.iaload, 1) := by decide +kernel
theorem dL_law_268 : decode cL_law 268 = .ok (.aload_n 0, 1) := by decide +kernel
theorem dL_law_269 : decode cL_law 269 = .ok (.iload_n 3, 1) := by decide +kernel
theorem dL_law_270 : decode cL_law 270 = .ok (.iconst 2, 1) := by decide +kernel
theorem dL_law_271 : decode cL_law 271 = .ok (.iadd, 1) := by decide +kernel
theorem dL_law_272 : decode cL_law 272 = .ok (.iaload, 1) := by decide +kernel
theorem dL_law_273 : decode cL_law 273 = .ok (.invokevirtual 32, 3) := by decide +kernel
theorem dL_law_276 : decode cL_law 276 = .ok (.aload_n 2, 1) := by decide +kernel
theorem dL_law_277 : decode cL_law 277 = .ok (.aload_n 0, 1) := by decide +kernel
theorem dL_law_278 : decode cL_law 278 = .ok (.iload_n 3, 1) := by decide +kernel
theorem dL_law_279 : decode cL_law 279 = .ok (.iconst 1, 1) := by decide +kernel
theorem dL_law_280 : decode cL_law 280 = .ok (.iadd, 1) := by decide +kernel
theorem dL_law_281 : decode cL_law 281 = .ok (.iaload, 1) := by decide +kernel
theorem dL_law_282 : decode cL_law 282 = .ok (.aload_n 0, 1) := by decide +kernel
theorem dL_law_283 : decode cL_law 283 = .ok (.iload_n 3, 1) := by decide +kernel
theorem dL_law_284 : decode cL_law 284 = .ok (.iconst 2, 1) := by decide +kernel
theorem dL_law_285 : decode cL_law 285 = .ok (.iadd, 1) := by decide +kernel
theorem dL_law_286 : decode cL_law 286 = .ok (.iaload, 1) := by decide +kernel
theorem dL_law_287 : decode cL_law 287 = .ok (.invokevirtual 35, 3) := by decide +kernel
theorem dL_law_290 : decode cL_law 290 = .ok (.if_icmp .eq 604, 3) := by decide +kernel
theorem dL_law_293 : decode cL_law 293 = .ok (.iconst 0, 1) := by decide +kernel
theorem dL_law_294 : decode cL_law 294 = .ok (.ireturn, 1) := by decide +kernel
theorem dL_law_295 : decode cL_law 295 = .ok (.aload_n 1, 1) := by decide +kernel
theorem dL_law_296 : decode cL_law 296 = .ok (.aload_n 0, 1) := by decide +kernel
theorem dL_law_297 : decode cL_law 297 = .ok (.iload_n 3, 1) := by decide +kernel
theorem dL_law_298 : decode cL_law 298 = .ok (.iconst 1, 1) := by decide +kernel
theorem dL_law_299 : decode cL_law 299 = .ok (.iadd, 1) := by decide +kernel
theorem dL_law_300 : decode cL_law 300 = .ok (.iaload, 1) := by decide +kernel
theorem dL_law_301 : decode cL_law 301 = .ok (.aload_n 0, 1) := by decide +kernel
theorem dL_law_302 : decode cL_law 302 = .ok (.iload_n 3, 1) := by decide +kernel
theorem dL_law_303 : decode cL_law 303 = .ok (.iconst 2, 1) := by decide +kernel
theorem dL_law_304 : decode cL_law 304 = .ok (.iadd, 1) := by decide +kernel
theorem dL_law_305 : decode cL_law 305 = .ok (.iaload, 1) := by decide +kernel
theorem dL_law_306 : decode cL_law 306 = .ok (.invokevirtual 36, 3) := by decide +kernel
theorem dL_law_309 : decode cL_law 309 = .ok (.aload_n 2, 1) := by decide +kernel
theorem dL_law_310 : decode cL_law 310 = .ok (.aload_n 0, 1) := by decide +kernel
theorem dL_law_311 : decode cL_law 311 = .ok (.iload_n 3, 1) := by decide +kernel
theorem dL_law_312 : decode cL_law 312 = .ok (.iconst 1, 1) := by decide +kernel
theorem dL_law_313 : decode cL_law 313 = .ok (.iadd, 1) := by decide +kernel
theorem dL_law_314 : decode cL_law 314 = .ok (.iaload, 1) := by decide +kernel
theorem dL_law_315 : decode cL_law 315 = .ok (.aload_n 0, 1) := by decide +kernel
theorem dL_law_316 : decode cL_law 316 = .ok (.iload_n 3, 1) := by decide +kernel
theorem dL_law_317 : decode cL_law 317 = .ok (.iconst 2, 1) := by decide +kernel
theorem dL_law_318 : decode cL_law 318 = .ok (.iadd, 1) := by decide +kernel
theorem dL_law_319 : decode cL_law 319 = .ok (.iaload, 1) := by decide +kernel
theorem dL_law_320 : decode cL_law 320 = .ok (.invokevirtual 39, 3) := by decide +kernel
theorem dL_law_323 : decode cL_law 323 = .ok (.if_icmp .eq 571, 3) := by decide +kernel
theorem dL_law_326 : decode cL_law 326 = .ok (.iconst 0, 1) := by decide +kernel
theorem dL_law_327 : decode cL_law 327 = .ok (.ireturn, 1) := by decide +kernel
theorem dL_law_328 : decode cL_law 328 = .ok (.aload_n 1, 1) := by decide +kernel
theorem dL_law_329 : decode cL_law 329 = .ok (.aload_n 0, 1) := by decide +kernel
theorem dL_law_330 : decode cL_law 330 = .ok (.iload_n 3, 1) := by decide +kernel
theorem dL_law_331 : decode cL_law 331 = .ok (.iconst 1, 1) := by decide +kernel
theorem dL_law_332 : decode cL_law 332 = .ok (.iadd, 1) := by decide +kernel
theorem dL_law_333 : decode cL_law 333 = .ok (.iaload, 1) := by decide +kernel
theorem dL_law_334 : decode cL_law 334 = .ok (.invokevirtual 40, 3) := by decide +kernel
theorem dL_law_337 : decode cL_law 337 = .ok (.aload_n 2, 1) := by decide +kernel
theorem dL_law_338 : decode cL_law 338 = .ok (.aload_n 0, 1) := by decide +kernel
theorem dL_law_339 : decode cL_law 339 = .ok (.iload_n 3, 1) := by decide +kernel
theorem dL_law_340 : decode cL_law 340 = .ok (.iconst 1, 1) := by decide +kernel
theorem dL_law_341 : decode cL_law 341 = .ok (.iadd, 1) := by decide +kernel
theorem dL_law_342 : decode cL_law 342 = .ok (.iaload, 1) := by decide +kernel
theorem dL_law_343 : decode cL_law 343 = .ok (.invokevirtual 43, 3) := by decide +kernel
theorem dL_law_346 : decode cL_law 346 = .ok (.if_icmp .eq 548, 3) := by decide +kernel
theorem dL_law_349 : decode cL_law 349 = .ok (.iconst 0, 1) := by decide +kernel
theorem dL_law_350 : decode cL_law 350 = .ok (.ireturn, 1) := by decide +kernel
theorem dL_law_351 : decode cL_law 351 = .ok (.aload_n 1, 1) := by decide +kernel
theorem dL_law_352 : decode cL_law 352 = .ok (.aload_n 0, 1) := by decide +kernel
theorem dL_law_353 : decode cL_law 353 = .ok (.iload_n 3, 1) := by decide +kernel
theorem dL_law_354 : decode cL_law 354 = .ok (.iconst 1, 1) := by decide +kernel
theorem dL_law_355 : decode cL_law 355 = .ok (.iadd, 1) := by decide +kernel
theorem dL_law_356 : decode cL_law 356 = .ok (.iaload, 1) := by decide +kernel
theorem dL_law_357 : decode cL_law 357 = .ok (.invokevirtual 44, 3) := by decide +kernel
theorem dL_law_360 : decode cL_law 360 = .ok (.aload_n 2, 1) := by decide +kernel
theorem dL_law_361 : decode cL_law 361 = .ok (.aload_n 0, 1) := by decide +kernel
theorem dL_law_362 : decode cL_law 362 = .ok (.iload_n 3, 1) := by decide +kernel
theorem dL_law_363 : decode cL_law 363 = .ok (.iconst 1, 1) := by decide +kernel
theorem dL_law_364 : decode cL_law 364 = .ok (.iadd, 1) := by decide +kernel
theorem dL_law_365 : decode cL_law 365 = .ok (.iaload, 1) := by decide +kernel
theorem dL_law_366 : decode cL_law 366 = .ok (.invokevirtual 47, 3) := by decide +kernel
theorem dL_law_369 : decode cL_law 369 = .ok (.if_icmp .eq 525, 3) := by decide +kernel
theorem dL_law_372 : decode cL_law 372 = .ok (.iconst 0, 1) := by decide +kernel
theorem dL_law_373 : decode cL_law 373 = .ok (.ireturn, 1) := by decide +kernel
theorem dL_law_374 : decode cL_law 374 = .ok (.aload_n 1, 1) := by decide +kernel
theorem dL_law_375 : decode cL_law 375 = .ok (.invokevirtual 48, 3) := by decide +kernel
theorem dL_law_378 : decode cL_law 378 = .ok (.aload_n 2, 1) := by decide +kernel
theorem dL_law_379 : decode cL_law 379 = .ok (.invokevirtual 51, 3) := by decide +kernel
theorem dL_law_382 : decode cL_law 382 = .ok (.if_icmp .eq 512, 3) := by decide +kernel
theorem dL_law_385 : decode cL_law 385 = .ok (.iconst 0, 1) := by decide +kernel
theorem dL_law_386 : decode cL_law 386 = .ok (.ireturn, 1) := by decide +kernel
theorem dL_law_387 : decode cL_law 387 = .ok (.aload_n 1, 1) := by decide +kernel
theorem dL_law_388 : decode cL_law 388 = .ok (.aload_n 0, 1) := by decide +kernel
theorem dL_law_389 : decode cL_law 389 = .ok (.iload_n 3, 1) := by decide +kernel
theorem dL_law_390 : decode cL_law 390 = .ok (.iconst 1, 1) := by decide +kernel
theorem dL_law_391 : decode cL_law 391 = .ok (.iadd, 1) := by decide +kernel
theorem dL_law_392 : decode cL_law 392 = .ok (.iaload, 1) := by decide +kernel
theorem dL_law_393 : decode cL_law 393 = .ok (.aload_n 0, 1) := by decide +kernel
theorem dL_law_394 : decode cL_law 394 = .ok (.iload_n 3, 1) := by decide +kernel
theorem dL_law_395 : decode cL_law 395 = .ok (.iconst 2, 1) := by decide +kernel
theorem dL_law_396 : decode cL_law 396 = .ok (.iadd, 1) := by decide +kernel
theorem dL_law_397 : decode cL_law 397 = .ok (.iaload, 1) := by decide +kernel
theorem dL_law_398 : decode cL_law 398 = .ok (.invokevirtual 52, 3) := by decide +kernel
theorem dL_law_401 : decode cL_law 401 = .ok (.aload_n 2, 1) := by decide +kernel
theorem dL_law_402 : decode cL_law 402 = .ok (.aload_n 0, 1) := by decide +kernel
theorem dL_law_403 : decode cL_law 403 = .ok (.iload_n 3, 1) := by decide +kernel
theorem dL_law_404 : decode cL_law 404 = .ok (.iconst 1, 1) := by decide +kernel
theorem dL_law_405 : decode cL_law 405 = .ok (.iadd, 1) := by decide +kernel
theorem dL_law_406 : decode cL_law 406 = .ok (.iaload, 1) := by decide +kernel
theorem dL_law_407 : decode cL_law 407 = .ok (.aload_n 0, 1) := by decide +kernel
theorem dL_law_408 : decode cL_law 408 = .ok (.iload_n 3, 1) := by decide +kernel
theorem dL_law_409 : decode cL_law 409 = .ok (.iconst 2, 1) := by decide +kernel
theorem dL_law_410 : decode cL_law 410 = .ok (.iadd, 1) := by decide +kernel
theorem dL_law_411 : decode cL_law 411 = .ok (.iaload, 1) := by decide +kernel
theorem dL_law_412 : decode cL_law 412 = .ok (.invokevirtual 55, 3) := by decide +kernel
theorem dL_law_415 : decode cL_law 415 = .ok (.if_icmp .eq 479, 3) := by decide +kernel
theorem dL_law_418 : decode cL_law 418 = .ok (.iconst 0, 1) := by decide +kernel
theorem dL_law_419 : decode cL_law 419 = .ok (.ireturn, 1) := by decide +kernel
theorem dL_law_420 : decode cL_law 420 = .ok (.aload_n 1, 1) := by decide +kernel
theorem dL_law_421 : decode cL_law 421 = .ok (.aload_n 0, 1) := by decide +kernel
theorem dL_law_422 : decode cL_law 422 = .ok (.iload_n 3, 1) := by decide +kernel
theorem dL_law_423 : decode cL_law 423 = .ok (.iconst 1, 1) := by decide +kernel
theorem dL_law_424 : decode cL_law 424 = .ok (.iadd, 1) := by decide +kernel
theorem dL_law_425 : decode cL_law 425 = .ok (.iaload, 1) := by decide +kernel
theorem dL_law_426 : decode cL_law 426 = .ok (.aload_n 0, 1) := by decide +kernel
theorem dL_law_427 : decode cL_law 427 = .ok (.iload_n 3, 1) := by decide +kernel
theorem dL_law_428 : decode cL_law 428 = .ok (.iconst 2, 1) := by decide +kernel
theorem dL_law_429 : decode cL_law 429 = .ok (.iadd, 1) := by decide +kernel
theorem dL_law_430 : decode cL_law 430 = .ok (.iaload, 1) := by decide +kernel
theorem dL_law_431 : decode cL_law 431 = .ok (.invokevirtual 56, 3) := by decide +kernel
theorem dL_law_434 : decode cL_law 434 = .ok (.aload_n 2, 1) := by decide +kernel
theorem dL_law_435 : decode cL_law 435 = .ok (.aload_n 0, 1) := by decide +kernel
theorem dL_law_436 : decode cL_law 436 = .ok (.iload_n 3, 1) := by decide +kernel
theorem dL_law_437 : decode cL_law 437 = .ok (.iconst 1, 1) := by decide +kernel
theorem dL_law_438 : decode cL_law 438 = .ok (.iadd, 1) := by decide +kernel
theorem dL_law_439 : decode cL_law 439 = .ok (.iaload, 1) := by decide +kernel
theorem dL_law_440 : decode cL_law 440 = .ok (.aload_n 0, 1) := by decide +kernel
theorem dL_law_441 : decode cL_law 441 = .ok (.iload_n 3, 1) := by decide +kernel
theorem dL_law_442 : decode cL_law 442 = .ok (.iconst 2, 1) := by decide +kernel
theorem dL_law_443 : decode cL_law 443 = .ok (.iadd, 1) := by decide +kernel
theorem dL_law_444 : decode cL_law 444 = .ok (.iaload, 1) := by decide +kernel
theorem dL_law_445 : decode cL_law 445 = .ok (.invokevirtual 59, 3) := by decide +kernel
theorem dL_law_448 : decode cL_law 448 = .ok (.if_icmp .eq 446, 3) := by decide +kernel
theorem dL_law_451 : decode cL_law 451 = .ok (.iconst 0, 1) := by decide +kernel
theorem dL_law_452 : decode cL_law 452 = .ok (.ireturn, 1) := by decide +kernel
theorem dL_law_453 : decode cL_law 453 = .ok (.aload_n 1, 1) := by decide +kernel
theorem dL_law_454 : decode cL_law 454 = .ok (.aload_n 0, 1) := by decide +kernel
theorem dL_law_455 : decode cL_law 455 = .ok (.iload_n 3, 1) := by decide +kernel
theorem dL_law_456 : decode cL_law 456 = .ok (.iconst 1, 1) := by decide +kernel
theorem dL_law_457 : decode cL_law 457 = .ok (.iadd, 1) := by decide +kernel
theorem dL_law_458 : decode cL_law 458 = .ok (.iaload, 1) := by decide +kernel
theorem dL_law_459 : decode cL_law 459 = .ok (.aload_n 0, 1) := by decide +kernel
theorem dL_law_460 : decode cL_law 460 = .ok (.iload_n 3, 1) := by decide +kernel
theorem dL_law_461 : decode cL_law 461 = .ok (.iconst 2, 1) := by decide +kernel
theorem dL_law_462 : decode cL_law 462 = .ok (.iadd, 1) := by decide +kernel
theorem dL_law_463 : decode cL_law 463 = .ok (.iaload, 1) := by decide +kernel
theorem dL_law_464 : decode cL_law 464 = .ok (.invokevirtual 60, 3) := by decide +kernel
theorem dL_law_467 : decode cL_law 467 = .ok (.aload_n 2, 1) := by decide +kernel
theorem dL_law_468 : decode cL_law 468 = .ok (.aload_n 0, 1) := by decide +kernel
theorem dL_law_469 : decode cL_law 469 = .ok (.iload_n 3, 1) := by decide +kernel
theorem dL_law_470 : decode cL_law 470 = .ok (.iconst 1, 1) := by decide +kernel
theorem dL_law_471 : decode cL_law 471 = .ok (.iadd, 1) := by decide +kernel
theorem dL_law_472 : decode cL_law 472 = .ok (.iaload, 1) := by decide +kernel
theorem dL_law_473 : decode cL_law 473 = .ok (.aload_n 0, 1) := by decide +kernel
theorem dL_law_474 : decode cL_law 474 = .ok (.iload_n 3, 1) := by decide +kernel
theorem dL_law_475 : decode cL_law 475 = .ok (.iconst 2, 1) := by decide +kernel
theorem dL_law_476 : decode cL_law 476 = .ok (.iadd, 1) := by decide +kernel
theorem dL_law_477 : decode cL_law 477 = .ok (.iaload, 1) := by decide +kernel
theorem dL_law_478 : decode cL_law 478 = .ok (.invokevirtual 63, 3) := by decide +kernel
theorem dL_law_481 : decode cL_law 481 = .ok (.if_icmp .eq 413, 3) := by decide +kernel
theorem dL_law_484 : decode cL_law 484 = .ok (.iconst 0, 1) := by decide +kernel
theorem dL_law_485 : decode cL_law 485 = .ok (.ireturn, 1) := by decide +kernel
theorem dL_law_486 : decode cL_law 486 = .ok (.aload_n 1, 1) := by decide +kernel
theorem dL_law_487 : decode cL_law 487 = .ok (.aload_n 0, 1) := by decide +kernel
theorem dL_law_488 : decode cL_law 488 = .ok (.iload_n 3, 1) := by decide +kernel
theorem dL_law_489 : decode cL_law 489 = .ok (.iconst 1, 1) := by decide +kernel
theorem dL_law_490 : decode cL_law 490 = .ok (.iadd, 1) := by decide +kernel
theorem dL_law_491 : decode cL_law 491 = .ok (.iaload, 1) := by decide +kernel
theorem dL_law_492 : decode cL_law 492 = .ok (.aload_n 0, 1) := by decide +kernel
theorem dL_law_493 : decode cL_law 493 = .ok (.iload_n 3, 1) := by decide +kernel
theorem dL_law_494 : decode cL_law 494 = .ok (.iconst 2, 1) := by decide +kernel
theorem dL_law_495 : decode cL_law 495 = .ok (.iadd, 1) := by decide +kernel
theorem dL_law_496 : decode cL_law 496 = .ok (.iaload, 1) := by decide +kernel
theorem dL_law_497 : decode cL_law 497 = .ok (.invokevirtual 64, 3) := by decide +kernel
theorem dL_law_500 : decode cL_law 500 = .ok (.aload_n 2, 1) := by decide +kernel
theorem dL_law_501 : decode cL_law 501 = .ok (.aload_n 0, 1) := by decide +kernel
theorem dL_law_502 : decode cL_law 502 = .ok (.iload_n 3, 1) := by decide +kernel
theorem dL_law_503 : decode cL_law 503 = .ok (.iconst 1, 1) := by decide +kernel
theorem dL_law_504 : decode cL_law 504 = .ok (.iadd, 1) := by decide +kernel
theorem dL_law_505 : decode cL_law 505 = .ok (.iaload, 1) := by decide +kernel
theorem dL_law_506 : decode cL_law 506 = .ok (.aload_n 0, 1) := by decide +kernel
theorem dL_law_507 : decode cL_law 507 = .ok (.iload_n 3, 1) := by decide +kernel
theorem dL_law_508 : decode cL_law 508 = .ok (.iconst 2, 1) := by decide +kernel
theorem dL_law_509 : decode cL_law 509 = .ok (.iadd, 1) := by decide +kernel
theorem dL_law_510 : decode cL_law 510 = .ok (.iaload, 1) := by decide +kernel
theorem dL_law_511 : decode cL_law 511 = .ok (.invokevirtual 67, 3) := by decide +kernel
theorem dL_law_514 : decode cL_law 514 = .ok (.if_icmp .eq 380, 3) := by decide +kernel
theorem dL_law_517 : decode cL_law 517 = .ok (.iconst 0, 1) := by decide +kernel
theorem dL_law_518 : decode cL_law 518 = .ok (.ireturn, 1) := by decide +kernel
theorem dL_law_519 : decode cL_law 519 = .ok (.aload_n 1, 1) := by decide +kernel
theorem dL_law_520 : decode cL_law 520 = .ok (.aload_n 0, 1) := by decide +kernel
theorem dL_law_521 : decode cL_law 521 = .ok (.iload_n 3, 1) := by decide +kernel
theorem dL_law_522 : decode cL_law 522 = .ok (.iconst 1, 1) := by decide +kernel
theorem dL_law_523 : decode cL_law 523 = .ok (.iadd, 1) := by decide +kernel
theorem dL_law_524 : decode cL_law 524 = .ok (.iaload, 1) := by decide +kernel
theorem dL_law_525 : decode cL_law 525 = .ok (.aload_n 0, 1) := by decide +kernel
theorem dL_law_526 : decode cL_law 526 = .ok (.iload_n 3, 1) := by decide +kernel
theorem dL_law_527 : decode cL_law 527 = .ok (.iconst 2, 1) := by decide +kernel
theorem dL_law_528 : decode cL_law 528 = .ok (.iadd, 1) := by decide +kernel
theorem dL_law_529 : decode cL_law 529 = .ok (.iaload, 1) := by decide +kernel
theorem dL_law_530 : decode cL_law 530 = .ok (.invokevirtual 68, 3) := by decide +kernel
theorem dL_law_533 : decode cL_law 533 = .ok (.aload_n 2, 1) := by decide +kernel
theorem dL_law_534 : decode cL_law 534 = .ok (.aload_n 0, 1) := by decide +kernel
theorem dL_law_535 : decode cL_law 535 = .ok (.iload_n 3, 1) := by decide +kernel
theorem dL_law_536 : decode cL_law 536 = .ok (.iconst 1, 1) := by decide +kernel
theorem dL_law_537 : decode cL_law 537 = .ok (.iadd, 1) := by decide +kernel
theorem dL_law_538 : decode cL_law 538 = .ok (.iaload, 1) := by decide +kernel
theorem dL_law_539 : decode cL_law 539 = .ok (.aload_n 0, 1) := by decide +kernel
theorem dL_law_540 : decode cL_law 540 = .ok (.iload_n 3, 1) := by decide +kernel
theorem dL_law_541 : decode cL_law 541 = .ok (.iconst 2, 1) := by decide +kernel
theorem dL_law_542 : decode cL_law 542 = .ok (.iadd, 1) := by decide +kernel
theorem dL_law_543 : decode cL_law 543 = .ok (.iaload, 1) := by decide +kernel
theorem dL_law_544 : decode cL_law 544 = .ok (.invokevirtual 71, 3) := by decide +kernel
theorem dL_law_547 : decode cL_law 547 = .ok (.if_icmp .eq 347, 3) := by decide +kernel
theorem dL_law_550 : decode cL_law 550 = .ok (.iconst 0, 1) := by decide +kernel
theorem dL_law_551 : decode cL_law 551 = .ok (.ireturn, 1) := by decide +kernel
theorem dL_law_552 : decode cL_law 552 = .ok (.aload_n 1, 1) := by decide +kernel
theorem dL_law_553 : decode cL_law 553 = .ok (.aload_n 0, 1) := by decide +kernel
theorem dL_law_554 : decode cL_law 554 = .ok (.iload_n 3, 1) := by decide +kernel
theorem dL_law_555 : decode cL_law 555 = .ok (.iconst 1, 1) := by decide +kernel
theorem dL_law_556 : decode cL_law 556 = .ok (.iadd, 1) := by decide +kernel
theorem dL_law_557 : decode cL_law 557 = .ok (.iaload, 1) := by decide +kernel
theorem dL_law_558 : decode cL_law 558 = .ok (.invokevirtual 72, 3) := by decide +kernel
theorem dL_law_561 : decode cL_law 561 = .ok (.aload_n 2, 1) := by decide +kernel
theorem dL_law_562 : decode cL_law 562 = .ok (.aload_n 0, 1) := by decide +kernel
theorem dL_law_563 : decode cL_law 563 = .ok (.iload_n 3, 1) := by decide +kernel
theorem dL_law_564 : decode cL_law 564 = .ok (.iconst 1, 1) := by decide +kernel
theorem dL_law_565 : decode cL_law 565 = .ok (.iadd, 1) := by decide +kernel
theorem dL_law_566 : decode cL_law 566 = .ok (.iaload, 1) := by decide +kernel
theorem dL_law_567 : decode cL_law 567 = .ok (.invokevirtual 75, 3) := by decide +kernel
theorem dL_law_570 : decode cL_law 570 = .ok (.if_icmp .eq 324, 3) := by decide +kernel
theorem dL_law_573 : decode cL_law 573 = .ok (.iconst 0, 1) := by decide +kernel
theorem dL_law_574 : decode cL_law 574 = .ok (.ireturn, 1) := by decide +kernel
theorem dL_law_575 : decode cL_law 575 = .ok (.aload_n 1, 1) := by decide +kernel
theorem dL_law_576 : decode cL_law 576 = .ok (.aload_n 0, 1) := by decide +kernel
theorem dL_law_577 : decode cL_law 577 = .ok (.iload_n 3, 1) := by decide +kernel
theorem dL_law_578 : decode cL_law 578 = .ok (.iconst 1, 1) := by decide +kernel
theorem dL_law_579 : decode cL_law 579 = .ok (.iadd, 1) := by decide +kernel
theorem dL_law_580 : decode cL_law 580 = .ok (.iaload, 1) := by decide +kernel
theorem dL_law_581 : decode cL_law 581 = .ok (.invokevirtual 76, 3) := by decide +kernel
theorem dL_law_584 : decode cL_law 584 = .ok (.aload_n 2, 1) := by decide +kernel
theorem dL_law_585 : decode cL_law 585 = .ok (.aload_n 0, 1) := by decide +kernel
theorem dL_law_586 : decode cL_law 586 = .ok (.iload_n 3, 1) := by decide +kernel
theorem dL_law_587 : decode cL_law 587 = .ok (.iconst 1, 1) := by decide +kernel
theorem dL_law_588 : decode cL_law 588 = .ok (.iadd, 1) := by decide +kernel
theorem dL_law_589 : decode cL_law 589 = .ok (.iaload, 1) := by decide +kernel
theorem dL_law_590 : decode cL_law 590 = .ok (.invokevirtual 79, 3) := by decide +kernel
theorem dL_law_593 : decode cL_law 593 = .ok (.if_icmp .eq 301, 3) := by decide +kernel
theorem dL_law_596 : decode cL_law 596 = .ok (.iconst 0, 1) := by decide +kernel
theorem dL_law_597 : decode cL_law 597 = .ok (.ireturn, 1) := by decide +kernel
theorem dL_law_598 : decode cL_law 598 = .ok (.aload_n 1, 1) := by decide +kernel
theorem dL_law_599 : decode cL_law 599 = .ok (.aload_n 0, 1) := by decide +kernel
theorem dL_law_600 : decode cL_law 600 = .ok (.iload_n 3, 1) := by decide +kernel
theorem dL_law_601 : decode cL_law 601 = .ok (.iconst 1, 1) := by decide +kernel
theorem dL_law_602 : decode cL_law 602 = .ok (.iadd, 1) := by decide +kernel
theorem dL_law_603 : decode cL_law 603 = .ok (.iaload, 1) := by decide +kernel
theorem dL_law_604 : decode cL_law 604 = .ok (.aload_n 0, 1) := by decide +kernel
theorem dL_law_605 : decode cL_law 605 = .ok (.iload_n 3, 1) := by decide +kernel
theorem dL_law_606 : decode cL_law 606 = .ok (.iconst 2, 1) := by decide +kernel
theorem dL_law_607 : decode cL_law 607 = .ok (.iadd, 1) := by decide +kernel
theorem dL_law_608 : decode cL_law 608 = .ok (.iaload, 1) := by decide +kernel
theorem dL_law_609 : decode cL_law 609 = .ok (.invokevirtual 80, 3) := by decide +kernel
theorem dL_law_612 : decode cL_law 612 = .ok (.aload_n 2, 1) := by decide +kernel
theorem dL_law_613 : decode cL_law 613 = .ok (.aload_n 0, 1) := by decide +kernel
theorem dL_law_614 : decode cL_law 614 = .ok (.iload_n 3, 1) := by decide +kernel
theorem dL_law_615 : decode cL_law 615 = .ok (.iconst 1, 1) := by decide +kernel
theorem dL_law_616 : decode cL_law 616 = .ok (.iadd, 1) := by decide +kernel
theorem dL_law_617 : decode cL_law 617 = .ok (.iaload, 1) := by decide +kernel
theorem dL_law_618 : decode cL_law 618 = .ok (.aload_n 0, 1) := by decide +kernel
theorem dL_law_619 : decode cL_law 619 = .ok (.iload_n 3, 1) := by decide +kernel
theorem dL_law_620 : decode cL_law 620 = .ok (.iconst 2, 1) := by decide +kernel
theorem dL_law_621 : decode cL_law 621 = .ok (.iadd, 1) := by decide +kernel
theorem dL_law_622 : decode cL_law 622 = .ok (.iaload, 1) := by decide +kernel
theorem dL_law_623 : decode cL_law 623 = .ok (.invokevirtual 83, 3) := by decide +kernel
theorem dL_law_626 : decode cL_law 626 = .ok (.if_icmp .eq 268, 3) := by decide +kernel
theorem dL_law_629 : decode cL_law 629 = .ok (.iconst 0, 1) := by decide +kernel
theorem dL_law_630 : decode cL_law 630 = .ok (.ireturn, 1) := by decide +kernel
theorem dL_law_631 : decode cL_law 631 = .ok (.aload_n 1, 1) := by decide +kernel
theorem dL_law_632 : decode cL_law 632 = .ok (.aload_n 0, 1) := by decide +kernel
theorem dL_law_633 : decode cL_law 633 = .ok (.iload_n 3, 1) := by decide +kernel
theorem dL_law_634 : decode cL_law 634 = .ok (.iconst 1, 1) := by decide +kernel
theorem dL_law_635 : decode cL_law 635 = .ok (.iadd, 1) := by decide +kernel
theorem dL_law_636 : decode cL_law 636 = .ok (.iaload, 1) := by decide +kernel
theorem dL_law_637 : decode cL_law 637 = .ok (.aload_n 0, 1) := by decide +kernel
theorem dL_law_638 : decode cL_law 638 = .ok (.iload_n 3, 1) := by decide +kernel
theorem dL_law_639 : decode cL_law 639 = .ok (.iconst 2, 1) := by decide +kernel
theorem dL_law_640 : decode cL_law 640 = .ok (.iadd, 1) := by decide +kernel
theorem dL_law_641 : decode cL_law 641 = .ok (.iaload, 1) := by decide +kernel
theorem dL_law_642 : decode cL_law 642 = .ok (.invokevirtual 84, 3) := by decide +kernel
theorem dL_law_645 : decode cL_law 645 = .ok (.aload_n 2, 1) := by decide +kernel
theorem dL_law_646 : decode cL_law 646 = .ok (.aload_n 0, 1) := by decide +kernel
theorem dL_law_647 : decode cL_law 647 = .ok (.iload_n 3, 1) := by decide +kernel
theorem dL_law_648 : decode cL_law 648 = .ok (.iconst 1, 1) := by decide +kernel
theorem dL_law_649 : decode cL_law 649 = .ok (.iadd, 1) := by decide +kernel
theorem dL_law_650 : decode cL_law 650 = .ok (.iaload, 1) := by decide +kernel
theorem dL_law_651 : decode cL_law 651 = .ok (.aload_n 0, 1) := by decide +kernel
theorem dL_law_652 : decode cL_law 652 = .ok (.iload_n 3, 1) := by decide +kernel
theorem dL_law_653 : decode cL_law 653 = .ok (.iconst 2, 1) := by decide +kernel
theorem dL_law_654 : decode cL_law 654 = .ok (.iadd, 1) := by decide +kernel
theorem dL_law_655 : decode cL_law 655 = .ok (.iaload, 1) := by decide +kernel
theorem dL_law_656 : decode cL_law 656 = .ok (.invokevirtual 87, 3) := by decide +kernel
theorem dL_law_659 : decode cL_law 659 = .ok (.if_icmp .eq 235, 3) := by decide +kernel
theorem dL_law_662 : decode cL_law 662 = .ok (.iconst 0, 1) := by decide +kernel
theorem dL_law_663 : decode cL_law 663 = .ok (.ireturn, 1) := by decide +kernel
theorem dL_law_664 : decode cL_law 664 = .ok (.aload_n 1, 1) := by decide +kernel
theorem dL_law_665 : decode cL_law 665 = .ok (.aload_n 0, 1) := by decide +kernel
theorem dL_law_666 : decode cL_law 666 = .ok (.iload_n 3, 1) := by decide +kernel
theorem dL_law_667 : decode cL_law 667 = .ok (.iconst 1, 1) := by decide +kernel
theorem dL_law_668 : decode cL_law 668 = .ok (.iadd, 1) := by decide +kernel
theorem dL_law_669 : decode cL_law 669 = .ok (.iaload, 1) := by decide +kernel
theorem dL_law_670 : decode cL_law 670 = .ok (.aload_n 0, 1) := by decide +kernel
theorem dL_law_671 : decode cL_law 671 = .ok (.iload_n 3, 1) := by decide +kernel
theorem dL_law_672 : decode cL_law 672 = .ok (.iconst 2, 1) := by decide +kernel
theorem dL_law_673 : decode cL_law 673 = .ok (.iadd, 1) := by decide +kernel
theorem dL_law_674 : decode cL_law 674 = .ok (.iaload, 1) := by decide +kernel
theorem dL_law_675 : decode cL_law 675 = .ok (.invokevirtual 88, 3) := by decide +kernel
theorem dL_law_678 : decode cL_law 678 = .ok (.aload_n 2, 1) := by decide +kernel
theorem dL_law_679 : decode cL_law 679 = .ok (.aload_n 0, 1) := by decide +kernel
theorem dL_law_680 : decode cL_law 680 = .ok (.iload_n 3, 1) := by decide +kernel
theorem dL_law_681 : decode cL_law 681 = .ok (.iconst 1, 1) := by decide +kernel
theorem dL_law_682 : decode cL_law 682 = .ok (.iadd, 1) := by decide +kernel
theorem dL_law_683 : decode cL_law 683 = .ok (.iaload, 1) := by decide +kernel
theorem dL_law_684 : decode cL_law 684 = .ok (.aload_n 0, 1) := by decide +kernel
theorem dL_law_685 : decode cL_law 685 = .ok (.iload_n 3, 1) := by decide +kernel
theorem dL_law_686 : decode cL_law 686 = .ok (.iconst 2, 1) := by decide +kernel
theorem dL_law_687 : decode cL_law 687 = .ok (.iadd, 1) := by decide +kernel
theorem dL_law_688 : decode cL_law 688 = .ok (.iaload, 1) := by decide +kernel
theorem dL_law_689 : decode cL_law 689 = .ok (.invokevirtual 91, 3) := by decide +kernel
theorem dL_law_692 : decode cL_law 692 = .ok (.if_icmp .eq 202, 3) := by decide +kernel
theorem dL_law_695 : decode cL_law 695 = .ok (.iconst 0, 1) := by decide +kernel
theorem dL_law_696 : decode cL_law 696 = .ok (.ireturn, 1) := by decide +kernel
theorem dL_law_697 : decode cL_law 697 = .ok (.aload_n 1, 1) := by decide +kernel
theorem dL_law_698 : decode cL_law 698 = .ok (.aload_n 0, 1) := by decide +kernel
theorem dL_law_699 : decode cL_law 699 = .ok (.iload_n 3, 1) := by decide +kernel
theorem dL_law_700 : decode cL_law 700 = .ok (.iconst 1, 1) := by decide +kernel
theorem dL_law_701 : decode cL_law 701 = .ok (.iadd, 1) := by decide +kernel
theorem dL_law_702 : decode cL_law 702 = .ok (.iaload, 1) := by decide +kernel
theorem dL_law_703 : decode cL_law 703 = .ok (.aload_n 0, 1) := by decide +kernel
theorem dL_law_704 : decode cL_law 704 = .ok (.iload_n 3, 1) := by decide +kernel
theorem dL_law_705 : decode cL_law 705 = .ok (.iconst 2, 1) := by decide +kernel
theorem dL_law_706 : decode cL_law 706 = .ok (.iadd, 1) := by decide +kernel
theorem dL_law_707 : decode cL_law 707 = .ok (.iaload, 1) := by decide +kernel
theorem dL_law_708 : decode cL_law 708 = .ok (.invokevirtual 92, 3) := by decide +kernel
theorem dL_law_711 : decode cL_law 711 = .ok (.aload_n 2, 1) := by decide +kernel
theorem dL_law_712 : decode cL_law 712 = .ok (.aload_n 0, 1) := by decide +kernel
theorem dL_law_713 : decode cL_law 713 = .ok (.iload_n 3, 1) := by decide +kernel
theorem dL_law_714 : decode cL_law 714 = .ok (.iconst 1, 1) := by decide +kernel
theorem dL_law_715 : decode cL_law 715 = .ok (.iadd, 1) := by decide +kernel
theorem dL_law_716 : decode cL_law 716 = .ok (.iaload, 1) := by decide +kernel
theorem dL_law_717 : decode cL_law 717 = .ok (.aload_n 0, 1) := by decide +kernel
theorem dL_law_718 : decode cL_law 718 = .ok (.iload_n 3, 1) := by decide +kernel
theorem dL_law_719 : decode cL_law 719 = .ok (.iconst 2, 1) := by decide +kernel
theorem dL_law_720 : decode cL_law 720 = .ok (.iadd, 1) := by decide +kernel
theorem dL_law_721 : decode cL_law 721 = .ok (.iaload, 1) := by decide +kernel
theorem dL_law_722 : decode cL_law 722 = .ok (.invokevirtual 95, 3) := by decide +kernel
theorem dL_law_725 : decode cL_law 725 = .ok (.if_icmp .eq 169, 3) := by decide +kernel
theorem dL_law_728 : decode cL_law 728 = .ok (.iconst 0, 1) := by decide +kernel
theorem dL_law_729 : decode cL_law 729 = .ok (.ireturn, 1) := by decide +kernel
theorem dL_law_730 : decode cL_law 730 = .ok (.aload_n 1, 1) := by decide +kernel
theorem dL_law_731 : decode cL_law 731 = .ok (.aload_n 0, 1) := by decide +kernel
theorem dL_law_732 : decode cL_law 732 = .ok (.iload_n 3, 1) := by decide +kernel
theorem dL_law_733 : decode cL_law 733 = .ok (.iconst 1, 1) := by decide +kernel
theorem dL_law_734 : decode cL_law 734 = .ok (.iadd, 1) := by decide +kernel
theorem dL_law_735 : decode cL_law 735 = .ok (.iaload, 1) := by decide +kernel
theorem dL_law_736 : decode cL_law 736 = .ok (.invokevirtual 96, 3) := by decide +kernel
theorem dL_law_739 : decode cL_law 739 = .ok (.aload_n 2, 1) := by decide +kernel
theorem dL_law_740 : decode cL_law 740 = .ok (.aload_n 0, 1) := by decide +kernel
theorem dL_law_741 : decode cL_law 741 = .ok (.iload_n 3, 1) := by decide +kernel
theorem dL_law_742 : decode cL_law 742 = .ok (.iconst 1, 1) := by decide +kernel
theorem dL_law_743 : decode cL_law 743 = .ok (.iadd, 1) := by decide +kernel
theorem dL_law_744 : decode cL_law 744 = .ok (.iaload, 1) := by decide +kernel
theorem dL_law_745 : decode cL_law 745 = .ok (.invokevirtual 99, 3) := by decide +kernel
theorem dL_law_748 : decode cL_law 748 = .ok (.if_icmp .eq 146, 3) := by decide +kernel
theorem dL_law_751 : decode cL_law 751 = .ok (.iconst 0, 1) := by decide +kernel
theorem dL_law_752 : decode cL_law 752 = .ok (.ireturn, 1) := by decide +kernel
theorem dL_law_753 : decode cL_law 753 = .ok (.aload_n 1, 1) := by decide +kernel
theorem dL_law_754 : decode cL_law 754 = .ok (.aload_n 0, 1) := by decide +kernel
theorem dL_law_755 : decode cL_law 755 = .ok (.iload_n 3, 1) := by decide +kernel
theorem dL_law_756 : decode cL_law 756 = .ok (.iconst 1, 1) := by decide +kernel
theorem dL_law_757 : decode cL_law 757 = .ok (.iadd, 1) := by decide +kernel
theorem dL_law_758 : decode cL_law 758 = .ok (.iaload, 1) := by decide +kernel
theorem dL_law_759 : decode cL_law 759 = .ok (.invokevirtual 100, 3) := by decide +kernel
theorem dL_law_762 : decode cL_law 762 = .ok (.aload_n 2, 1) := by decide +kernel
theorem dL_law_763 : decode cL_law 763 = .ok (.aload_n 0, 1) := by decide +kernel
theorem dL_law_764 : decode cL_law 764 = .ok (.iload_n 3, 1) := by decide +kernel
theorem dL_law_765 : decode cL_law 765 = .ok (.iconst 1, 1) := by decide +kernel
theorem dL_law_766 : decode cL_law 766 = .ok (.iadd, 1) := by decide +kernel
theorem dL_law_767 : decode cL_law 767 = .ok (.iaload, 1) := by decide +kernel
theorem dL_law_768 : decode cL_law 768 = .ok (.invokevirtual 103, 3) := by decide +kernel
theorem dL_law_771 : decode cL_law 771 = .ok (.if_icmp .eq 123, 3) := by decide +kernel
theorem dL_law_774 : decode cL_law 774 = .ok (.iconst 0, 1) := by decide +kernel
theorem dL_law_775 : decode cL_law 775 = .ok (.ireturn, 1) := by decide +kernel
theorem dL_law_776 : decode cL_law 776 = .ok (.aload_n 1, 1) := by decide +kernel
theorem dL_law_777 : decode cL_law 777 = .ok (.invokevirtual 104, 3) := by decide +kernel
theorem dL_law_780 : decode cL_law 780 = .ok (.aload_n 2, 1) := by decide +kernel
theorem dL_law_781 : decode cL_law 781 = .ok (.invokevirtual 107, 3) := by decide +kernel
theorem dL_law_784 : decode cL_law 784 = .ok (.if_icmp .eq 110, 3) := by decide +kernel
theorem dL_law_787 : decode cL_law 787 = .ok (.iconst 0, 1) := by decide +kernel
theorem dL_law_788 : decode cL_law 788 = .ok (.ireturn, 1) := by decide +kernel
theorem dL_law_789 : decode cL_law 789 = .ok (.aload_n 1, 1) := by decide +kernel
theorem dL_law_790 : decode cL_law 790 = .ok (.invokevirtual 108, 3) := by decide +kernel
theorem dL_law_793 : decode cL_law 793 = .ok (.aload_n 2, 1) := by decide +kernel
theorem dL_law_794 : decode cL_law 794 = .ok (.invokevirtual 111, 3) := by decide +kernel
theorem dL_law_797 : decode cL_law 797 = .ok (.if_icmp .eq 97, 3) := by decide +kernel
theorem dL_law_800 : decode cL_law 800 = .ok (.iconst 0, 1) := by decide +kernel
theorem dL_law_801 : decode cL_law 801 = .ok (.ireturn, 1) := by decide +kernel
theorem dL_law_802 : decode cL_law 802 = .ok (.aload_n 1, 1) := by decide +kernel
theorem dL_law_803 : decode cL_law 803 = .ok (.aload_n 0, 1) := by decide +kernel
theorem dL_law_804 : decode cL_law 804 = .ok (.iload_n 3, 1) := by decide +kernel
theorem dL_law_805 : decode cL_law 805 = .ok (.iconst 1, 1) := by decide +kernel
theorem dL_law_806 : decode cL_law 806 = .ok (.iadd, 1) := by decide +kernel
theorem dL_law_807 : decode cL_law 807 = .ok (.iaload, 1) := by decide +kernel
theorem dL_law_808 : decode cL_law 808 = .ok (.aload_n 0, 1) := by decide +kernel
theorem dL_law_809 : decode cL_law 809 = .ok (.iload_n 3, 1) := by decide +kernel
theorem dL_law_810 : decode cL_law 810 = .ok (.iconst 2, 1) := by decide +kernel
theorem dL_law_811 : decode cL_law 811 = .ok (.iadd, 1) := by decide +kernel
theorem dL_law_812 : decode cL_law 812 = .ok (.iaload, 1) := by decide +kernel
theorem dL_law_813 : decode cL_law 813 = .ok (.aload_n 0, 1) := by decide +kernel
theorem dL_law_814 : decode cL_law 814 = .ok (.iload_n 3, 1) := by decide +kernel
theorem dL_law_815 : decode cL_law 815 = .ok (.iconst 3, 1) := by decide +kernel
theorem dL_law_816 : decode cL_law 816 = .ok (.iadd, 1) := by decide +kernel
theorem dL_law_817 : decode cL_law 817 = .ok (.iaload, 1) := by decide +kernel
theorem dL_law_818 : decode cL_law 818 = .ok (.invokevirtual 112, 3) := by decide +kernel
theorem dL_law_821 : decode cL_law 821 = .ok (.aload_n 2, 1) := by decide +kernel
theorem dL_law_822 : decode cL_law 822 = .ok (.aload_n 0, 1) := by decide +kernel
theorem dL_law_823 : decode cL_law 823 = .ok (.iload_n 3, 1) := by decide +kernel
theorem dL_law_824 : decode cL_law 824 = .ok (.iconst 1, 1) := by decide +kernel
theorem dL_law_825 : decode cL_law 825 = .ok (.iadd, 1) := by decide +kernel
theorem dL_law_826 : decode cL_law 826 = .ok (.iaload, 1) := by decide +kernel
theorem dL_law_827 : decode cL_law 827 = .ok (.aload_n 0, 1) := by decide +kernel
theorem dL_law_828 : decode cL_law 828 = .ok (.iload_n 3, 1) := by decide +kernel
theorem dL_law_829 : decode cL_law 829 = .ok (.iconst 2, 1) := by decide +kernel
theorem dL_law_830 : decode cL_law 830 = .ok (.iadd, 1) := by decide +kernel
theorem dL_law_831 : decode cL_law 831 = .ok (.iaload, 1) := by decide +kernel
theorem dL_law_832 : decode cL_law 832 = .ok (.aload_n 0, 1) := by decide +kernel
theorem dL_law_833 : decode cL_law 833 = .ok (.iload_n 3, 1) := by decide +kernel
theorem dL_law_834 : decode cL_law 834 = .ok (.iconst 3, 1) := by decide +kernel
theorem dL_law_835 : decode cL_law 835 = .ok (.iadd, 1) := by decide +kernel
theorem dL_law_836 : decode cL_law 836 = .ok (.iaload, 1) := by decide +kernel
theorem dL_law_837 : decode cL_law 837 = .ok (.invokevirtual 116, 3) := by decide +kernel
theorem dL_law_840 : decode cL_law 840 = .ok (.if_icmp .eq 54, 3) := by decide +kernel
theorem dL_law_843 : decode cL_law 843 = .ok (.iconst 0, 1) := by decide +kernel
theorem dL_law_844 : decode cL_law 844 = .ok (.ireturn, 1) := by decide +kernel
theorem dL_law_845 : decode cL_law 845 = .ok (.aload_n 1, 1) := by decide +kernel
theorem dL_law_846 : decode cL_law 846 = .ok (.invokevirtual 117, 3) := by decide +kernel
theorem dL_law_849 : decode cL_law 849 = .ok (.aload_n 2, 1) := by decide +kernel
theorem dL_law_850 : decode cL_law 850 = .ok (.invokevirtual 120, 3) := by decide +kernel
theorem dL_law_853 : decode cL_law 853 = .ok (.if_icmp .eq 41, 3) := by decide +kernel
theorem dL_law_856 : decode cL_law 856 = .ok (.iconst 0, 1) := by decide +kernel
theorem dL_law_857 : decode cL_law 857 = .ok (.ireturn, 1) := by decide +kernel
theorem dL_law_858 : decode cL_law 858 = .ok (.aload_n 1, 1) := by decide +kernel
theorem dL_law_859 : decode cL_law 859 = .ok (.invokevirtual 121, 3) := by decide +kernel
theorem dL_law_862 : decode cL_law 862 = .ok (.aload_n 2, 1) := by decide +kernel
theorem dL_law_863 : decode cL_law 863 = .ok (.invokevirtual 124, 3) := by decide +kernel
theorem dL_law_866 : decode cL_law 866 = .ok (.if_icmp .eq 28, 3) := by decide +kernel
theorem dL_law_869 : decode cL_law 869 = .ok (.iconst 0, 1) := by decide +kernel
theorem dL_law_870 : decode cL_law 870 = .ok (.ireturn, 1) := by decide +kernel
theorem dL_law_871 : decode cL_law 871 = .ok (.aload_n 1, 1) := by decide +kernel
theorem dL_law_872 : decode cL_law 872 = .ok (.aload_n 0, 1) := by decide +kernel
theorem dL_law_873 : decode cL_law 873 = .ok (.iload_n 3, 1) := by decide +kernel
theorem dL_law_874 : decode cL_law 874 = .ok (.iconst 1, 1) := by decide +kernel
theorem dL_law_875 : decode cL_law 875 = .ok (.iadd, 1) := by decide +kernel
theorem dL_law_876 : decode cL_law 876 = .ok (.iaload, 1) := by decide +kernel
theorem dL_law_877 : decode cL_law 877 = .ok (.invokevirtual 125, 3) := by decide +kernel
theorem dL_law_880 : decode cL_law 880 = .ok (.aload_n 2, 1) := by decide +kernel
theorem dL_law_881 : decode cL_law 881 = .ok (.aload_n 0, 1) := by decide +kernel
theorem dL_law_882 : decode cL_law 882 = .ok (.iload_n 3, 1) := by decide +kernel
theorem dL_law_883 : decode cL_law 883 = .ok (.iconst 1, 1) := by decide +kernel
theorem dL_law_884 : decode cL_law 884 = .ok (.iadd, 1) := by decide +kernel
theorem dL_law_885 : decode cL_law 885 = .ok (.iaload, 1) := by decide +kernel
theorem dL_law_886 : decode cL_law 886 = .ok (.invokevirtual 128, 3) := by decide +kernel
theorem dL_law_889 : decode cL_law 889 = .ok (.if_icmp .eq 5, 3) := by decide +kernel
theorem dL_law_892 : decode cL_law 892 = .ok (.iconst 0, 1) := by decide +kernel
theorem dL_law_893 : decode cL_law 893 = .ok (.ireturn, 1) := by decide +kernel
theorem dL_law_894 : decode cL_law 894 = .ok (.iinc 3 4, 3) := by decide +kernel
theorem dL_law_897 : decode cL_law 897 = .ok (.goto (-879), 3) := by decide +kernel
theorem dL_law_900 : decode cL_law 900 = .ok (.iconst 1, 1) := by decide +kernel
theorem dL_law_901 : decode cL_law 901 = .ok (.ireturn, 1) := by decide +kernel
