theorem inJx145de : ∀ w ∈ wsJx145de0, w ∈ lw_tbl := by decide +kernel
theorem inJx9f9b0 : ∀ w ∈ wsJx9f9b00, w ∈ lw_tbl := by decide +kernel
theorem inJxb160c : ∀ w ∈ wsJxb160c0, w ∈ lw_tbl := by decide +kernel
theorem inJ6 : ∀ w ∈ wsJ60, w ∈ lw_tbl := by decide +kernel
theorem inJ9 : ∀ w ∈ wsJ90, w ∈ lw_tbl := by decide +kernel
theorem inJ0 : ∀ w ∈ wsJ00, w ∈ lw_tbl := by decide +kernel
theorem inJ1 : ∀ w ∈ wsJ10, w ∈ lw_tbl := by decide +kernel
theorem inJ2 : ∀ w ∈ wsJ20, w ∈ lw_tbl := by decide +kernel
theorem inJxfd54e : ∀ w ∈ wsJxfd54e0, w ∈ lw_tbl := by decide +kernel
theorem inJx3cf43 : ∀ w ∈ wsJx3cf430, w ∈ lw_tbl := by decide +kernel
theorem inJ7 : ∀ w ∈ wsJ70, w ∈ lw_tbl := by decide +kernel
theorem inJ3 : ∀ w ∈ wsJ30, w ∈ lw_tbl := by decide +kernel
theorem dX0_init_0 : decode cX0_init 0 = .ok (.aload_n 0, 1) := by decide +kernel
theorem dX0_init_1 : decode cX0_init 1 = .ok (.invokespecial 3, 3) := by decide +kernel
theorem dX0_init_4 : decode cX0_init 4 = .ok (.aload_n 0, 1) := by decide +kernel
theorem dX0_init_5 : decode cX0_init 5 = .ok (.bipush 6, 2) := by decide +kernel
theorem dX0_init_7 : decode cX0_init 7 = .ok (.newarray .int, 2) := by decide +kernel
theorem dX0_init_9 : decode cX0_init 9 = .ok (.putfield 9, 3) := by decide +kernel
theorem dX0_init_12 : decode cX0_init 12 = .ok (.aload_n 0, 1) := by decide +kernel
theorem dX0_init_13 : decode cX0_init 13 = .ok (.bipush 6, 2) := by decide +kernel
theorem dX0_init_15 : decode cX0_init 15 = .ok (.newarray .int, 2) := by decide +kernel
theorem dX0_init_17 : decode cX0_init 17 = .ok (.putfield 15, 3) := by decide +kernel
theorem dX0_init_20 : decode cX0_init 20 = .ok (.return_, 1) := by decide +kernel
theorem dX0_isFull_0 : decode cX0_isFull 0 = .ok (.aload_n 0, 1) := by decide +kernel
theorem dX0_isFull_1 : decode cX0_isFull 1 = .ok (.getfield 18, 3) := by decide +kernel
theorem dX0_isFull_4 : decode cX0_isFull 4 = .ok (.bipush 6, 2) := by decide +kernel
theorem dX0_isFull_6 : decode cX0_isFull 6 = .ok (.if_icmp .lt 7, 3) := by decide +kernel
theorem dX0_isFull_9 : decode cX0_isFull 9 = .ok (.iconst 1, 1) := by decide +kernel
theorem dX0_isFull_10 : decode cX0_isFull 10 = .ok (.goto 4, 3) := by decide +kernel
theorem dX0_isFull_13 : decode cX0_isFull 13 = .ok (.iconst 0, 1) := by decide +kernel
theorem dX0_isFull_14 : decode cX0_isFull 14 = .ok (.ireturn, 1) := by decide +kernel
set_option maxRecDepth 20000 in
theorem ggX0_add_X8_put : GoodIn wsX0_add wsX8_put := goodIn_r _ [6] (by decide +kernel) (by decide +kernel)
set_option maxRecDepth 20000 in
theorem gX0_add_X8_put_n22 : GoodIn wsX0_add (wsX8_put) := ggX0_add_X8_put
theorem dX0_add_0 : decode cX0_add 0 = .ok (.aload_n 0, 1) := by decide +kernel
theorem dX0_add_1 : decode cX0_add 1 = .ok (.getfield 9, 3) := by decide +kernel
theorem dX0_add_4 : decode cX0_add 4 = .ok (.aload_n 0, 1) := by decide +kernel
theorem dX0_add_5 : decode cX0_add 5 = .ok (.getfield 18, 3) := by decide +kernel
theorem dX0_add_8 : decode cX0_add 8 = .ok (.iload_n 1, 1) := by decide +kernel
theorem dX0_add_9 : decode cX0_add 9 = .ok (.invokestatic 22, 3) := by decide +kernel
theorem dX0_add_12 : decode cX0_add 12 = .ok (.aload_n 0, 1) := by decide +kernel
theorem dX0_add_13 : decode cX0_add 13 = .ok (.getfield 15, 3) := by decide +kernel
theorem dX0_add_16 : decode cX0_add 16 = .ok (.aload_n 0, 1) := by decide +kernel
theorem dX0_add_17 : decode cX0_add 17 = .ok (.getfield 18, 3) := by decide +kernel
theorem dX0_add_20 : decode cX0_add 20 = .ok (.iload_n 2, 1) := by decide +kernel
theorem dX0_add_21 : decode cX0_add 21 = .ok (.invokestatic 22, 3) := by decide +kernel
theorem dX0_add_24 : decode cX0_add 24 = .ok (.aload_n 0, 1) := by decide +kernel
theorem dX0_add_25 : decode cX0_add 25 = .ok (.dup, 1) := by decide +kernel
theorem dX0_add_26 : decode cX0_add 26 = .ok (.getfield 18, 3) := by decide +kernel
theorem dX0_add_29 : decode cX0_add 29 = .ok (.iconst 1, 1) := by decide +kernel
theorem dX0_add_30 : decode cX0_add 30 = .ok (.iadd, 1) := by decide +kernel
theorem dX0_add_31 : decode cX0_add 31 = .ok (.putfield 18, 3) := by decide +kernel
theorem dX0_add_34 : decode cX0_add 34 = .ok (.return_, 1) := by decide +kernel
theorem dX0_clear_0 : decode cX0_clear 0 = .ok (.aload_n 0, 1) := by decide +kernel
theorem dX0_clear_1 : decode cX0_clear 1 = .ok (.iconst 0, 1) := by decide +kernel
theorem dX0_clear_2 : decode cX0_clear 2 = .ok (.putfield 18, 3) := by decide +kernel
theorem dX0_clear_5 : decode cX0_clear 5 = .ok (.return_, 1) := by decide +kernel
set_option maxRecDepth 20000 in
theorem ggX0_agreeWith_X8_at : GoodIn wsX0_agreeWith wsX8_at := goodIn_r _ [6] (by decide +kernel) (by decide +kernel)
set_option maxRecDepth 20000 in
theorem gX0_agreeWith_X8_at_n26 : GoodIn wsX0_agreeWith (wsX8_at) := ggX0_agreeWith_X8_at
set_option maxRecDepth 20000 in
theorem ggX0_agreeWith_X8_has : GoodIn wsX0_agreeWith wsX8_has := goodIn_r _ [8] (by decide +kernel) (by decide +kernel)
set_option maxRecDepth 20000 in
theorem gX0_agreeWith_X8_has_n30 : GoodIn wsX0_agreeWith (wsX8_has) := ggX0_agreeWith_X8_has
set_option maxRecDepth 20000 in
theorem ggX0_agreeWith_X4_isAhead : GoodIn wsX0_agreeWith wsX4_isAhead := goodIn_r _ [12, 13, 4, 5, 6, 17, 18, 19, 20, 21, 22, 23] (by decide +kernel) (by decide +kernel)
set_option maxRecDepth 20000 in
theorem gX0_agreeWith_X4_isAhead_n34 : GoodIn wsX0_agreeWith (wsX4_isAhead) := ggX0_agreeWith_X4_isAhead
theorem dX0_agreeWith_0 : decode cX0_agreeWith 0 = .ok (.iconst 0, 1) := by decide +kernel
theorem dX0_agreeWith_1 : decode cX0_agreeWith 1 = .ok (.istore_n 3, 1) := by decide +kernel
theorem dX0_agreeWith_2 : decode cX0_agreeWith 2 = .ok (.iload_n 3, 1) := by decide +kernel
theorem dX0_agreeWith_3 : decode cX0_agreeWith 3 = .ok (.aload_n 0, 1) := by decide +kernel
theorem dX0_agreeWith_4 : decode cX0_agreeWith 4 = .ok (.getfield 18, 3) := by decide +kernel
theorem dX0_agreeWith_7 : decode cX0_agreeWith 7 = .ok (.if_icmp .ge 60, 3) := by decide +kernel
theorem dX0_agreeWith_10 : decode cX0_agreeWith 10 = .ok (.aload_n 0, 1) := by decide +kernel
theorem dX0_agreeWith_11 : decode cX0_agreeWith 11 = .ok (.getfield 9, 3) := by decide +kernel
theorem dX0_agreeWith_14 : decode cX0_agreeWith 14 = .ok (.iload_n 3, 1) := by decide +kernel
theorem dX0_agreeWith_15 : decode cX0_agreeWith 15 = .ok (.invokestatic 26, 3) := by decide +kernel
theorem dX0_agreeWith_18 : decode cX0_agreeWith 18 = .ok (.istore 4, 2) := by decide +kernel
theorem dX0_agreeWith_20 : decode cX0_agreeWith 20 = .ok (.aload_n 0, 1) := by decide +kernel
theorem dX0_agreeWith_21 : decode cX0_agreeWith 21 = .ok (.getfield 15, 3) := by decide +kernel
theorem dX0_agreeWith_24 : decode cX0_agreeWith 24 = .ok (.iload_n 3, 1) := by decide +kernel
theorem dX0_agreeWith_25 : decode cX0_agreeWith 25 = .ok (.invokestatic 26, 3) := by decide +kernel
theorem dX0_agreeWith_28 : decode cX0_agreeWith 28 = .ok (.istore 5, 2) := by decide +kernel
theorem dX0_agreeWith_30 : decode cX0_agreeWith 30 = .ok (.iload_n 2, 1) := by decide +kernel
theorem dX0_agreeWith_31 : decode cX0_agreeWith 31 = .ok (.iload 4, 2) := by decide +kernel
theorem dX0_agreeWith_33 : decode cX0_agreeWith 33 = .ok (.invokestatic 30, 3) := by decide +kernel
theorem dX0_agreeWith_36 : decode cX0_agreeWith 36 = .ok (.ifCond .eq 25, 3) := by decide +kernel
theorem dX0_agreeWith_39 : decode cX0_agreeWith 39 = .ok (.iload_n 2, 1) := by decide +kernel
theorem dX0_agreeWith_40 : decode cX0_agreeWith 40 = .ok (.iload 5, 2) := by decide +kernel
theorem dX0_agreeWith_42 : decode cX0_agreeWith 42 = .ok (.invokestatic 30, 3) := by decide +kernel
theorem dX0_agreeWith_45 : decode cX0_agreeWith 45 = .ok (.ifCond .eq 16, 3) := by decide +kernel
theorem dX0_agreeWith_48 : decode cX0_agreeWith 48 = .ok (.aload_n 1, 1) := by decide +kernel
theorem dX0_agreeWith_49 : decode cX0_agreeWith 49 = .ok (.iload 4, 2) := by decide +kernel
theorem dX0_agreeWith_51 : decode cX0_agreeWith 51 = .ok (.iload 5, 2) := by decide +kernel
theorem dX0_agreeWith_53 : decode cX0_agreeWith 53 = .ok (.invokevirtual 34, 3) := by decide +kernel
theorem dX0_agreeWith_56 : decode cX0_agreeWith 56 = .ok (.ifCond .ne 5, 3) := by decide +kernel
theorem dX0_agreeWith_59 : decode cX0_agreeWith 59 = .ok (.iconst 0, 1) := by decide +kernel
theorem dX0_agreeWith_60 : decode cX0_agreeWith 60 = .ok (.ireturn, 1) := by decide +kernel
theorem dX0_agreeWith_61 : decode cX0_agreeWith 61 = .ok (.iinc 3 1, 3) := by decide +kernel
theorem dX0_agreeWith_64 : decode cX0_agreeWith 64 = .ok (.goto (-62), 3) := by decide +kernel
theorem dX0_agreeWith_67 : decode cX0_agreeWith 67 = .ok (.iconst 1, 1) := by decide +kernel
theorem dX0_agreeWith_68 : decode cX0_agreeWith 68 = .ok (.ireturn, 1) := by decide +kernel
theorem dX1_init_0 : decode cX1_init 0 = .ok (.aload_n 0, 1) := by decide +kernel
theorem dX1_init_1 : decode cX1_init 1 = .ok (.invokespecial 3, 3) := by decide +kernel
theorem dX1_init_4 : decode cX1_init 4 = .ok (.aload_n 0, 1) := by decide +kernel
theorem dX1_init_5 : decode cX1_init 5 = .ok (.bipush 6, 2) := by decide +kernel
theorem dX1_init_7 : decode cX1_init 7 = .ok (.newarray .int, 2) := by decide +kernel
theorem dX1_init_9 : decode cX1_init 9 = .ok (.putfield 9, 3) := by decide +kernel
theorem dX1_init_12 : decode cX1_init 12 = .ok (.aload_n 0, 1) := by decide +kernel
theorem dX1_init_13 : decode cX1_init 13 = .ok (.aload_n 1, 1) := by decide +kernel
theorem dX1_init_14 : decode cX1_init 14 = .ok (.putfield 15, 3) := by decide +kernel
theorem dX1_init_17 : decode cX1_init 17 = .ok (.return_, 1) := by decide +kernel
set_option maxRecDepth 20000 in
theorem ggX1_begin_X8_copy : GoodIn wsX1_begin wsX8_copy := goodIn_r _ [7] (by decide +kernel) (by decide +kernel)
set_option maxRecDepth 20000 in
theorem gX1_begin_X8_copy_n24 : GoodIn wsX1_begin (wsX8_copy) := ggX1_begin_X8_copy
theorem dX1_begin_0 : decode cX1_begin 0 = .ok (.aload_n 0, 1) := by decide +kernel
theorem dX1_begin_1 : decode cX1_begin 1 = .ok (.getfield 15, 3) := by decide +kernel
theorem dX1_begin_4 : decode cX1_begin 4 = .ok (.getfield 19, 3) := by decide +kernel
theorem dX1_begin_7 : decode cX1_begin 7 = .ok (.aload_n 0, 1) := by decide +kernel
theorem dX1_begin_8 : decode cX1_begin 8 = .ok (.getfield 9, 3) := by decide +kernel
theorem dX1_begin_11 : decode cX1_begin 11 = .ok (.invokestatic 24, 3) := by decide +kernel
theorem dX1_begin_14 : decode cX1_begin 14 = .ok (.aload_n 0, 1) := by decide +kernel
theorem dX1_begin_15 : decode cX1_begin 15 = .ok (.iconst 1, 1) := by decide +kernel
theorem dX1_begin_16 : decode cX1_begin 16 = .ok (.aload_n 0, 1) := by decide +kernel
theorem dX1_begin_17 : decode cX1_begin 17 = .ok (.getfield 15, 3) := by decide +kernel
theorem dX1_begin_20 : decode cX1_begin 20 = .ok (.getfield 28, 3) := by decide +kernel
theorem dX1_begin_23 : decode cX1_begin 23 = .ok (.ishl, 1) := by decide +kernel
theorem dX1_begin_24 : decode cX1_begin 24 = .ok (.iconst 1, 1) := by decide +kernel
theorem dX1_begin_25 : decode cX1_begin 25 = .ok (.isub, 1) := by decide +kernel
theorem dX1_begin_26 : decode cX1_begin 26 = .ok (.putfield 32, 3) := by decide +kernel
theorem dX1_begin_29 : decode cX1_begin 29 = .ok (.aload_n 0, 1) := by decide +kernel
theorem dX1_begin_30 : decode cX1_begin 30 = .ok (.iconst 0, 1) := by decide +kernel
theorem dX1_begin_31 : decode cX1_begin 31 = .ok (.putfield 35, 3) := by decide +kernel
theorem dX1_begin_34 : decode cX1_begin 34 = .ok (.return_, 1) := by decide +kernel
theorem dX1_packed_0 : decode cX1_packed 0 = .ok (.lconst 0, 1) := by decide +kernel
theorem dX1_packed_1 : decode cX1_packed 1 = .ok (.lstore_n 1, 1) := by decide +kernel
theorem dX1_packed_2 : decode cX1_packed 2 = .ok (.iconst 0, 1) := by decide +kernel
theorem dX1_packed_3 : decode cX1_packed 3 = .ok (.istore_n 3, 1) := by decide +kernel
theorem dX1_packed_4 : decode cX1_packed 4 = .ok (.iload_n 3, 1) := by decide +kernel
theorem dX1_packed_5 : decode cX1_packed 5 = .ok (.aload_n 0, 1) := by decide +kernel
theorem dX1_packed_6 : decode cX1_packed 6 = .ok (.getfield 9, 3) := by decide +kernel
theorem dX1_packed_9 : decode cX1_packed 9 = .ok (.arraylength, 1) := by decide +kernel
theorem dX1_packed_10 : decode cX1_packed 10 = .ok (.if_icmp .ge 21, 3) := by decide +kernel
theorem dX1_packed_13 : decode cX1_packed 13 = .ok (.lload_n 1, 1) := by decide +kernel
theorem dX1_packed_14 : decode cX1_packed 14 = .ok (.iconst 4, 1) := by decide +kernel
theorem dX1_packed_15 : decode cX1_packed 15 = .ok (.lshl, 1) := by decide +kernel
theorem dX1_packed_16 : decode cX1_packed 16 = .ok (.aload_n 0, 1) := by decide +kernel
theorem dX1_packed_17 : decode cX1_packed 17 = .ok (.getfield 9, 3) := by decide +kernel
theorem dX1_packed_20 : decode cX1_packed 20 = .ok (.iload_n 3, 1) := by decide +kernel
theorem dX1_packed_21 : decode cX1_packed 21 = .ok (.iaload, 1) := by decide +kernel
theorem dX1_packed_22 : decode cX1_packed 22 = .ok (.i2l, 1) := by decide +kernel
theorem dX1_packed_23 : decode cX1_packed 23 = .ok (.lor, 1) := by decide +kernel
theorem dX1_packed_24 : decode cX1_packed 24 = .ok (.lstore_n 1, 1) := by decide +kernel
theorem dX1_packed_25 : decode cX1_packed 25 = .ok (.iinc 3 1, 3) := by decide +kernel
theorem dX1_packed_28 : decode cX1_packed 28 = .ok (.goto (-24), 3) := by decide +kernel
theorem dX1_packed_31 : decode cX1_packed 31 = .ok (.lload_n 1, 1) := by decide +kernel
theorem dX1_packed_32 : decode cX1_packed 32 = .ok (.bipush 15, 2) := by decide +kernel
theorem dX1_packed_34 : decode cX1_packed 34 = .ok (.lshl, 1) := by decide +kernel
theorem dX1_packed_35 : decode cX1_packed 35 = .ok (.aload_n 0, 1) := by decide +kernel
theorem dX1_packed_36 : decode cX1_packed 36 = .ok (.getfield 35, 3) := by decide +kernel
theorem dX1_packed_39 : decode cX1_packed 39 = .ok (.bipush 6, 2) := by decide +kernel
theorem dX1_packed_41 : decode cX1_packed 41 = .ok (.ishl, 1) := by decide +kernel
theorem dX1_packed_42 : decode cX1_packed 42 = .ok (.i2l, 1) := by decide +kernel
theorem dX1_packed_43 : decode cX1_packed 43 = .ok (.lor, 1) := by decide +kernel
theorem dX1_packed_44 : decode cX1_packed 44 = .ok (.aload_n 0, 1) := by decide +kernel
theorem dX1_packed_45 : decode cX1_packed 45 = .ok (.getfield 32, 3) := by decide +kernel
theorem dX1_packed_48 : decode cX1_packed 48 = .ok (.i2l, 1) := by decide +kernel
theorem dX1_packed_49 : decode cX1_packed 49 = .ok (.lor, 1) := by decide +kernel
theorem dX1_packed_50 : decode cX1_packed 50 = .ok (.lreturn, 1) := by decide +kernel
set_option maxRecDepth 20000 in
theorem ggX1_unpack_X1_lowBits : GoodIn wsX1_unpack wsX1_lowBits := goodIn_r _ [7] (by decide +kernel) (by decide +kernel)
set_option maxRecDepth 20000 in
theorem gX1_unpack_X1_lowBits : GoodIn wsX1_unpack (va_wsS RX1 38 yX1_lowBits wsX1_lowBits) := goodIn_app (goodIn_of _ (by decide +kernel)) ggX1_unpack_X1_lowBits
theorem dX1_unpack_0 : decode cX1_unpack 0 = .ok (.aload_n 0, 1) := by decide +kernel
theorem dX1_unpack_1 : decode cX1_unpack 1 = .ok (.lload_n 1, 1) := by decide +kernel
theorem dX1_unpack_2 : decode cX1_unpack 2 = .ok (.bipush 6, 2) := by decide +kernel
theorem dX1_unpack_4 : decode cX1_unpack 4 = .ok (.invokestatic 38, 3) := by decide +kernel
theorem dX1_unpack_7 : decode cX1_unpack 7 = .ok (.putfield 32, 3) := by decide +kernel
theorem dX1_unpack_10 : decode cX1_unpack 10 = .ok (.aload_n 0, 1) := by decide +kernel
theorem dX1_unpack_11 : decode cX1_unpack 11 = .ok (.lload_n 1, 1) := by decide +kernel
theorem dX1_unpack_12 : decode cX1_unpack 12 = .ok (.bipush 6, 2) := by decide +kernel
theorem dX1_unpack_14 : decode cX1_unpack 14 = .ok (.lshr, 1) := by decide +kernel
theorem dX1_unpack_15 : decode cX1_unpack 15 = .ok (.bipush 9, 2) := by decide +kernel
theorem dX1_unpack_17 : decode cX1_unpack 17 = .ok (.invokestatic 38, 3) := by decide +kernel
theorem dX1_unpack_20 : decode cX1_unpack 20 = .ok (.putfield 35, 3) := by decide +kernel
theorem dX1_unpack_23 : decode cX1_unpack 23 = .ok (.lload_n 1, 1) := by decide +kernel
theorem dX1_unpack_24 : decode cX1_unpack 24 = .ok (.bipush 15, 2) := by decide +kernel
theorem dX1_unpack_26 : decode cX1_unpack 26 = .ok (.lshr, 1) := by decide +kernel
theorem dX1_unpack_27 : decode cX1_unpack 27 = .ok (.lstore_n 3, 1) := by decide +kernel
theorem dX1_unpack_28 : decode cX1_unpack 28 = .ok (.aload_n 0, 1) := by decide +kernel
theorem dX1_unpack_29 : decode cX1_unpack 29 = .ok (.getfield 9, 3) := by decide +kernel
theorem dX1_unpack_32 : decode cX1_unpack 32 = .ok (.arraylength, 1) := by decide +kernel
theorem dX1_unpack_33 : decode cX1_unpack 33 = .ok (.iconst 1, 1) := by decide +kernel
theorem dX1_unpack_34 : decode cX1_unpack 34 = .ok (.isub, 1) := by decide +kernel
theorem dX1_unpack_35 : decode cX1_unpack 35 = .ok (.istore 5, 2) := by decide +kernel
theorem dX1_unpack_37 : decode cX1_unpack 37 = .ok (.iload 5, 2) := by decide +kernel
theorem dX1_unpack_39 : decode cX1_unpack 39 = .ok (.ifCond .lt 25, 3) := by decide +kernel
theorem dX1_unpack_42 : decode cX1_unpack 42 = .ok (.aload_n 0, 1) := by decide +kernel
theorem dX1_unpack_43 : decode cX1_unpack 43 = .ok (.getfield 9, 3) := by decide +kernel
theorem dX1_unpack_46 : decode cX1_unpack 46 = .ok (.iload 5, 2) := by decide +kernel
theorem dX1_unpack_48 : decode cX1_unpack 48 = .ok (.lload_n 3, 1) := by decide +kernel
theorem dX1_unpack_49 : decode cX1_unpack 49 = .ok (.iconst 4, 1) := by decide +kernel
theorem dX1_unpack_50 : decode cX1_unpack 50 = .ok (.invokestatic 38, 3) := by decide +kernel
theorem dX1_unpack_53 : decode cX1_unpack 53 = .ok (.iastore, 1) := by decide +kernel
theorem dX1_unpack_54 : decode cX1_unpack 54 = .ok (.lload_n 3, 1) := by decide +kernel
theorem dX1_unpack_55 : decode cX1_unpack 55 = .ok (.iconst 4, 1) := by decide +kernel
theorem dX1_unpack_56 : decode cX1_unpack 56 = .ok (.lshr, 1) := by decide +kernel
theorem dX1_unpack_57 : decode cX1_unpack 57 = .ok (.lstore_n 3, 1) := by decide +kernel
theorem dX1_unpack_58 : decode cX1_unpack 58 = .ok (.iinc 5 (-1), 3) := by decide +kernel
theorem dX1_unpack_61 : decode cX1_unpack 61 = .ok (.goto (-24), 3) := by decide +kernel
theorem dX1_unpack_64 : decode cX1_unpack 64 = .ok (.return_, 1) := by decide +kernel
theorem dX1_lowBits_0 : decode cX1_lowBits 0 = .ok (.lload_n 0, 1) := by decide +kernel
theorem dX1_lowBits_1 : decode cX1_lowBits 1 = .ok (.l2i, 1) := by decide +kernel
theorem dX1_lowBits_2 : decode cX1_lowBits 2 = .ok (.iconst 1, 1) := by decide +kernel
theorem dX1_lowBits_3 : decode cX1_lowBits 3 = .ok (.iload_n 2, 1) := by decide +kernel
theorem dX1_lowBits_4 : decode cX1_lowBits 4 = .ok (.ishl, 1) := by decide +kernel
theorem dX1_lowBits_5 : decode cX1_lowBits 5 = .ok (.iconst 1, 1) := by decide +kernel
theorem dX1_lowBits_6 : decode cX1_lowBits 6 = .ok (.isub, 1) := by decide +kernel
theorem dX1_lowBits_7 : decode cX1_lowBits 7 = .ok (.iand, 1) := by decide +kernel
theorem dX1_lowBits_8 : decode cX1_lowBits 8 = .ok (.ireturn, 1) := by decide +kernel
set_option maxRecDepth 20000 in
theorem ggX1_wakingOf_X8_at : GoodIn wsX1_wakingOf wsX8_at := goodIn_r _ [5] (by decide +kernel) (by decide +kernel)
set_option maxRecDepth 20000 in
theorem gX1_wakingOf_X8_at_n45 : GoodIn wsX1_wakingOf (wsX8_at) := ggX1_wakingOf_X8_at
theorem dX1_wakingOf_0 : decode cX1_wakingOf 0 = .ok (.aload_n 0, 1) := by decide +kernel
theorem dX1_wakingOf_1 : decode cX1_wakingOf 1 = .ok (.getfield 15, 3) := by decide +kernel
theorem dX1_wakingOf_4 : decode cX1_wakingOf 4 = .ok (.getfield 42, 3) := by decide +kernel
theorem dX1_wakingOf_7 : decode cX1_wakingOf 7 = .ok (.iload_n 1, 1) := by decide +kernel
theorem dX1_wakingOf_8 : decode cX1_wakingOf 8 = .ok (.invokestatic 45, 3) := by decide +kernel
theorem dX1_wakingOf_11 : decode cX1_wakingOf 11 = .ok (.tableswitch 40 1 3 #[25, 27, 29], 25) := by decide +kernel
theorem dX1_wakingOf_36 : decode cX1_wakingOf 36 = .ok (.iconst 3, 1) := by decide +kernel
theorem dX1_wakingOf_37 : decode cX1_wakingOf 37 = .ok (.ireturn, 1) := by decide +kernel
theorem dX1_wakingOf_38 : decode cX1_wakingOf 38 = .ok (.iconst 0, 1) := by decide +kernel
theorem dX1_wakingOf_39 : decode cX1_wakingOf 39 = .ok (.ireturn, 1) := by decide +kernel
theorem dX1_wakingOf_40 : decode cX1_wakingOf 40 = .ok (.iconst 2, 1) := by decide +kernel
theorem dX1_wakingOf_41 : decode cX1_wakingOf 41 = .ok (.aload_n 0, 1) := by decide +kernel
theorem dX1_wakingOf_42 : decode cX1_wakingOf 42 = .ok (.getfield 9, 3) := by decide +kernel
theorem dX1_wakingOf_45 : decode cX1_wakingOf 45 = .ok (.iload_n 1, 1) := by decide +kernel
theorem dX1_wakingOf_46 : decode cX1_wakingOf 46 = .ok (.invokestatic 45, 3) := by decide +kernel
theorem dX1_wakingOf_49 : decode cX1_wakingOf 49 = .ok (.iadd, 1) := by decide +kernel
theorem dX1_wakingOf_50 : decode cX1_wakingOf 50 = .ok (.ireturn, 1) := by decide +kernel
theorem dX1_wakingOf_51 : decode cX1_wakingOf 51 = .ok (.iconst 1, 1) := by decide +kernel
theorem dX1_wakingOf_52 : decode cX1_wakingOf 52 = .ok (.ireturn, 1) := by decide +kernel
set_option maxRecDepth 20000 in
theorem ggX1_stands_X8_at : GoodIn wsX1_stands wsX8_at := goodIn_r _ [6] (by decide +kernel) (by decide +kernel)
set_option maxRecDepth 20000 in
theorem gX1_stands_X8_at_n45 : GoodIn wsX1_stands (wsX8_at) := ggX1_stands_X8_at
set_option maxRecDepth 20000 in
theorem ggX1_stands_X8_has : GoodIn wsX1_stands wsX8_has := goodIn_r _ [8] (by decide +kernel) (by decide +kernel)
set_option maxRecDepth 20000 in
theorem gX1_stands_X8_has_n52 : GoodIn wsX1_stands (wsX8_has) := ggX1_stands_X8_has
theorem dX1_stands_0 : decode cX1_stands 0 = .ok (.aload_n 0, 1) := by decide +kernel
theorem dX1_stands_1 : decode cX1_stands 1 = .ok (.getfield 15, 3) := by decide +kernel
theorem dX1_stands_4 : decode cX1_stands 4 = .ok (.getfield 49, 3) := by decide +kernel
theorem dX1_stands_7 : decode cX1_stands 7 = .ok (.iload_n 1, 1) := by decide +kernel
theorem dX1_stands_8 : decode cX1_stands 8 = .ok (.invokestatic 45, 3) := by decide +kernel
theorem dX1_stands_11 : decode cX1_stands 11 = .ok (.aload_n 0, 1) := by decide +kernel
theorem dX1_stands_12 : decode cX1_stands 12 = .ok (.getfield 32, 3) := by decide +kernel
theorem dX1_stands_15 : decode cX1_stands 15 = .ok (.iconst (-1), 1) := by decide +kernel
theorem dX1_stands_16 : decode cX1_stands 16 = .ok (.ixor, 1) := by decide +kernel
theorem dX1_stands_17 : decode cX1_stands 17 = .ok (.iand, 1) := by decide +kernel
theorem dX1_stands_18 : decode cX1_stands 18 = .ok (.ifCond .ne 7, 3) := by decide +kernel
theorem dX1_stands_21 : decode cX1_stands 21 = .ok (.iconst 1, 1) := by decide +kernel
theorem dX1_stands_22 : decode cX1_stands 22 = .ok (.goto 4, 3) := by decide +kernel
theorem dX1_stands_25 : decode cX1_stands 25 = .ok (.iconst 0, 1) := by decide +kernel
theorem dX1_stands_26 : decode cX1_stands 26 = .ok (.istore_n 2, 1) := by decide +kernel
theorem dX1_stands_27 : decode cX1_stands 27 = .ok (.iload_n 2, 1) := by decide +kernel
theorem dX1_stands_28 : decode cX1_stands 28 = .ok (.ifCond .eq 18, 3) := by decide +kernel
theorem dX1_stands_31 : decode cX1_stands 31 = .ok (.aload_n 0, 1) := by decide +kernel
theorem dX1_stands_32 : decode cX1_stands 32 = .ok (.getfield 35, 3) := by decide +kernel
theorem dX1_stands_35 : decode cX1_stands 35 = .ok (.iload_n 1, 1) := by decide +kernel
theorem dX1_stands_36 : decode cX1_stands 36 = .ok (.invokestatic 52, 3) := by decide +kernel
theorem dX1_stands_39 : decode cX1_stands 39 = .ok (.ifCond .ne 7, 3) := by decide +kernel
theorem dX1_stands_42 : decode cX1_stands 42 = .ok (.iconst 1, 1) := by decide +kernel
theorem dX1_stands_43 : decode cX1_stands 43 = .ok (.goto 4, 3) := by decide +kernel
theorem dX1_stands_46 : decode cX1_stands 46 = .ok (.iconst 0, 1) := by decide +kernel
theorem dX1_stands_47 : decode cX1_stands 47 = .ok (.ireturn, 1) := by decide +kernel
set_option maxRecDepth 20000 in
theorem ggX1_standing_X1_stands : GoodIn wsX1_standing wsX1_stands := goodIn_r _ [6, 1, 7, 8, 9, 10, 11, 12, 13, 14, 15, 16, 17, 18, 19, 20, 21, 22, 23, 24, 25, 26] (by decide +kernel) (by decide +kernel)
set_option maxRecDepth 20000 in
theorem gX1_standing_X1_stands : GoodIn wsX1_standing (wsV RX1 59 RX1 yX1_stands wsX1_stands) := goodIn_app (goodIn_of _ (by decide +kernel)) ggX1_standing_X1_stands
theorem dX1_standing_0 : decode cX1_standing 0 = .ok (.iconst 0, 1) := by decide +kernel
theorem dX1_standing_1 : decode cX1_standing 1 = .ok (.istore_n 1, 1) := by decide +kernel
theorem dX1_standing_2 : decode cX1_standing 2 = .ok (.iconst 0, 1) := by decide +kernel
theorem dX1_standing_3 : decode cX1_standing 3 = .ok (.istore_n 2, 1) := by decide +kernel
theorem dX1_standing_4 : decode cX1_standing 4 = .ok (.iload_n 2, 1) := by decide +kernel
theorem dX1_standing_5 : decode cX1_standing 5 = .ok (.aload_n 0, 1) := by decide +kernel
theorem dX1_standing_6 : decode cX1_standing 6 = .ok (.getfield 15, 3) := by decide +kernel
theorem dX1_standing_9 : decode cX1_standing 9 = .ok (.getfield 56, 3) := by decide +kernel
theorem dX1_standing_12 : decode cX1_standing 12 = .ok (.if_icmp .ge 23, 3) := by decide +kernel
theorem dX1_standing_15 : decode cX1_standing 15 = .ok (.aload_n 0, 1) := by decide +kernel
theorem dX1_standing_16 : decode cX1_standing 16 = .ok (.iload_n 2, 1) := by decide +kernel
theorem dX1_standing_17 : decode cX1_standing 17 = .ok (.invokevirtual 59, 3) := by decide +kernel
theorem dX1_standing_20 : decode cX1_standing 20 = .ok (.ifCond .eq 9, 3) := by decide +kernel
theorem dX1_standing_23 : decode cX1_standing 23 = .ok (.iload_n 1, 1) := by decide +kernel
theorem dX1_standing_24 : decode cX1_standing 24 = .ok (.iconst 1, 1) := by decide +kernel
theorem dX1_standing_25 : decode cX1_standing 25 = .ok (.iload_n 2, 1) := by decide +kernel
theorem dX1_standing_26 : decode cX1_standing 26 = .ok (.ishl, 1) := by decide +kernel
theorem dX1_standing_27 : decode cX1_standing 27 = .ok (.ior, 1) := by decide +kernel
theorem dX1_standing_28 : decode cX1_standing 28 = .ok (.istore_n 1, 1) := by decide +kernel
theorem dX1_standing_29 : decode cX1_standing 29 = .ok (.iinc 2 1, 3) := by decide +kernel
theorem dX1_standing_32 : decode cX1_standing 32 = .ok (.goto (-28), 3) := by decide +kernel
theorem dX1_standing_35 : decode cX1_standing 35 = .ok (.iload_n 1, 1) := by decide +kernel
theorem dX1_standing_36 : decode cX1_standing 36 = .ok (.ireturn, 1) := by decide +kernel
set_option maxRecDepth 20000 in
theorem ggX1_notSoonerThan_X8_at : GoodIn wsX1_notSoonerThan wsX8_at := goodIn_r _ [8] (by decide +kernel) (by decide +kernel)
set_option maxRecDepth 20000 in
theorem gX1_notSoonerThan_X8_at_n45 : GoodIn wsX1_notSoonerThan (wsX8_at) := ggX1_notSoonerThan_X8_at
set_option maxRecDepth 20000 in
theorem ggX1_notSoonerThan_X1_stands : GoodIn wsX1_notSoonerThan wsX1_stands := goodIn_r _ [13, 1, 14, 15, 6, 7, 8, 16, 17, 18, 19, 20, 21, 22, 23, 24, 25, 26, 27, 28, 29, 30] (by decide +kernel) (by decide +kernel)
set_option maxRecDepth 20000 in
theorem gX1_notSoonerThan_X1_stands : GoodIn wsX1_notSoonerThan (wsV RX1 59 RX1 yX1_stands wsX1_stands) := goodIn_app (goodIn_of _ (by decide +kernel)) ggX1_notSoonerThan_X1_stands
theorem dX1_notSoonerThan_0 : decode cX1_notSoonerThan 0 = .ok (.iconst 0, 1) := by decide +kernel
theorem dX1_notSoonerThan_1 : decode cX1_notSoonerThan 1 = .ok (.istore_n 2, 1) := by decide +kernel
theorem dX1_notSoonerThan_2 : decode cX1_notSoonerThan 2 = .ok (.iconst 0, 1) := by decide +kernel
theorem dX1_notSoonerThan_3 : decode cX1_notSoonerThan 3 = .ok (.istore_n 3, 1) := by decide +kernel
theorem dX1_notSoonerThan_4 : decode cX1_notSoonerThan 4 = .ok (.iload_n 3, 1) := by decide +kernel
theorem dX1_notSoonerThan_5 : decode cX1_notSoonerThan 5 = .ok (.aload_n 0, 1) := by decide +kernel
theorem dX1_notSoonerThan_6 : decode cX1_notSoonerThan 6 = .ok (.getfield 15, 3) := by decide +kernel
theorem dX1_notSoonerThan_9 : decode cX1_notSoonerThan 9 = .ok (.getfield 56, 3) := by decide +kernel
theorem dX1_notSoonerThan_12 : decode cX1_notSoonerThan 12 = .ok (.if_icmp .ge 63, 3) := by decide +kernel
theorem dX1_notSoonerThan_15 : decode cX1_notSoonerThan 15 = .ok (.aload_n 0, 1) := by decide +kernel
theorem dX1_notSoonerThan_16 : decode cX1_notSoonerThan 16 = .ok (.getfield 15, 3) := by decide +kernel
theorem dX1_notSoonerThan_19 : decode cX1_notSoonerThan 19 = .ok (.getfield 63, 3) := by decide +kernel
theorem dX1_notSoonerThan_22 : decode cX1_notSoonerThan 22 = .ok (.iload_n 3, 1) := by decide +kernel
theorem dX1_notSoonerThan_23 : decode cX1_notSoonerThan 23 = .ok (.invokestatic 45, 3) := by decide +kernel
theorem dX1_notSoonerThan_26 : decode cX1_notSoonerThan 26 = .ok (.iconst 3, 1) := by decide +kernel
theorem dX1_notSoonerThan_27 : decode cX1_notSoonerThan 27 = .ok (.if_icmp .ne 42, 3) := by decide +kernel
theorem dX1_notSoonerThan_30 : decode cX1_notSoonerThan 30 = .ok (.aload_n 0, 1) := by decide +kernel
theorem dX1_notSoonerThan_31 : decode cX1_notSoonerThan 31 = .ok (.getfield 15, 3) := by decide +kernel
theorem dX1_notSoonerThan_34 : decode cX1_notSoonerThan 34 = .ok (.getfield 66, 3) := by decide +kernel
theorem dX1_notSoonerThan_37 : decode cX1_notSoonerThan 37 = .ok (.iload_n 3, 1) := by decide +kernel
theorem dX1_notSoonerThan_38 : decode cX1_notSoonerThan 38 = .ok (.invokestatic 45, 3) := by decide +kernel
theorem dX1_notSoonerThan_41 : decode cX1_notSoonerThan 41 = .ok (.iload_n 1, 1) := by decide +kernel
theorem dX1_notSoonerThan_42 : decode cX1_notSoonerThan 42 = .ok (.if_icmp .ne 27, 3) := by decide +kernel
theorem dX1_notSoonerThan_45 : decode cX1_notSoonerThan 45 = .ok (.aload_n 0, 1) := by decide +kernel
theorem dX1_notSoonerThan_46 : decode cX1_notSoonerThan 46 = .ok (.iload_n 3, 1) := by decide +kernel
theorem dX1_notSoonerThan_47 : decode cX1_notSoonerThan 47 = .ok (.invokevirtual 59, 3) := by decide +kernel
theorem dX1_notSoonerThan_50 : decode cX1_notSoonerThan 50 = .ok (.ifCond .eq 19, 3) := by decide +kernel
theorem dX1_notSoonerThan_53 : decode cX1_notSoonerThan 53 = .ok (.iload_n 2, 1) := by decide +kernel
theorem dX1_notSoonerThan_54 : decode cX1_notSoonerThan 54 = .ok (.aload_n 0, 1) := by decide +kernel
theorem dX1_notSoonerThan_55 : decode cX1_notSoonerThan 55 = .ok (.getfield 15, 3) := by decide +kernel
theorem dX1_notSoonerThan_58 : decode cX1_notSoonerThan 58 = .ok (.getfield 69, 3) := by decide +kernel
theorem dX1_notSoonerThan_61 : decode cX1_notSoonerThan 61 = .ok (.iload_n 3, 1) := by decide +kernel
theorem dX1_notSoonerThan_62 : decode cX1_notSoonerThan 62 = .ok (.invokestatic 45, 3) := by decide +kernel
theorem dX1_notSoonerThan_65 : decode cX1_notSoonerThan 65 = .ok (.invokestatic 72, 3) := by decide +kernel
theorem dX1_notSoonerThan_68 : decode cX1_notSoonerThan 68 = .ok (.istore_n 2, 1) := by decide +kernel
theorem dX1_notSoonerThan_69 : decode cX1_notSoonerThan 69 = .ok (.iinc 3 1, 3) := by decide +kernel
theorem dX1_notSoonerThan_72 : decode cX1_notSoonerThan 72 = .ok (.goto (-68), 3) := by decide +kernel
theorem dX1_notSoonerThan_75 : decode cX1_notSoonerThan 75 = .ok (.iload_n 2, 1) := by decide +kernel
theorem dX1_notSoonerThan_76 : decode cX1_notSoonerThan 76 = .ok (.ireturn, 1) := by decide +kernel
set_option maxRecDepth 20000 in
theorem ggX1_hangingOn_X1_rightBehind : GoodIn wsX1_hangingOn wsX1_rightBehind := goodIn_r _ [6, 1, 7, 8, 9, 10, 11, 12, 13, 14, 15, 5, 16, 17, 18, 19, 20, 21, 22, 23, 24, 25, 26, 27, 28, 29, 30, 31, 32, 33] (by decide +kernel) (by decide +kernel)
set_option maxRecDepth 20000 in
theorem gX1_hangingOn_X1_rightBehind : GoodIn wsX1_hangingOn (wsV RX1 78 RX1 yX1_rightBehind wsX1_rightBehind) := goodIn_app (goodIn_of _ (by decide +kernel)) ggX1_hangingOn_X1_rightBehind
theorem dX1_hangingOn_0 : decode cX1_hangingOn 0 = .ok (.iconst 1, 1) := by decide +kernel
theorem dX1_hangingOn_1 : decode cX1_hangingOn 1 = .ok (.iload_n 1, 1) := by decide +kernel
theorem dX1_hangingOn_2 : decode cX1_hangingOn 2 = .ok (.ishl, 1) := by decide +kernel
theorem dX1_hangingOn_3 : decode cX1_hangingOn 3 = .ok (.istore_n 2, 1) := by decide +kernel
theorem dX1_hangingOn_4 : decode cX1_hangingOn 4 = .ok (.iconst 0, 1) := by decide +kernel
theorem dX1_hangingOn_5 : decode cX1_hangingOn 5 = .ok (.istore_n 3, 1) := by decide +kernel
theorem dX1_hangingOn_6 : decode cX1_hangingOn 6 = .ok (.iload_n 3, 1) := by decide +kernel
theorem dX1_hangingOn_7 : decode cX1_hangingOn 7 = .ok (.aload_n 0, 1) := by decide +kernel
theorem dX1_hangingOn_8 : decode cX1_hangingOn 8 = .ok (.getfield 15, 3) := by decide +kernel
theorem dX1_hangingOn_11 : decode cX1_hangingOn 11 = .ok (.getfield 28, 3) := by decide +kernel
theorem dX1_hangingOn_14 : decode cX1_hangingOn 14 = .ok (.if_icmp .ge 17, 3) := by decide +kernel
theorem dX1_hangingOn_17 : decode cX1_hangingOn 17 = .ok (.iload_n 2, 1) := by decide +kernel
theorem dX1_hangingOn_18 : decode cX1_hangingOn 18 = .ok (.aload_n 0, 1) := by decide +kernel
theorem dX1_hangingOn_19 : decode cX1_hangingOn 19 = .ok (.iload_n 2, 1) := by decide +kernel
theorem dX1_hangingOn_20 : decode cX1_hangingOn 20 = .ok (.invokevirtual 78, 3) := by decide +kernel
theorem dX1_hangingOn_23 : decode cX1_hangingOn 23 = .ok (.ior, 1) := by decide +kernel
theorem dX1_hangingOn_24 : decode cX1_hangingOn 24 = .ok (.istore_n 2, 1) := by decide +kernel
theorem dX1_hangingOn_25 : decode cX1_hangingOn 25 = .ok (.iinc 3 1, 3) := by decide +kernel
theorem dX1_hangingOn_28 : decode cX1_hangingOn 28 = .ok (.goto (-22), 3) := by decide +kernel
theorem dX1_hangingOn_31 : decode cX1_hangingOn 31 = .ok (.iload_n 2, 1) := by decide +kernel
theorem dX1_hangingOn_32 : decode cX1_hangingOn 32 = .ok (.iconst 1, 1) := by decide +kernel
theorem dX1_hangingOn_33 : decode cX1_hangingOn 33 = .ok (.iload_n 1, 1) := by decide +kernel
theorem dX1_hangingOn_34 : decode cX1_hangingOn 34 = .ok (.ishl, 1) := by decide +kernel
theorem dX1_hangingOn_35 : decode cX1_hangingOn 35 = .ok (.iconst (-1), 1) := by decide +kernel
theorem dX1_hangingOn_36 : decode cX1_hangingOn 36 = .ok (.ixor, 1) := by decide +kernel
theorem dX1_hangingOn_37 : decode cX1_hangingOn 37 = .ok (.iand, 1) := by decide +kernel
theorem dX1_hangingOn_38 : decode cX1_hangingOn 38 = .ok (.ireturn, 1) := by decide +kernel
set_option maxRecDepth 20000 in
theorem ggX1_rightBehind_X8_at : GoodIn wsX1_rightBehind wsX8_at := goodIn_r _ [4] (by decide +kernel) (by decide +kernel)
set_option maxRecDepth 20000 in
theorem gX1_rightBehind_X8_at_n45 : GoodIn wsX1_rightBehind (wsX8_at) := ggX1_rightBehind_X8_at
set_option maxRecDepth 20000 in
theorem ggX1_rightBehind_X5_isOfTwo : GoodIn wsX1_rightBehind wsX5_isOfTwo := goodIn_r _ [7] (by decide +kernel) (by decide +kernel)
set_option maxRecDepth 20000 in
theorem gX1_rightBehind_X5_isOfTwo_n82 : GoodIn wsX1_rightBehind (wsX5_isOfTwo) := ggX1_rightBehind_X5_isOfTwo
set_option maxRecDepth 20000 in
theorem ggX1_rightBehind_X1_stands : GoodIn wsX1_rightBehind wsX1_stands := goodIn_r _ [12, 1, 13, 14, 2, 3, 4, 15, 16, 17, 18, 19, 20, 21, 22, 23, 24, 25, 26, 27, 28, 29] (by decide +kernel) (by decide +kernel)
set_option maxRecDepth 20000 in
theorem gX1_rightBehind_X1_stands : GoodIn wsX1_rightBehind (wsV RX1 59 RX1 yX1_stands wsX1_stands) := goodIn_app (goodIn_of _ (by decide +kernel)) ggX1_rightBehind_X1_stands
set_option maxRecDepth 20000 in
theorem ggX1_rightBehind_X8_has : GoodIn wsX1_rightBehind wsX8_has := goodIn_r _ [16] (by decide +kernel) (by decide +kernel)
set_option maxRecDepth 20000 in
theorem gX1_rightBehind_X8_has_n52 : GoodIn wsX1_rightBehind (wsX8_has) := ggX1_rightBehind_X8_has
theorem dX1_rightBehind_0 : decode cX1_rightBehind 0 = .ok (.iconst 0, 1) := by decide +kernel
theorem dX1_rightBehind_1 : decode cX1_rightBehind 1 = .ok (.istore_n 2, 1) := by decide +kernel
theorem dX1_rightBehind_2 : decode cX1_rightBehind 2 = .ok (.iconst 0, 1) := by decide +kernel
theorem dX1_rightBehind_3 : decode cX1_rightBehind 3 = .ok (.istore_n 3, 1) := by decide +kernel
theorem dX1_rightBehind_4 : decode cX1_rightBehind 4 = .ok (.iload_n 3, 1) := by decide +kernel
theorem dX1_rightBehind_5 : decode cX1_rightBehind 5 = .ok (.aload_n 0, 1) := by decide +kernel
theorem dX1_rightBehind_6 : decode cX1_rightBehind 6 = .ok (.getfield 15, 3) := by decide +kernel
theorem dX1_rightBehind_9 : decode cX1_rightBehind 9 = .ok (.getfield 56, 3) := by decide +kernel
theorem dX1_rightBehind_12 : decode cX1_rightBehind 12 = .ok (.if_icmp .ge 130, 3) := by decide +kernel
theorem dX1_rightBehind_15 : decode cX1_rightBehind 15 = .ok (.aload_n 0, 1) := by decide +kernel
theorem dX1_rightBehind_16 : decode cX1_rightBehind 16 = .ok (.getfield 15, 3) := by decide +kernel
theorem dX1_rightBehind_19 : decode cX1_rightBehind 19 = .ok (.getfield 63, 3) := by decide +kernel
theorem dX1_rightBehind_22 : decode cX1_rightBehind 22 = .ok (.iload_n 3, 1) := by decide +kernel
theorem dX1_rightBehind_23 : decode cX1_rightBehind 23 = .ok (.invokestatic 45, 3) := by decide +kernel
theorem dX1_rightBehind_26 : decode cX1_rightBehind 26 = .ok (.istore 4, 2) := by decide +kernel
theorem dX1_rightBehind_28 : decode cX1_rightBehind 28 = .ok (.iload 4, 2) := by decide +kernel
theorem dX1_rightBehind_30 : decode cX1_rightBehind 30 = .ok (.invokestatic 82, 3) := by decide +kernel
theorem dX1_rightBehind_33 : decode cX1_rightBehind 33 = .ok (.ifCond .eq 103, 3) := by decide +kernel
theorem dX1_rightBehind_36 : decode cX1_rightBehind 36 = .ok (.aload_n 0, 1) := by decide +kernel
theorem dX1_rightBehind_37 : decode cX1_rightBehind 37 = .ok (.iload_n 3, 1) := by decide +kernel
theorem dX1_rightBehind_38 : decode cX1_rightBehind 38 = .ok (.invokevirtual 59, 3) := by decide +kernel
theorem dX1_rightBehind_41 : decode cX1_rightBehind 41 = .ok (.ifCond .eq 95, 3) := by decide +kernel
theorem dX1_rightBehind_44 : decode cX1_rightBehind 44 = .ok (.iload 4, 2) := by decide +kernel
theorem dX1_rightBehind_46 : decode cX1_rightBehind 46 = .ok (.ifCond .ne 7, 3) := by decide +kernel
theorem dX1_rightBehind_49 : decode cX1_rightBehind 49 = .ok (.iconst 1, 1) := by decide +kernel
theorem dX1_rightBehind_50 : decode cX1_rightBehind 50 = .ok (.goto 4, 3) := by decide +kernel
theorem dX1_rightBehind_53 : decode cX1_rightBehind 53 = .ok (.iconst 0, 1) := by decide +kernel
theorem dX1_rightBehind_54 : decode cX1_rightBehind 54 = .ok (.istore 5, 2) := by decide +kernel
theorem dX1_rightBehind_56 : decode cX1_rightBehind 56 = .ok (.iload 5, 2) := by decide +kernel
theorem dX1_rightBehind_58 : decode cX1_rightBehind 58 = .ok (.ifCond .eq 17, 3) := by decide +kernel
theorem dX1_rightBehind_61 : decode cX1_rightBehind 61 = .ok (.aload_n 0, 1) := by decide +kernel
theorem dX1_rightBehind_62 : decode cX1_rightBehind 62 = .ok (.getfield 15, 3) := by decide +kernel
theorem dX1_rightBehind_65 : decode cX1_rightBehind 65 = .ok (.getfield 66, 3) := by decide +kernel
theorem dX1_rightBehind_68 : decode cX1_rightBehind 68 = .ok (.iload_n 3, 1) := by decide +kernel
theorem dX1_rightBehind_69 : decode cX1_rightBehind 69 = .ok (.invokestatic 45, 3) := by decide +kernel
theorem dX1_rightBehind_72 : decode cX1_rightBehind 72 = .ok (.goto 14, 3) := by decide +kernel
theorem dX1_rightBehind_75 : decode cX1_rightBehind 75 = .ok (.aload_n 0, 1) := by decide +kernel
theorem dX1_rightBehind_76 : decode cX1_rightBehind 76 = .ok (.getfield 15, 3) := by decide +kernel
theorem dX1_rightBehind_79 : decode cX1_rightBehind 79 = .ok (.getfield 69, 3) := by decide +kernel
theorem dX1_rightBehind_82 : decode cX1_rightBehind 82 = .ok (.iload_n 3, 1) := by decide +kernel
theorem dX1_rightBehind_83 : decode cX1_rightBehind 83 = .ok (.invokestatic 45, 3) := by decide +kernel
theorem dX1_rightBehind_86 : decode cX1_rightBehind 86 = .ok (.istore 6, 2) := by decide +kernel
theorem dX1_rightBehind_88 : decode cX1_rightBehind 88 = .ok (.iload 5, 2) := by decide +kernel
theorem dX1_rightBehind_90 : decode cX1_rightBehind 90 = .ok (.ifCond .eq 17, 3) := by decide +kernel
theorem dX1_rightBehind_93 : decode cX1_rightBehind 93 = .ok (.aload_n 0, 1) := by decide +kernel
theorem dX1_rightBehind_94 : decode cX1_rightBehind 94 = .ok (.getfield 15, 3) := by decide +kernel
theorem dX1_rightBehind_97 : decode cX1_rightBehind 97 = .ok (.getfield 69, 3) := by decide +kernel
theorem dX1_rightBehind_100 : decode cX1_rightBehind 100 = .ok (.iload_n 3, 1) := by decide +kernel
theorem dX1_rightBehind_101 : decode cX1_rightBehind 101 = .ok (.invokestatic 45, 3) := by decide +kernel
theorem dX1_rightBehind_104 : decode cX1_rightBehind 104 = .ok (.goto 14, 3) := by decide +kernel
theorem dX1_rightBehind_107 : decode cX1_rightBehind 107 = .ok (.aload_n 0, 1) := by decide +kernel
theorem dX1_rightBehind_108 : decode cX1_rightBehind 108 = .ok (.getfield 15, 3) := by decide +kernel
theorem dX1_rightBehind_111 : decode cX1_rightBehind 111 = .ok (.getfield 66, 3) := by decide +kernel
theorem dX1_rightBehind_114 : decode cX1_rightBehind 114 = .ok (.iload_n 3, 1) := by decide +kernel
theorem dX1_rightBehind_115 : decode cX1_rightBehind 115 = .ok (.invokestatic 45, 3) := by decide +kernel
theorem dX1_rightBehind_118 : decode cX1_rightBehind 118 = .ok (.istore 7, 2) := by decide +kernel
theorem dX1_rightBehind_120 : decode cX1_rightBehind 120 = .ok (.iload_n 1, 1) := by decide +kernel
theorem dX1_rightBehind_121 : decode cX1_rightBehind 121 = .ok (.iload 6, 2) := by decide +kernel
theorem dX1_rightBehind_123 : decode cX1_rightBehind 123 = .ok (.invokestatic 52, 3) := by decide +kernel
theorem dX1_rightBehind_126 : decode cX1_rightBehind 126 = .ok (.ifCond .eq 10, 3) := by decide +kernel
theorem dX1_rightBehind_129 : decode cX1_rightBehind 129 = .ok (.iload_n 2, 1) := by decide +kernel
theorem dX1_rightBehind_130 : decode cX1_rightBehind 130 = .ok (.iconst 1, 1) := by decide +kernel
theorem dX1_rightBehind_131 : decode cX1_rightBehind 131 = .ok (.iload 7, 2) := by decide +kernel
theorem dX1_rightBehind_133 : decode cX1_rightBehind 133 = .ok (.ishl, 1) := by decide +kernel
theorem dX1_rightBehind_134 : decode cX1_rightBehind 134 = .ok (.ior, 1) := by decide +kernel
theorem dX1_rightBehind_135 : decode cX1_rightBehind 135 = .ok (.istore_n 2, 1) := by decide +kernel
theorem dX1_rightBehind_136 : decode cX1_rightBehind 136 = .ok (.iinc 3 1, 3) := by decide +kernel
theorem dX1_rightBehind_139 : decode cX1_rightBehind 139 = .ok (.goto (-135), 3) := by decide +kernel
theorem dX1_rightBehind_142 : decode cX1_rightBehind 142 = .ok (.iload_n 2, 1) := by decide +kernel
theorem dX1_rightBehind_143 : decode cX1_rightBehind 143 = .ok (.ireturn, 1) := by decide +kernel
set_option maxRecDepth 20000 in
theorem ggX1_laterEnd_X1_endOfBoots : GoodIn wsX1_laterEnd wsX1_endOfBoots := goodIn_r _ [10, 11, 2, 3, 4, 5, 12, 13, 14, 15, 16, 17, 18, 9, 19, 20, 21, 22, 23, 24, 25, 26, 27, 28, 29, 30, 31, 32, 33, 34] (by decide +kernel) (by decide +kernel)
set_option maxRecDepth 20000 in
theorem gX1_laterEnd_X1_endOfBoots : GoodIn wsX1_laterEnd (wsV RX1 85 RX1 yX1_endOfBoots wsX1_endOfBoots) := goodIn_app (goodIn_of _ (by decide +kernel)) ggX1_laterEnd_X1_endOfBoots
theorem dX1_laterEnd_0 : decode cX1_laterEnd 0 = .ok (.aload_n 0, 1) := by decide +kernel
theorem dX1_laterEnd_1 : decode cX1_laterEnd 1 = .ok (.iload_n 1, 1) := by decide +kernel
theorem dX1_laterEnd_2 : decode cX1_laterEnd 2 = .ok (.invokevirtual 85, 3) := by decide +kernel
theorem dX1_laterEnd_5 : decode cX1_laterEnd 5 = .ok (.aload_n 0, 1) := by decide +kernel
theorem dX1_laterEnd_6 : decode cX1_laterEnd 6 = .ok (.aload_n 0, 1) := by decide +kernel
theorem dX1_laterEnd_7 : decode cX1_laterEnd 7 = .ok (.getfield 32, 3) := by decide +kernel
theorem dX1_laterEnd_10 : decode cX1_laterEnd 10 = .ok (.iload_n 1, 1) := by decide +kernel
theorem dX1_laterEnd_11 : decode cX1_laterEnd 11 = .ok (.iconst (-1), 1) := by decide +kernel
theorem dX1_laterEnd_12 : decode cX1_laterEnd 12 = .ok (.ixor, 1) := by decide +kernel
theorem dX1_laterEnd_13 : decode cX1_laterEnd 13 = .ok (.iand, 1) := by decide +kernel
theorem dX1_laterEnd_14 : decode cX1_laterEnd 14 = .ok (.invokevirtual 85, 3) := by decide +kernel
theorem dX1_laterEnd_17 : decode cX1_laterEnd 17 = .ok (.invokestatic 72, 3) := by decide +kernel
theorem dX1_laterEnd_20 : decode cX1_laterEnd 20 = .ok (.ireturn, 1) := by decide +kernel
set_option maxRecDepth 20000 in
theorem ggX1_endOfBoots_X8_has : GoodIn wsX1_endOfBoots wsX8_has := goodIn_r _ [9] (by decide +kernel) (by decide +kernel)
set_option maxRecDepth 20000 in
theorem gX1_endOfBoots_X8_has_n52 : GoodIn wsX1_endOfBoots (wsX8_has) := ggX1_endOfBoots_X8_has
set_option maxRecDepth 20000 in
theorem ggX1_endOfBoots_X1_wakingOf : GoodIn wsX1_endOfBoots wsX1_wakingOf := goodIn_r _ [14, 6, 1, 15, 8, 16, 17, 18, 19, 20, 21, 22, 23, 24, 25, 26, 27, 28, 29] (by decide +kernel) (by decide +kernel)
set_option maxRecDepth 20000 in
theorem gX1_endOfBoots_X1_wakingOf : GoodIn wsX1_endOfBoots (wsV RX1 88 RX1 yX1_wakingOf wsX1_wakingOf) := goodIn_app (goodIn_of _ (by decide +kernel)) ggX1_endOfBoots_X1_wakingOf
theorem dX1_endOfBoots_0 : decode cX1_endOfBoots 0 = .ok (.iconst 0, 1) := by decide +kernel
theorem dX1_endOfBoots_1 : decode cX1_endOfBoots 1 = .ok (.istore_n 2, 1) := by decide +kernel
theorem dX1_endOfBoots_2 : decode cX1_endOfBoots 2 = .ok (.iconst 0, 1) := by decide +kernel
theorem dX1_endOfBoots_3 : decode cX1_endOfBoots 3 = .ok (.istore_n 3, 1) := by decide +kernel
theorem dX1_endOfBoots_4 : decode cX1_endOfBoots 4 = .ok (.iconst 0, 1) := by decide +kernel
theorem dX1_endOfBoots_5 : decode cX1_endOfBoots 5 = .ok (.istore 4, 2) := by decide +kernel
theorem dX1_endOfBoots_7 : decode cX1_endOfBoots 7 = .ok (.iload 4, 2) := by decide +kernel
theorem dX1_endOfBoots_9 : decode cX1_endOfBoots 9 = .ok (.aload_n 0, 1) := by decide +kernel
theorem dX1_endOfBoots_10 : decode cX1_endOfBoots 10 = .ok (.getfield 9, 3) := by decide +kernel
theorem dX1_endOfBoots_13 : decode cX1_endOfBoots 13 = .ok (.arraylength, 1) := by decide +kernel
theorem dX1_endOfBoots_14 : decode cX1_endOfBoots 14 = .ok (.if_icmp .ge 39, 3) := by decide +kernel
theorem dX1_endOfBoots_17 : decode cX1_endOfBoots 17 = .ok (.iload_n 1, 1) := by decide +kernel
theorem dX1_endOfBoots_18 : decode cX1_endOfBoots 18 = .ok (.iload 4, 2) := by decide +kernel
theorem dX1_endOfBoots_20 : decode cX1_endOfBoots 20 = .ok (.invokestatic 52, 3) := by decide +kernel
theorem dX1_endOfBoots_23 : decode cX1_endOfBoots 23 = .ok (.ifCond .eq 24, 3) := by decide +kernel
theorem dX1_endOfBoots_26 : decode cX1_endOfBoots 26 = .ok (.iload_n 2, 1) := by decide +kernel
theorem dX1_endOfBoots_27 : decode cX1_endOfBoots 27 = .ok (.aload_n 0, 1) := by decide +kernel
theorem dX1_endOfBoots_28 : decode cX1_endOfBoots 28 = .ok (.getfield 9, 3) := by decide +kernel
theorem dX1_endOfBoots_31 : decode cX1_endOfBoots 31 = .ok (.iload 4, 2) := by decide +kernel
theorem dX1_endOfBoots_33 : decode cX1_endOfBoots 33 = .ok (.iaload, 1) := by decide +kernel
theorem dX1_endOfBoots_34 : decode cX1_endOfBoots 34 = .ok (.invokestatic 72, 3) := by decide +kernel
theorem dX1_endOfBoots_37 : decode cX1_endOfBoots 37 = .ok (.istore_n 2, 1) := by decide +kernel
theorem dX1_endOfBoots_38 : decode cX1_endOfBoots 38 = .ok (.iload_n 3, 1) := by decide +kernel
theorem dX1_endOfBoots_39 : decode cX1_endOfBoots 39 = .ok (.aload_n 0, 1) := by decide +kernel
theorem dX1_endOfBoots_40 : decode cX1_endOfBoots 40 = .ok (.iload 4, 2) := by decide +kernel
theorem dX1_endOfBoots_42 : decode cX1_endOfBoots 42 = .ok (.invokevirtual 88, 3) := by decide +kernel
theorem dX1_endOfBoots_45 : decode cX1_endOfBoots 45 = .ok (.iadd, 1) := by decide +kernel
theorem dX1_endOfBoots_46 : decode cX1_endOfBoots 46 = .ok (.istore_n 3, 1) := by decide +kernel
theorem dX1_endOfBoots_47 : decode cX1_endOfBoots 47 = .ok (.iinc 4 1, 3) := by decide +kernel
theorem dX1_endOfBoots_50 : decode cX1_endOfBoots 50 = .ok (.goto (-43), 3) := by decide +kernel
theorem dX1_endOfBoots_53 : decode cX1_endOfBoots 53 = .ok (.aload_n 0, 1) := by decide +kernel
theorem dX1_endOfBoots_54 : decode cX1_endOfBoots 54 = .ok (.getfield 15, 3) := by decide +kernel
theorem dX1_endOfBoots_57 : decode cX1_endOfBoots 57 = .ok (.getfield 91, 3) := by decide +kernel
theorem dX1_endOfBoots_60 : decode cX1_endOfBoots 60 = .ok (.iload_n 2, 1) := by decide +kernel
theorem dX1_endOfBoots_61 : decode cX1_endOfBoots 61 = .ok (.iadd, 1) := by decide +kernel
theorem dX1_endOfBoots_62 : decode cX1_endOfBoots 62 = .ok (.iload_n 3, 1) := by decide +kernel
theorem dX1_endOfBoots_63 : decode cX1_endOfBoots 63 = .ok (.iadd, 1) := by decide +kernel
theorem dX1_endOfBoots_64 : decode cX1_endOfBoots 64 = .ok (.ireturn, 1) := by decide +kernel
theorem dX2_init_0 : decode cX2_init 0 = .ok (.aload_n 0, 1) := by decide +kernel
theorem dX2_init_1 : decode cX2_init 1 = .ok (.invokespecial 1, 3) := by decide +kernel
theorem dX2_init_4 : decode cX2_init 4 = .ok (.aload_n 0, 1) := by decide +kernel
theorem dX2_init_5 : decode cX2_init 5 = .ok (.iload_n 1, 1) := by decide +kernel
theorem dX2_init_6 : decode cX2_init 6 = .ok (.iconst 1, 1) := by decide +kernel
theorem dX2_init_7 : decode cX2_init 7 = .ok (.if_icmp .ge 7, 3) := by decide +kernel
theorem dX2_init_10 : decode cX2_init 10 = .ok (.iconst 1, 1) := by decide +kernel
theorem dX2_init_11 : decode cX2_init 11 = .ok (.goto 4, 3) := by decide +kernel
theorem dX2_init_14 : decode cX2_init 14 = .ok (.iload_n 1, 1) := by decide +kernel
theorem dX2_init_15 : decode cX2_init 15 = .ok (.newarray .long, 2) := by decide +kernel
theorem dX2_init_17 : decode cX2_init 17 = .ok (.putfield 7, 3) := by decide +kernel
theorem dX2_init_20 : decode cX2_init 20 = .ok (.return_, 1) := by decide +kernel
theorem dX2_isFull_0 : decode cX2_isFull 0 = .ok (.aload_n 0, 1) := by decide +kernel
theorem dX2_isFull_1 : decode cX2_isFull 1 = .ok (.getfield 13, 3) := by decide +kernel
theorem dX2_isFull_4 : decode cX2_isFull 4 = .ok (.aload_n 0, 1) := by decide +kernel
theorem dX2_isFull_5 : decode cX2_isFull 5 = .ok (.getfield 7, 3) := by decide +kernel
theorem dX2_isFull_8 : decode cX2_isFull 8 = .ok (.arraylength, 1) := by decide +kernel
theorem dX2_isFull_9 : decode cX2_isFull 9 = .ok (.if_icmp .lt 7, 3) := by decide +kernel
theorem dX2_isFull_12 : decode cX2_isFull 12 = .ok (.iconst 1, 1) := by decide +kernel
theorem dX2_isFull_13 : decode cX2_isFull 13 = .ok (.goto 4, 3) := by decide +kernel
theorem dX2_isFull_16 : decode cX2_isFull 16 = .ok (.iconst 0, 1) := by decide +kernel
theorem dX2_isFull_17 : decode cX2_isFull 17 = .ok (.ireturn, 1) := by decide +kernel
set_option maxRecDepth 20000 in
theorem ggX2_add_X2_isFull : GoodIn wsX2_add wsX2_isFull := goodIn_r _ [7, 1, 2, 12, 13] (by decide +kernel) (by decide +kernel)
set_option maxRecDepth 20000 in
theorem gX2_add_X2_isFull : GoodIn wsX2_add (wsV RX2 17 RX2 yX2_isFull wsX2_isFull) := goodIn_app (goodIn_of _ (by decide +kernel)) ggX2_add_X2_isFull
set_option maxRecDepth 20000 in
theorem ggX2_add_X2_dropOldest : GoodIn wsX2_add wsX2_dropOldest := goodIn_r _ [11, 2, 1, 12, 13] (by decide +kernel) (by decide +kernel)
set_option maxRecDepth 20000 in
theorem gX2_add_X2_dropOldest : GoodIn wsX2_add (wsV RX2 21 RX2 yX2_dropOldest wsX2_dropOldest) := goodIn_app (goodIn_of _ (by decide +kernel)) ggX2_add_X2_dropOldest
theorem dX2_add_0 : decode cX2_add 0 = .ok (.aload_n 0, 1) := by decide +kernel
theorem dX2_add_1 : decode cX2_add 1 = .ok (.invokevirtual 17, 3) := by decide +kernel
theorem dX2_add_4 : decode cX2_add 4 = .ok (.ifCond .eq 7, 3) := by decide +kernel
theorem dX2_add_7 : decode cX2_add 7 = .ok (.aload_n 0, 1) := by decide +kernel
theorem dX2_add_8 : decode cX2_add 8 = .ok (.invokevirtual 21, 3) := by decide +kernel
theorem dX2_add_11 : decode cX2_add 11 = .ok (.aload_n 0, 1) := by decide +kernel
theorem dX2_add_12 : decode cX2_add 12 = .ok (.getfield 13, 3) := by decide +kernel
theorem dX2_add_15 : decode cX2_add 15 = .ok (.ifCond .lt 35, 3) := by decide +kernel
theorem dX2_add_18 : decode cX2_add 18 = .ok (.aload_n 0, 1) := by decide +kernel
theorem dX2_add_19 : decode cX2_add 19 = .ok (.getfield 13, 3) := by decide +kernel
theorem dX2_add_22 : decode cX2_add 22 = .ok (.aload_n 0, 1) := by decide +kernel
theorem dX2_add_23 : decode cX2_add 23 = .ok (.getfield 7, 3) := by decide +kernel
theorem dX2_add_26 : decode cX2_add 26 = .ok (.arraylength, 1) := by decide +kernel
theorem dX2_add_27 : decode cX2_add 27 = .ok (.if_icmp .ge 23, 3) := by decide +kernel
theorem dX2_add_30 : decode cX2_add 30 = .ok (.aload_n 0, 1) := by decide +kernel
theorem dX2_add_31 : decode cX2_add 31 = .ok (.getfield 7, 3) := by decide +kernel
theorem dX2_add_34 : decode cX2_add 34 = .ok (.aload_n 0, 1) := by decide +kernel
theorem dX2_add_35 : decode cX2_add 35 = .ok (.getfield 13, 3) := by decide +kernel
theorem dX2_add_38 : decode cX2_add 38 = .ok (.lload_n 1, 1) := by decide +kernel
theorem dX2_add_39 : decode cX2_add 39 = .ok (.lastore, 1) := by decide +kernel
theorem dX2_add_40 : decode cX2_add 40 = .ok (.aload_n 0, 1) := by decide +kernel
theorem dX2_add_41 : decode cX2_add 41 = .ok (.dup, 1) := by decide +kernel
theorem dX2_add_42 : decode cX2_add 42 = .ok (.getfield 13, 3) := by decide +kernel
theorem dX2_add_45 : decode cX2_add 45 = .ok (.iconst 1, 1) := by decide +kernel
theorem dX2_add_46 : decode cX2_add 46 = .ok (.iadd, 1) := by decide +kernel
theorem dX2_add_47 : decode cX2_add 47 = .ok (.putfield 13, 3) := by decide +kernel
theorem dX2_add_50 : decode cX2_add 50 = .ok (.return_, 1) := by decide +kernel
theorem dX2_dropOldest_0 : decode cX2_dropOldest 0 = .ok (.iconst 1, 1) := by decide +kernel
theorem dX2_dropOldest_1 : decode cX2_dropOldest 1 = .ok (.istore_n 1, 1) := by decide +kernel
theorem dX2_dropOldest_2 : decode cX2_dropOldest 2 = .ok (.iload_n 1, 1) := by decide +kernel
theorem dX2_dropOldest_3 : decode cX2_dropOldest 3 = .ok (.aload_n 0, 1) := by decide +kernel
theorem dX2_dropOldest_4 : decode cX2_dropOldest 4 = .ok (.getfield 7, 3) := by decide +kernel
theorem dX2_dropOldest_7 : decode cX2_dropOldest 7 = .ok (.arraylength, 1) := by decide +kernel
theorem dX2_dropOldest_8 : decode cX2_dropOldest 8 = .ok (.if_icmp .ge 23, 3) := by decide +kernel
theorem dX2_dropOldest_11 : decode cX2_dropOldest 11 = .ok (.aload_n 0, 1) := by decide +kernel
theorem dX2_dropOldest_12 : decode cX2_dropOldest 12 = .ok (.getfield 7, 3) := by decide +kernel
theorem dX2_dropOldest_15 : decode cX2_dropOldest 15 = .ok (.iload_n 1, 1) := by decide +kernel
theorem dX2_dropOldest_16 : decode cX2_dropOldest 16 = .ok (.iconst 1, 1) := by decide +kernel
theorem dX2_dropOldest_17 : decode cX2_dropOldest 17 = .ok (.isub, 1) := by decide +kernel
theorem dX2_dropOldest_18 : decode cX2_dropOldest 18 = .ok (.aload_n 0, 1) := by decide +kernel
theorem dX2_dropOldest_19 : decode cX2_dropOldest 19 = .ok (.getfield 7, 3) := by decide +kernel
theorem dX2_dropOldest_22 : decode cX2_dropOldest 22 = .ok (.iload_n 1, 1) := by decide +kernel
theorem dX2_dropOldest_23 : decode cX2_dropOldest 23 = .ok (.laload, 1) := by decide +kernel
theorem dX2_dropOldest_24 : decode cX2_dropOldest 24 = .ok (.lastore, 1) := by decide +kernel
theorem dX2_dropOldest_25 : decode cX2_dropOldest 25 = .ok (.iinc 1 1, 3) := by decide +kernel
theorem dX2_dropOldest_28 : decode cX2_dropOldest 28 = .ok (.goto (-26), 3) := by decide +kernel
theorem dX2_dropOldest_31 : decode cX2_dropOldest 31 = .ok (.aload_n 0, 1) := by decide +kernel
theorem dX2_dropOldest_32 : decode cX2_dropOldest 32 = .ok (.aload_n 0, 1) := by decide +kernel
theorem dX2_dropOldest_33 : decode cX2_dropOldest 33 = .ok (.getfield 7, 3) := by decide +kernel
theorem dX2_dropOldest_36 : decode cX2_dropOldest 36 = .ok (.arraylength, 1) := by decide +kernel
theorem dX2_dropOldest_37 : decode cX2_dropOldest 37 = .ok (.iconst 1, 1) := by decide +kernel
theorem dX2_dropOldest_38 : decode cX2_dropOldest 38 = .ok (.isub, 1) := by decide +kernel
theorem dX2_dropOldest_39 : decode cX2_dropOldest 39 = .ok (.putfield 13, 3) := by decide +kernel
theorem dX2_dropOldest_42 : decode cX2_dropOldest 42 = .ok (.return_, 1) := by decide +kernel
theorem dX2_takeLast_0 : decode cX2_takeLast 0 = .ok (.aload_n 0, 1) := by decide +kernel
theorem dX2_takeLast_1 : decode cX2_takeLast 1 = .ok (.getfield 13, 3) := by decide +kernel
theorem dX2_takeLast_4 : decode cX2_takeLast 4 = .ok (.iconst 1, 1) := by decide +kernel
theorem dX2_takeLast_5 : decode cX2_takeLast 5 = .ok (.if_icmp .lt 15, 3) := by decide +kernel
theorem dX2_takeLast_8 : decode cX2_takeLast 8 = .ok (.aload_n 0, 1) := by decide +kernel
theorem dX2_takeLast_9 : decode cX2_takeLast 9 = .ok (.getfield 13, 3) := by decide +kernel
theorem dX2_takeLast_12 : decode cX2_takeLast 12 = .ok (.aload_n 0, 1) := by decide +kernel
theorem dX2_takeLast_13 : decode cX2_takeLast 13 = .ok (.getfield 7, 3) := by decide +kernel
theorem dX2_takeLast_16 : decode cX2_takeLast 16 = .ok (.arraylength, 1) := by decide +kernel
theorem dX2_takeLast_17 : decode cX2_takeLast 17 = .ok (.if_icmp .le 5, 3) := by decide +kernel
theorem dX2_takeLast_20 : decode cX2_takeLast 20 = .ok (.lconst 0, 1) := by decide +kernel
theorem dX2_takeLast_21 : decode cX2_takeLast 21 = .ok (.lreturn, 1) := by decide +kernel
theorem dX2_takeLast_22 : decode cX2_takeLast 22 = .ok (.aload_n 0, 1) := by decide +kernel
theorem dX2_takeLast_23 : decode cX2_takeLast 23 = .ok (.dup, 1) := by decide +kernel
theorem dX2_takeLast_24 : decode cX2_takeLast 24 = .ok (.getfield 13, 3) := by decide +kernel
theorem dX2_takeLast_27 : decode cX2_takeLast 27 = .ok (.iconst 1, 1) := by decide +kernel
theorem dX2_takeLast_28 : decode cX2_takeLast 28 = .ok (.isub, 1) := by decide +kernel
theorem dX2_takeLast_29 : decode cX2_takeLast 29 = .ok (.putfield 13, 3) := by decide +kernel
theorem dX2_takeLast_32 : decode cX2_takeLast 32 = .ok (.aload_n 0, 1) := by decide +kernel
theorem dX2_takeLast_33 : decode cX2_takeLast 33 = .ok (.getfield 7, 3) := by decide +kernel
theorem dX2_takeLast_36 : decode cX2_takeLast 36 = .ok (.aload_n 0, 1) := by decide +kernel
theorem dX2_takeLast_37 : decode cX2_takeLast 37 = .ok (.getfield 13, 3) := by decide +kernel
theorem dX2_takeLast_40 : decode cX2_takeLast 40 = .ok (.laload, 1) := by decide +kernel
theorem dX2_takeLast_41 : decode cX2_takeLast 41 = .ok (.lreturn, 1) := by decide +kernel
theorem dX2_clear_0 : decode cX2_clear 0 = .ok (.aload_n 0, 1) := by decide +kernel
theorem dX2_clear_1 : decode cX2_clear 1 = .ok (.iconst 0, 1) := by decide +kernel
theorem dX2_clear_2 : decode cX2_clear 2 = .ok (.putfield 13, 3) := by decide +kernel
theorem dX2_clear_5 : decode cX2_clear 5 = .ok (.return_, 1) := by decide +kernel
theorem dX3_init_0 : decode cX3_init 0 = .ok (.aload_n 0, 1) := by decide +kernel
theorem dX3_init_1 : decode cX3_init 1 = .ok (.invokespecial 3, 3) := by decide +kernel
theorem dX3_init_4 : decode cX3_init 4 = .ok (.aload_n 0, 1) := by decide +kernel
theorem dX3_init_5 : decode cX3_init 5 = .ok (.aload_n 1, 1) := by decide +kernel
theorem dX3_init_6 : decode cX3_init 6 = .ok (.putfield 9, 3) := by decide +kernel
theorem dX3_init_9 : decode cX3_init 9 = .ok (.aload_n 0, 1) := by decide +kernel
theorem dX3_init_10 : decode cX3_init 10 = .ok (.aload_n 2, 1) := by decide +kernel
theorem dX3_init_11 : decode cX3_init 11 = .ok (.putfield 15, 3) := by decide +kernel
theorem dX3_init_14 : decode cX3_init 14 = .ok (.return_, 1) := by decide +kernel
set_option maxRecDepth 20000 in
theorem ggX3_readAll_X5_clear : GoodIn wsX3_readAll wsX5_clear := goodIn_r _ [7, 8, 9, 10, 65, 66, 67, 68, 69, 70, 71, 72, 73] (by decide +kernel) (by decide +kernel)
set_option maxRecDepth 20000 in
theorem gX3_readAll_X5_clear_n19 : GoodIn wsX3_readAll (wsX5_clear) := ggX3_readAll_X5_clear
set_option maxRecDepth 20000 in
theorem ggX3_readAll_X3_readItem : GoodIn wsX3_readAll wsX3_readItem := goodIn_r _ [15, 3, 2, 16, 17, 18, 19, 20, 21, 22, 23, 24, 14, 25, 26, 27, 28, 29, 30, 31, 32, 33, 34, 35, 36, 37, 1, 38, 5, 39, 40, 8, 41, 42, 43, 44, 45, 46, 47, 48, 9, 49, 50, 51, 52, 53, 54, 55, 56, 57, 58, 59, 60, 61, 62, 63, 64, 65, 66, 67, 68, 69, 70, 71, 72, 73] (by decide +kernel) (by decide +kernel)
set_option maxRecDepth 20000 in
theorem gX3_readAll_X3_readItem : GoodIn wsX3_readAll (wsV RX3 33 RX3 yX3_readItem wsX3_readItem) := goodIn_app (goodIn_of _ (by decide +kernel)) ggX3_readAll_X3_readItem
theorem dX3_readAll_0 : decode cX3_readAll 0 = .ok (.aload_n 0, 1) := by decide +kernel
theorem dX3_readAll_1 : decode cX3_readAll 1 = .ok (.getfield 15, 3) := by decide +kernel
theorem dX3_readAll_4 : decode cX3_readAll 4 = .ok (.invokevirtual 19, 3) := by decide +kernel
theorem dX3_readAll_7 : decode cX3_readAll 7 = .ok (.aload_n 0, 1) := by decide +kernel
theorem dX3_readAll_8 : decode cX3_readAll 8 = .ok (.iconst 0, 1) := by decide +kernel
theorem dX3_readAll_9 : decode cX3_readAll 9 = .ok (.putfield 24, 3) := by decide +kernel
theorem dX3_readAll_12 : decode cX3_readAll 12 = .ok (.iconst 0, 1) := by decide +kernel
theorem dX3_readAll_13 : decode cX3_readAll 13 = .ok (.istore_n 1, 1) := by decide +kernel
theorem dX3_readAll_14 : decode cX3_readAll 14 = .ok (.iload_n 1, 1) := by decide +kernel
theorem dX3_readAll_15 : decode cX3_readAll 15 = .ok (.sipush 200, 3) := by decide +kernel
theorem dX3_readAll_18 : decode cX3_readAll 18 = .ok (.if_icmp .ge 37, 3) := by decide +kernel
theorem dX3_readAll_21 : decode cX3_readAll 21 = .ok (.aload_n 0, 1) := by decide +kernel
theorem dX3_readAll_22 : decode cX3_readAll 22 = .ok (.getfield 24, 3) := by decide +kernel
theorem dX3_readAll_25 : decode cX3_readAll 25 = .ok (.aload_n 0, 1) := by decide +kernel
theorem dX3_readAll_26 : decode cX3_readAll 26 = .ok (.getfield 9, 3) := by decide +kernel
theorem dX3_readAll_29 : decode cX3_readAll 29 = .ok (.getfield 28, 3) := by decide +kernel
theorem dX3_readAll_32 : decode cX3_readAll 32 = .ok (.if_icmp .ge 23, 3) := by decide +kernel
theorem dX3_readAll_35 : decode cX3_readAll 35 = .ok (.aload_n 0, 1) := by decide +kernel
theorem dX3_readAll_36 : decode cX3_readAll 36 = .ok (.getfield 24, 3) := by decide +kernel
theorem dX3_readAll_39 : decode cX3_readAll 39 = .ok (.istore_n 2, 1) := by decide +kernel
theorem dX3_readAll_40 : decode cX3_readAll 40 = .ok (.aload_n 0, 1) := by decide +kernel
theorem dX3_readAll_41 : decode cX3_readAll 41 = .ok (.invokevirtual 33, 3) := by decide +kernel
theorem dX3_readAll_44 : decode cX3_readAll 44 = .ok (.ifCond .ne 5, 3) := by decide +kernel
theorem dX3_readAll_47 : decode cX3_readAll 47 = .ok (.iload_n 2, 1) := by decide +kernel
theorem dX3_readAll_48 : decode cX3_readAll 48 = .ok (.ireturn, 1) := by decide +kernel
theorem dX3_readAll_49 : decode cX3_readAll 49 = .ok (.iinc 1 1, 3) := by decide +kernel
theorem dX3_readAll_52 : decode cX3_readAll 52 = .ok (.goto (-38), 3) := by decide +kernel
theorem dX3_readAll_55 : decode cX3_readAll 55 = .ok (.bipush (-4), 2) := by decide +kernel
theorem dX3_readAll_57 : decode cX3_readAll 57 = .ok (.ireturn, 1) := by decide +kernel
set_option maxRecDepth 20000 in
theorem ggX3_readItem_X7_letterAt : GoodIn wsX3_readItem wsX7_letterAt := goodIn_r _ [6, 7, 8, 55, 56] (by decide +kernel) (by decide +kernel)
set_option maxRecDepth 20000 in
theorem gX3_readItem_X7_letterAt_n37 : GoodIn wsX3_readItem (wsX7_letterAt) := ggX3_readItem_X7_letterAt
set_option maxRecDepth 20000 in
theorem ggX3_readItem_X3_readNumber : GoodIn wsX3_readItem wsX3_readNumber := goodIn_r _ [13, 2, 14, 15, 16, 12, 17, 1, 3, 4, 5, 6, 7, 8, 52, 53, 54, 55, 56] (by decide +kernel) (by decide +kernel)
set_option maxRecDepth 20000 in
theorem gX3_readItem_X3_readNumber : GoodIn wsX3_readItem (wsV RX3 41 RX3 yX3_readNumber wsX3_readNumber) := goodIn_app (goodIn_of _ (by decide +kernel)) ggX3_readItem_X3_readNumber
set_option maxRecDepth 20000 in
theorem ggX3_readItem_X3_readSign : GoodIn wsX3_readItem wsX3_readSign := goodIn_r _ [21, 1, 2, 3, 4, 5, 6, 7, 8, 52, 53, 54, 55, 56] (by decide +kernel) (by decide +kernel)
set_option maxRecDepth 20000 in
theorem gX3_readItem_X3_readSign : GoodIn wsX3_readItem (wsV RX3 45 RX3 yX3_readSign wsX3_readSign) := goodIn_app (goodIn_of _ (by decide +kernel)) ggX3_readItem_X3_readSign
set_option maxRecDepth 20000 in
theorem ggX3_readItem_X3_draw : GoodIn wsX3_readItem wsX3_draw := goodIn_r _ [25, 26, 27, 28, 29, 30, 31, 32, 33, 34, 35, 36, 37, 38, 39, 40, 41, 42, 43, 44, 45, 46, 47, 48, 49, 50, 51, 52, 53, 54, 57, 58, 59, 60, 61, 62, 63, 64, 65] (by decide +kernel) (by decide +kernel)
set_option maxRecDepth 20000 in
theorem gX3_readItem_X3_draw : GoodIn wsX3_readItem (wsV RX3 49 RX3 yX3_draw wsX3_draw) := goodIn_app (goodIn_of _ (by decide +kernel)) ggX3_readItem_X3_draw
theorem dX3_readItem_0 : decode cX3_readItem 0 = .ok (.aload_n 0, 1) := by decide +kernel
theorem dX3_readItem_1 : decode cX3_readItem 1 = .ok (.getfield 9, 3) := by decide +kernel
theorem dX3_readItem_4 : decode cX3_readItem 4 = .ok (.aload_n 0, 1) := by decide +kernel
theorem dX3_readItem_5 : decode cX3_readItem 5 = .ok (.getfield 24, 3) := by decide +kernel
theorem dX3_readItem_8 : decode cX3_readItem 8 = .ok (.invokevirtual 37, 3) := by decide +kernel
theorem dX3_readItem_11 : decode cX3_readItem 11 = .ok (.istore_n 1, 1) := by decide +kernel
theorem dX3_readItem_12 : decode cX3_readItem 12 = .ok (.aload_n 0, 1) := by decide +kernel
theorem dX3_readItem_13 : decode cX3_readItem 13 = .ok (.dup, 1) := by decide +kernel
theorem dX3_readItem_14 : decode cX3_readItem 14 = .ok (.getfield 24, 3) := by decide +kernel
theorem dX3_readItem_17 : decode cX3_readItem 17 = .ok (.iconst 1, 1) := by decide +kernel
theorem dX3_readItem_18 : decode cX3_readItem 18 = .ok (.iadd, 1) := by decide +kernel
theorem dX3_readItem_19 : decode cX3_readItem 19 = .ok (.putfield 24, 3) := by decide +kernel
theorem dX3_readItem_22 : decode cX3_readItem 22 = .ok (.aload_n 0, 1) := by decide +kernel
theorem dX3_readItem_23 : decode cX3_readItem 23 = .ok (.invokevirtual 41, 3) := by decide +kernel
theorem dX3_readItem_26 : decode cX3_readItem 26 = .ok (.istore_n 2, 1) := by decide +kernel
theorem dX3_readItem_27 : decode cX3_readItem 27 = .ok (.bipush (-4), 2) := by decide +kernel
theorem dX3_readItem_29 : decode cX3_readItem 29 = .ok (.istore_n 3, 1) := by decide +kernel
theorem dX3_readItem_30 : decode cX3_readItem 30 = .ok (.iload_n 1, 1) := by decide +kernel
theorem dX3_readItem_31 : decode cX3_readItem 31 = .ok (.bipush 102, 2) := by decide +kernel
theorem dX3_readItem_33 : decode cX3_readItem 33 = .ok (.if_icmp .eq 31, 3) := by decide +kernel
theorem dX3_readItem_36 : decode cX3_readItem 36 = .ok (.iload_n 1, 1) := by decide +kernel
theorem dX3_readItem_37 : decode cX3_readItem 37 = .ok (.bipush 115, 2) := by decide +kernel
theorem dX3_readItem_39 : decode cX3_readItem 39 = .ok (.if_icmp .eq 25, 3) := by decide +kernel
theorem dX3_readItem_42 : decode cX3_readItem 42 = .ok (.aload_n 0, 1) := by decide +kernel
theorem dX3_readItem_43 : decode cX3_readItem 43 = .ok (.bipush 44, 2) := by decide +kernel
theorem dX3_readItem_45 : decode cX3_readItem 45 = .ok (.invokevirtual 45, 3) := by decide +kernel
theorem dX3_readItem_48 : decode cX3_readItem 48 = .ok (.ifCond .ne 5, 3) := by decide +kernel
theorem dX3_readItem_51 : decode cX3_readItem 51 = .ok (.iconst 0, 1) := by decide +kernel
theorem dX3_readItem_52 : decode cX3_readItem 52 = .ok (.ireturn, 1) := by decide +kernel
theorem dX3_readItem_53 : decode cX3_readItem 53 = .ok (.aload_n 0, 1) := by decide +kernel
theorem dX3_readItem_54 : decode cX3_readItem 54 = .ok (.invokevirtual 41, 3) := by decide +kernel
theorem dX3_readItem_57 : decode cX3_readItem 57 = .ok (.istore_n 3, 1) := by decide +kernel
theorem dX3_readItem_58 : decode cX3_readItem 58 = .ok (.iload_n 3, 1) := by decide +kernel
theorem dX3_readItem_59 : decode cX3_readItem 59 = .ok (.ifCond .ge 5, 3) := by decide +kernel
theorem dX3_readItem_62 : decode cX3_readItem 62 = .ok (.iconst 0, 1) := by decide +kernel
theorem dX3_readItem_63 : decode cX3_readItem 63 = .ok (.ireturn, 1) := by decide +kernel
theorem dX3_readItem_64 : decode cX3_readItem 64 = .ok (.iload_n 2, 1) := by decide +kernel
theorem dX3_readItem_65 : decode cX3_readItem 65 = .ok (.ifCond .lt 26, 3) := by decide +kernel
theorem dX3_readItem_68 : decode cX3_readItem 68 = .ok (.aload_n 0, 1) := by decide +kernel
theorem dX3_readItem_69 : decode cX3_readItem 69 = .ok (.bipush 59, 2) := by decide +kernel
theorem dX3_readItem_71 : decode cX3_readItem 71 = .ok (.invokevirtual 45, 3) := by decide +kernel
theorem dX3_readItem_74 : decode cX3_readItem 74 = .ok (.ifCond .eq 17, 3) := by decide +kernel
theorem dX3_readItem_77 : decode cX3_readItem 77 = .ok (.aload_n 0, 1) := by decide +kernel
theorem dX3_readItem_78 : decode cX3_readItem 78 = .ok (.iload_n 1, 1) := by decide +kernel
theorem dX3_readItem_79 : decode cX3_readItem 79 = .ok (.iload_n 2, 1) := by decide +kernel
theorem dX3_readItem_80 : decode cX3_readItem 80 = .ok (.iload_n 3, 1) := by decide +kernel
theorem dX3_readItem_81 : decode cX3_readItem 81 = .ok (.invokevirtual 49, 3) := by decide +kernel
theorem dX3_readItem_84 : decode cX3_readItem 84 = .ok (.ifCond .eq 7, 3) := by decide +kernel
theorem dX3_readItem_87 : decode cX3_readItem 87 = .ok (.iconst 1, 1) := by decide +kernel
theorem dX3_readItem_88 : decode cX3_readItem 88 = .ok (.goto 4, 3) := by decide +kernel
theorem dX3_readItem_91 : decode cX3_readItem 91 = .ok (.iconst 0, 1) := by decide +kernel
theorem dX3_readItem_92 : decode cX3_readItem 92 = .ok (.ireturn, 1) := by decide +kernel
set_option maxRecDepth 20000 in
theorem ggX3_readNumber_X3_figureAt : GoodIn wsX3_readNumber wsX3_figureAt := goodIn_r _ [6, 7, 8, 9, 10, 11, 12, 13, 14, 15, 16, 17, 18] (by decide +kernel) (by decide +kernel)
set_option maxRecDepth 20000 in
theorem gX3_readNumber_X3_figureAt : GoodIn wsX3_readNumber (wsV RX3 53 RX3 yX3_figureAt wsX3_figureAt) := goodIn_app (goodIn_of _ (by decide +kernel)) ggX3_readNumber_X3_figureAt
theorem dX3_readNumber_0 : decode cX3_readNumber 0 = .ok (.aload_n 0, 1) := by decide +kernel
theorem dX3_readNumber_1 : decode cX3_readNumber 1 = .ok (.aload_n 0, 1) := by decide +kernel
theorem dX3_readNumber_2 : decode cX3_readNumber 2 = .ok (.getfield 24, 3) := by decide +kernel
theorem dX3_readNumber_5 : decode cX3_readNumber 5 = .ok (.invokevirtual 53, 3) := by decide +kernel
theorem dX3_readNumber_8 : decode cX3_readNumber 8 = .ok (.istore_n 1, 1) := by decide +kernel
theorem dX3_readNumber_9 : decode cX3_readNumber 9 = .ok (.iload_n 1, 1) := by decide +kernel
theorem dX3_readNumber_10 : decode cX3_readNumber 10 = .ok (.ifCond .ge 6, 3) := by decide +kernel
theorem dX3_readNumber_13 : decode cX3_readNumber 13 = .ok (.bipush (-4), 2) := by decide +kernel
theorem dX3_readNumber_15 : decode cX3_readNumber 15 = .ok (.ireturn, 1) := by decide +kernel
theorem dX3_readNumber_16 : decode cX3_readNumber 16 = .ok (.aload_n 0, 1) := by decide +kernel
theorem dX3_readNumber_17 : decode cX3_readNumber 17 = .ok (.dup, 1) := by decide +kernel
theorem dX3_readNumber_18 : decode cX3_readNumber 18 = .ok (.getfield 24, 3) := by decide +kernel
theorem dX3_readNumber_21 : decode cX3_readNumber 21 = .ok (.iconst 1, 1) := by decide +kernel
theorem dX3_readNumber_22 : decode cX3_readNumber 22 = .ok (.iadd, 1) := by decide +kernel
theorem dX3_readNumber_23 : decode cX3_readNumber 23 = .ok (.putfield 24, 3) := by decide +kernel
theorem dX3_readNumber_26 : decode cX3_readNumber 26 = .ok (.aload_n 0, 1) := by decide +kernel
theorem dX3_readNumber_27 : decode cX3_readNumber 27 = .ok (.aload_n 0, 1) := by decide +kernel
theorem dX3_readNumber_28 : decode cX3_readNumber 28 = .ok (.getfield 24, 3) := by decide +kernel
theorem dX3_readNumber_31 : decode cX3_readNumber 31 = .ok (.invokevirtual 53, 3) := by decide +kernel
theorem dX3_readNumber_34 : decode cX3_readNumber 34 = .ok (.istore_n 2, 1) := by decide +kernel
theorem dX3_readNumber_35 : decode cX3_readNumber 35 = .ok (.iload_n 2, 1) := by decide +kernel
theorem dX3_readNumber_36 : decode cX3_readNumber 36 = .ok (.ifCond .lt 20, 3) := by decide +kernel
theorem dX3_readNumber_39 : decode cX3_readNumber 39 = .ok (.bipush 10, 2) := by decide +kernel
theorem dX3_readNumber_41 : decode cX3_readNumber 41 = .ok (.iload_n 1, 1) := by decide +kernel
theorem dX3_readNumber_42 : decode cX3_readNumber 42 = .ok (.imul, 1) := by decide +kernel
theorem dX3_readNumber_43 : decode cX3_readNumber 43 = .ok (.iload_n 2, 1) := by decide +kernel
theorem dX3_readNumber_44 : decode cX3_readNumber 44 = .ok (.iadd, 1) := by decide +kernel
theorem dX3_readNumber_45 : decode cX3_readNumber 45 = .ok (.istore_n 1, 1) := by decide +kernel
theorem dX3_readNumber_46 : decode cX3_readNumber 46 = .ok (.aload_n 0, 1) := by decide +kernel
theorem dX3_readNumber_47 : decode cX3_readNumber 47 = .ok (.dup, 1) := by decide +kernel
theorem dX3_readNumber_48 : decode cX3_readNumber 48 = .ok (.getfield 24, 3) := by decide +kernel
theorem dX3_readNumber_51 : decode cX3_readNumber 51 = .ok (.iconst 1, 1) := by decide +kernel
theorem dX3_readNumber_52 : decode cX3_readNumber 52 = .ok (.iadd, 1) := by decide +kernel
theorem dX3_readNumber_53 : decode cX3_readNumber 53 = .ok (.putfield 24, 3) := by decide +kernel
theorem dX3_readNumber_56 : decode cX3_readNumber 56 = .ok (.iload_n 1, 1) := by decide +kernel
theorem dX3_readNumber_57 : decode cX3_readNumber 57 = .ok (.ireturn, 1) := by decide +kernel
set_option maxRecDepth 20000 in
theorem ggX3_figureAt_X7_letterAt : GoodIn wsX3_figureAt wsX7_letterAt := goodIn_r _ [5, 6, 7, 11, 12] (by decide +kernel) (by decide +kernel)
set_option maxRecDepth 20000 in
theorem gX3_figureAt_X7_letterAt_n37 : GoodIn wsX3_figureAt (wsX7_letterAt) := ggX3_figureAt_X7_letterAt
theorem dX3_figureAt_0 : decode cX3_figureAt 0 = .ok (.aload_n 0, 1) := by decide +kernel
theorem dX3_figureAt_1 : decode cX3_figureAt 1 = .ok (.getfield 9, 3) := by decide +kernel
theorem dX3_figureAt_4 : decode cX3_figureAt 4 = .ok (.iload_n 1, 1) := by decide +kernel
theorem dX3_figureAt_5 : decode cX3_figureAt 5 = .ok (.invokevirtual 37, 3) := by decide +kernel
theorem dX3_figureAt_8 : decode cX3_figureAt 8 = .ok (.istore_n 2, 1) := by decide +kernel
theorem dX3_figureAt_9 : decode cX3_figureAt 9 = .ok (.iload_n 2, 1) := by decide +kernel
theorem dX3_figureAt_10 : decode cX3_figureAt 10 = .ok (.bipush 48, 2) := by decide +kernel
theorem dX3_figureAt_12 : decode cX3_figureAt 12 = .ok (.if_icmp .lt 16, 3) := by decide +kernel
theorem dX3_figureAt_15 : decode cX3_figureAt 15 = .ok (.iload_n 2, 1) := by decide +kernel
theorem dX3_figureAt_16 : decode cX3_figureAt 16 = .ok (.bipush 57, 2) := by decide +kernel
theorem dX3_figureAt_18 : decode cX3_figureAt 18 = .ok (.if_icmp .gt 10, 3) := by decide +kernel
theorem dX3_figureAt_21 : decode cX3_figureAt 21 = .ok (.iload_n 2, 1) := by decide +kernel
theorem dX3_figureAt_22 : decode cX3_figureAt 22 = .ok (.bipush 48, 2) := by decide +kernel
theorem dX3_figureAt_24 : decode cX3_figureAt 24 = .ok (.isub, 1) := by decide +kernel
theorem dX3_figureAt_25 : decode cX3_figureAt 25 = .ok (.goto 5, 3) := by decide +kernel
theorem dX3_figureAt_28 : decode cX3_figureAt 28 = .ok (.bipush (-4), 2) := by decide +kernel
theorem dX3_figureAt_30 : decode cX3_figureAt 30 = .ok (.ireturn, 1) := by decide +kernel
set_option maxRecDepth 20000 in
theorem ggX3_readSign_X7_letterAt : GoodIn wsX3_readSign wsX7_letterAt := goodIn_r _ [6, 7, 8, 12, 13] (by decide +kernel) (by decide +kernel)
set_option maxRecDepth 20000 in
theorem gX3_readSign_X7_letterAt_n37 : GoodIn wsX3_readSign (wsX7_letterAt) := ggX3_readSign_X7_letterAt
theorem dX3_readSign_0 : decode cX3_readSign 0 = .ok (.aload_n 0, 1) := by decide +kernel
theorem dX3_readSign_1 : decode cX3_readSign 1 = .ok (.getfield 9, 3) := by decide +kernel
theorem dX3_readSign_4 : decode cX3_readSign 4 = .ok (.aload_n 0, 1) := by decide +kernel
theorem dX3_readSign_5 : decode cX3_readSign 5 = .ok (.getfield 24, 3) := by decide +kernel
theorem dX3_readSign_8 : decode cX3_readSign 8 = .ok (.invokevirtual 37, 3) := by decide +kernel
theorem dX3_readSign_11 : decode cX3_readSign 11 = .ok (.iload_n 1, 1) := by decide +kernel
theorem dX3_readSign_12 : decode cX3_readSign 12 = .ok (.if_icmp .ne 7, 3) := by decide +kernel
theorem dX3_readSign_15 : decode cX3_readSign 15 = .ok (.iconst 1, 1) := by decide +kernel
theorem dX3_readSign_16 : decode cX3_readSign 16 = .ok (.goto 4, 3) := by decide +kernel
theorem dX3_readSign_19 : decode cX3_readSign 19 = .ok (.iconst 0, 1) := by decide +kernel
theorem dX3_readSign_20 : decode cX3_readSign 20 = .ok (.istore_n 2, 1) := by decide +kernel
theorem dX3_readSign_21 : decode cX3_readSign 21 = .ok (.aload_n 0, 1) := by decide +kernel
theorem dX3_readSign_22 : decode cX3_readSign 22 = .ok (.dup, 1) := by decide +kernel
theorem dX3_readSign_23 : decode cX3_readSign 23 = .ok (.getfield 24, 3) := by decide +kernel
theorem dX3_readSign_26 : decode cX3_readSign 26 = .ok (.iconst 1, 1) := by decide +kernel
theorem dX3_readSign_27 : decode cX3_readSign 27 = .ok (.iadd, 1) := by decide +kernel
theorem dX3_readSign_28 : decode cX3_readSign 28 = .ok (.putfield 24, 3) := by decide +kernel
theorem dX3_readSign_31 : decode cX3_readSign 31 = .ok (.iload_n 2, 1) := by decide +kernel
theorem dX3_readSign_32 : decode cX3_readSign 32 = .ok (.ireturn, 1) := by decide +kernel
set_option maxRecDepth 20000 in
theorem ggX3_draw_X5_addGuest : GoodIn wsX3_draw wsX5_addGuest := goodIn_r _ [5, 6, 7, 8, 9, 10, 11, 30, 31, 32, 33, 34, 35, 36, 37, 38] (by decide +kernel) (by decide +kernel)
set_option maxRecDepth 20000 in
theorem gX3_draw_X5_addGuest_n57 : GoodIn wsX3_draw (wsX5_addGuest) := ggX3_draw_X5_addGuest
set_option maxRecDepth 20000 in
theorem ggX3_draw_X5_addWish : GoodIn wsX3_draw wsX5_addWish := goodIn_r _ [14, 15, 16, 17, 18, 19, 20, 21, 3, 22, 23, 24, 25, 26, 6, 9, 10, 11, 30, 31, 32, 33, 34, 35, 36, 37, 38] (by decide +kernel) (by decide +kernel)
set_option maxRecDepth 20000 in
theorem gX3_draw_X5_addWish_n61 : GoodIn wsX3_draw (wsX5_addWish) := ggX3_draw_X5_addWish
theorem dX3_draw_0 : decode cX3_draw 0 = .ok (.iload_n 1, 1) := by decide +kernel
theorem dX3_draw_1 : decode cX3_draw 1 = .ok (.tableswitch 175 97 117 #[120, 109, 175, 175, 175, 131, 99, 175, 175, 175, 175, 175, 175, 143, 175, 175, 175, 175, 165, 175, 154], 99) := by decide +kernel
theorem dX3_draw_100 : decode cX3_draw 100 = .ok (.aload_n 0, 1) := by decide +kernel
theorem dX3_draw_101 : decode cX3_draw 101 = .ok (.getfield 15, 3) := by decide +kernel
theorem dX3_draw_104 : decode cX3_draw 104 = .ok (.iload_n 2, 1) := by decide +kernel
theorem dX3_draw_105 : decode cX3_draw 105 = .ok (.iload_n 3, 1) := by decide +kernel
theorem dX3_draw_106 : decode cX3_draw 106 = .ok (.invokevirtual 57, 3) := by decide +kernel
theorem dX3_draw_109 : decode cX3_draw 109 = .ok (.ireturn, 1) := by decide +kernel
theorem dX3_draw_110 : decode cX3_draw 110 = .ok (.aload_n 0, 1) := by decide +kernel
theorem dX3_draw_111 : decode cX3_draw 111 = .ok (.getfield 15, 3) := by decide +kernel
theorem dX3_draw_114 : decode cX3_draw 114 = .ok (.iconst 0, 1) := by decide +kernel
theorem dX3_draw_115 : decode cX3_draw 115 = .ok (.iload_n 2, 1) := by decide +kernel
theorem dX3_draw_116 : decode cX3_draw 116 = .ok (.iload_n 3, 1) := by decide +kernel
theorem dX3_draw_117 : decode cX3_draw 117 = .ok (.invokevirtual 61, 3) := by decide +kernel
theorem dX3_draw_120 : decode cX3_draw 120 = .ok (.ireturn, 1) := by decide +kernel
theorem dX3_draw_121 : decode cX3_draw 121 = .ok (.aload_n 0, 1) := by decide +kernel
theorem dX3_draw_122 : decode cX3_draw 122 = .ok (.getfield 15, 3) := by decide +kernel
theorem dX3_draw_125 : decode cX3_draw 125 = .ok (.iconst 1, 1) := by decide +kernel
theorem dX3_draw_126 : decode cX3_draw 126 = .ok (.iload_n 2, 1) := by decide +kernel
theorem dX3_draw_127 : decode cX3_draw 127 = .ok (.iload_n 3, 1) := by decide +kernel
theorem dX3_draw_128 : decode cX3_draw 128 = .ok (.invokevirtual 61, 3) := by decide +kernel
theorem dX3_draw_131 : decode cX3_draw 131 = .ok (.ireturn, 1) := by decide +kernel
theorem dX3_draw_132 : decode cX3_draw 132 = .ok (.aload_n 0, 1) := by decide +kernel
theorem dX3_draw_133 : decode cX3_draw 133 = .ok (.getfield 15, 3) := by decide +kernel
theorem dX3_draw_136 : decode cX3_draw 136 = .ok (.iconst 2, 1) := by decide +kernel
theorem dX3_draw_137 : decode cX3_draw 137 = .ok (.iload_n 2, 1) := by decide +kernel
theorem dX3_draw_138 : decode cX3_draw 138 = .ok (.bipush (-4), 2) := by decide +kernel
theorem dX3_draw_140 : decode cX3_draw 140 = .ok (.invokevirtual 61, 3) := by decide +kernel
theorem dX3_draw_143 : decode cX3_draw 143 = .ok (.ireturn, 1) := by decide +kernel
theorem dX3_draw_144 : decode cX3_draw 144 = .ok (.aload_n 0, 1) := by decide +kernel
theorem dX3_draw_145 : decode cX3_draw 145 = .ok (.getfield 15, 3) := by decide +kernel
theorem dX3_draw_148 : decode cX3_draw 148 = .ok (.iconst 3, 1) := by decide +kernel
theorem dX3_draw_149 : decode cX3_draw 149 = .ok (.iload_n 2, 1) := by decide +kernel
theorem dX3_draw_150 : decode cX3_draw 150 = .ok (.iload_n 3, 1) := by decide +kernel
theorem dX3_draw_151 : decode cX3_draw 151 = .ok (.invokevirtual 61, 3) := by decide +kernel
theorem dX3_draw_154 : decode cX3_draw 154 = .ok (.ireturn, 1) := by decide +kernel
theorem dX3_draw_155 : decode cX3_draw 155 = .ok (.aload_n 0, 1) := by decide +kernel
theorem dX3_draw_156 : decode cX3_draw 156 = .ok (.getfield 15, 3) := by decide +kernel
theorem dX3_draw_159 : decode cX3_draw 159 = .ok (.iconst 4, 1) := by decide +kernel
theorem dX3_draw_160 : decode cX3_draw 160 = .ok (.iload_n 2, 1) := by decide +kernel
theorem dX3_draw_161 : decode cX3_draw 161 = .ok (.iload_n 3, 1) := by decide +kernel
theorem dX3_draw_162 : decode cX3_draw 162 = .ok (.invokevirtual 61, 3) := by decide +kernel
theorem dX3_draw_165 : decode cX3_draw 165 = .ok (.ireturn, 1) := by decide +kernel
theorem dX3_draw_166 : decode cX3_draw 166 = .ok (.aload_n 0, 1) := by decide +kernel
theorem dX3_draw_167 : decode cX3_draw 167 = .ok (.getfield 15, 3) := by decide +kernel
theorem dX3_draw_170 : decode cX3_draw 170 = .ok (.iload_n 2, 1) := by decide +kernel
theorem dX3_draw_171 : decode cX3_draw 171 = .ok (.putfield 65, 3) := by decide +kernel
theorem dX3_draw_174 : decode cX3_draw 174 = .ok (.iconst 1, 1) := by decide +kernel
theorem dX3_draw_175 : decode cX3_draw 175 = .ok (.ireturn, 1) := by decide +kernel
theorem dX3_draw_176 : decode cX3_draw 176 = .ok (.iconst 0, 1) := by decide +kernel
theorem dX3_draw_177 : decode cX3_draw 177 = .ok (.ireturn, 1) := by decide +kernel
theorem dX4_init_0 : decode cX4_init 0 = .ok (.aload_n 0, 1) := by decide +kernel
theorem dX4_init_1 : decode cX4_init 1 = .ok (.invokespecial 3, 3) := by decide +kernel
theorem dX4_init_4 : decode cX4_init 4 = .ok (.aload_n 0, 1) := by decide +kernel
theorem dX4_init_5 : decode cX4_init 5 = .ok (.bipush 6, 2) := by decide +kernel
theorem dX4_init_7 : decode cX4_init 7 = .ok (.newarray .int, 2) := by decide +kernel
theorem dX4_init_9 : decode cX4_init 9 = .ok (.putfield 9, 3) := by decide +kernel
theorem dX4_init_12 : decode cX4_init 12 = .ok (.aload_n 0, 1) := by decide +kernel
theorem dX4_init_13 : decode cX4_init 13 = .ok (.bipush 6, 2) := by decide +kernel
theorem dX4_init_15 : decode cX4_init 15 = .ok (.newarray .int, 2) := by decide +kernel
theorem dX4_init_17 : decode cX4_init 17 = .ok (.putfield 15, 3) := by decide +kernel
theorem dX4_init_20 : decode cX4_init 20 = .ok (.aload_n 0, 1) := by decide +kernel
theorem dX4_init_21 : decode cX4_init 21 = .ok (.bipush 6, 2) := by decide +kernel
theorem dX4_init_23 : decode cX4_init 23 = .ok (.newarray .int, 2) := by decide +kernel
theorem dX4_init_25 : decode cX4_init 25 = .ok (.putfield 18, 3) := by decide +kernel
theorem dX4_init_28 : decode cX4_init 28 = .ok (.aload_n 0, 1) := by decide +kernel
theorem dX4_init_29 : decode cX4_init 29 = .ok (.bipush 6, 2) := by decide +kernel
theorem dX4_init_31 : decode cX4_init 31 = .ok (.newarray .int, 2) := by decide +kernel
theorem dX4_init_33 : decode cX4_init 33 = .ok (.putfield 21, 3) := by decide +kernel
theorem dX4_init_36 : decode cX4_init 36 = .ok (.aload_n 0, 1) := by decide +kernel
theorem dX4_init_37 : decode cX4_init 37 = .ok (.bipush 6, 2) := by decide +kernel
theorem dX4_init_39 : decode cX4_init 39 = .ok (.newarray .int, 2) := by decide +kernel
theorem dX4_init_41 : decode cX4_init 41 = .ok (.putfield 24, 3) := by decide +kernel
theorem dX4_init_44 : decode cX4_init 44 = .ok (.return_, 1) := by decide +kernel
set_option maxRecDepth 20000 in
theorem ggX4_beginWith_X8_has : GoodIn wsX4_beginWith wsX8_has := goodIn_r _ [7] (by decide +kernel) (by decide +kernel)
set_option maxRecDepth 20000 in
theorem gX4_beginWith_X8_has_n36 : GoodIn wsX4_beginWith (wsX8_has) := ggX4_beginWith_X8_has
set_option maxRecDepth 20000 in
theorem ggX4_beginWith_X8_put : GoodIn wsX4_beginWith wsX8_put := goodIn_r _ [9] (by decide +kernel) (by decide +kernel)
set_option maxRecDepth 20000 in
theorem gX4_beginWith_X8_put_n40 : GoodIn wsX4_beginWith (wsX8_put) := ggX4_beginWith_X8_put
set_option maxRecDepth 20000 in
theorem ggX4_beginWith_X1_notSoonerThan : GoodIn wsX4_beginWith wsX1_notSoonerThan := goodIn_r _ [13, 14, 15, 16, 17, 18, 19, 6, 20, 21, 22, 23, 11, 24, 25, 26, 5, 7, 38, 39, 40, 41, 42, 43, 44, 45, 46, 47, 48, 49, 50] (by decide +kernel) (by decide +kernel)
set_option maxRecDepth 20000 in
theorem gX4_beginWith_X1_notSoonerThan_n44 : GoodIn wsX4_beginWith (wsX1_notSoonerThan) := ggX4_beginWith_X1_notSoonerThan
set_option maxRecDepth 20000 in
theorem ggX4_beginWith_X1_wakingOf : GoodIn wsX4_beginWith wsX1_wakingOf := goodIn_r _ [29, 14, 30, 19, 6, 20, 38, 39, 40, 41, 42, 43, 44, 45, 46, 47, 48, 49, 50] (by decide +kernel) (by decide +kernel)
set_option maxRecDepth 20000 in
theorem gX4_beginWith_X1_wakingOf_n48 : GoodIn wsX4_beginWith (wsX1_wakingOf) := ggX4_beginWith_X1_wakingOf
theorem dX4_beginWith_0 : decode cX4_beginWith 0 = .ok (.aload_n 0, 1) := by decide +kernel
theorem dX4_beginWith_1 : decode cX4_beginWith 1 = .ok (.iconst 0, 1) := by decide +kernel
theorem dX4_beginWith_2 : decode cX4_beginWith 2 = .ok (.putfield 27, 3) := by decide +kernel
theorem dX4_beginWith_5 : decode cX4_beginWith 5 = .ok (.iconst 0, 1) := by decide +kernel
theorem dX4_beginWith_6 : decode cX4_beginWith 6 = .ok (.istore_n 2, 1) := by decide +kernel
theorem dX4_beginWith_7 : decode cX4_beginWith 7 = .ok (.iload_n 2, 1) := by decide +kernel
theorem dX4_beginWith_8 : decode cX4_beginWith 8 = .ok (.aload_n 0, 1) := by decide +kernel
theorem dX4_beginWith_9 : decode cX4_beginWith 9 = .ok (.getfield 9, 3) := by decide +kernel
theorem dX4_beginWith_12 : decode cX4_beginWith 12 = .ok (.arraylength, 1) := by decide +kernel
theorem dX4_beginWith_13 : decode cX4_beginWith 13 = .ok (.if_icmp .ge 68, 3) := by decide +kernel
theorem dX4_beginWith_16 : decode cX4_beginWith 16 = .ok (.aload_n 1, 1) := by decide +kernel
theorem dX4_beginWith_17 : decode cX4_beginWith 17 = .ok (.getfield 31, 3) := by decide +kernel
theorem dX4_beginWith_20 : decode cX4_beginWith 20 = .ok (.iload_n 2, 1) := by decide +kernel
theorem dX4_beginWith_21 : decode cX4_beginWith 21 = .ok (.invokestatic 36, 3) := by decide +kernel
theorem dX4_beginWith_24 : decode cX4_beginWith 24 = .ok (.ifCond .eq 25, 3) := by decide +kernel
theorem dX4_beginWith_27 : decode cX4_beginWith 27 = .ok (.aload_n 0, 1) := by decide +kernel
theorem dX4_beginWith_28 : decode cX4_beginWith 28 = .ok (.getfield 9, 3) := by decide +kernel
theorem dX4_beginWith_31 : decode cX4_beginWith 31 = .ok (.aload_n 0, 1) := by decide +kernel
theorem dX4_beginWith_32 : decode cX4_beginWith 32 = .ok (.getfield 27, 3) := by decide +kernel
theorem dX4_beginWith_35 : decode cX4_beginWith 35 = .ok (.iload_n 2, 1) := by decide +kernel
theorem dX4_beginWith_36 : decode cX4_beginWith 36 = .ok (.invokestatic 40, 3) := by decide +kernel
theorem dX4_beginWith_39 : decode cX4_beginWith 39 = .ok (.aload_n 0, 1) := by decide +kernel
theorem dX4_beginWith_40 : decode cX4_beginWith 40 = .ok (.dup, 1) := by decide +kernel
theorem dX4_beginWith_41 : decode cX4_beginWith 41 = .ok (.getfield 27, 3) := by decide +kernel
theorem dX4_beginWith_44 : decode cX4_beginWith 44 = .ok (.iconst 1, 1) := by decide +kernel
theorem dX4_beginWith_45 : decode cX4_beginWith 45 = .ok (.iadd, 1) := by decide +kernel
theorem dX4_beginWith_46 : decode cX4_beginWith 46 = .ok (.putfield 27, 3) := by decide +kernel
theorem dX4_beginWith_49 : decode cX4_beginWith 49 = .ok (.aload_n 0, 1) := by decide +kernel
theorem dX4_beginWith_50 : decode cX4_beginWith 50 = .ok (.getfield 21, 3) := by decide +kernel
theorem dX4_beginWith_53 : decode cX4_beginWith 53 = .ok (.iload_n 2, 1) := by decide +kernel
theorem dX4_beginWith_54 : decode cX4_beginWith 54 = .ok (.aload_n 1, 1) := by decide +kernel
theorem dX4_beginWith_55 : decode cX4_beginWith 55 = .ok (.iload_n 2, 1) := by decide +kernel
theorem dX4_beginWith_56 : decode cX4_beginWith 56 = .ok (.invokevirtual 44, 3) := by decide +kernel
theorem dX4_beginWith_59 : decode cX4_beginWith 59 = .ok (.invokestatic 40, 3) := by decide +kernel
theorem dX4_beginWith_62 : decode cX4_beginWith 62 = .ok (.aload_n 0, 1) := by decide +kernel
theorem dX4_beginWith_63 : decode cX4_beginWith 63 = .ok (.getfield 24, 3) := by decide +kernel
theorem dX4_beginWith_66 : decode cX4_beginWith 66 = .ok (.iload_n 2, 1) := by decide +kernel
theorem dX4_beginWith_67 : decode cX4_beginWith 67 = .ok (.aload_n 1, 1) := by decide +kernel
theorem dX4_beginWith_68 : decode cX4_beginWith 68 = .ok (.iload_n 2, 1) := by decide +kernel
theorem dX4_beginWith_69 : decode cX4_beginWith 69 = .ok (.invokevirtual 48, 3) := by decide +kernel
theorem dX4_beginWith_72 : decode cX4_beginWith 72 = .ok (.invokestatic 40, 3) := by decide +kernel
theorem dX4_beginWith_75 : decode cX4_beginWith 75 = .ok (.iinc 2 1, 3) := by decide +kernel
theorem dX4_beginWith_78 : decode cX4_beginWith 78 = .ok (.goto (-71), 3) := by decide +kernel
theorem dX4_beginWith_81 : decode cX4_beginWith 81 = .ok (.return_, 1) := by decide +kernel
set_option maxRecDepth 20000 in
theorem ggX4_turnToNext_X8_at : GoodIn wsX4_turnToNext wsX8_at := goodIn_r _ [5] (by decide +kernel) (by decide +kernel)
set_option maxRecDepth 20000 in
theorem gX4_turnToNext_X8_at_n51 : GoodIn wsX4_turnToNext (wsX8_at) := ggX4_turnToNext_X8_at
set_option maxRecDepth 20000 in
theorem ggX4_turnToNext_X4_swap : GoodIn wsX4_turnToNext wsX4_swap := goodIn_r _ [10, 2, 3, 4, 5, 11, 12, 13, 14, 15, 16, 17, 18, 19] (by decide +kernel) (by decide +kernel)
set_option maxRecDepth 20000 in
theorem gX4_turnToNext_X4_swap : GoodIn wsX4_turnToNext (wsV RX4 55 RX4 yX4_swap wsX4_swap) := goodIn_app (goodIn_of _ (by decide +kernel)) ggX4_turnToNext_X4_swap
theorem dX4_turnToNext_0 : decode cX4_turnToNext 0 = .ok (.aload_n 0, 1) := by decide +kernel
theorem dX4_turnToNext_1 : decode cX4_turnToNext 1 = .ok (.getfield 27, 3) := by decide +kernel
theorem dX4_turnToNext_4 : decode cX4_turnToNext 4 = .ok (.iconst 2, 1) := by decide +kernel
theorem dX4_turnToNext_5 : decode cX4_turnToNext 5 = .ok (.isub, 1) := by decide +kernel
theorem dX4_turnToNext_6 : decode cX4_turnToNext 6 = .ok (.istore_n 1, 1) := by decide +kernel
theorem dX4_turnToNext_7 : decode cX4_turnToNext 7 = .ok (.iload_n 1, 1) := by decide +kernel
theorem dX4_turnToNext_8 : decode cX4_turnToNext 8 = .ok (.ifCond .lt 30, 3) := by decide +kernel
theorem dX4_turnToNext_11 : decode cX4_turnToNext 11 = .ok (.aload_n 0, 1) := by decide +kernel
theorem dX4_turnToNext_12 : decode cX4_turnToNext 12 = .ok (.getfield 9, 3) := by decide +kernel
theorem dX4_turnToNext_15 : decode cX4_turnToNext 15 = .ok (.iload_n 1, 1) := by decide +kernel
theorem dX4_turnToNext_16 : decode cX4_turnToNext 16 = .ok (.invokestatic 51, 3) := by decide +kernel
theorem dX4_turnToNext_19 : decode cX4_turnToNext 19 = .ok (.aload_n 0, 1) := by decide +kernel
theorem dX4_turnToNext_20 : decode cX4_turnToNext 20 = .ok (.getfield 9, 3) := by decide +kernel
theorem dX4_turnToNext_23 : decode cX4_turnToNext 23 = .ok (.iload_n 1, 1) := by decide +kernel
theorem dX4_turnToNext_24 : decode cX4_turnToNext 24 = .ok (.iconst 1, 1) := by decide +kernel
theorem dX4_turnToNext_25 : decode cX4_turnToNext 25 = .ok (.iadd, 1) := by decide +kernel
theorem dX4_turnToNext_26 : decode cX4_turnToNext 26 = .ok (.invokestatic 51, 3) := by decide +kernel
theorem dX4_turnToNext_29 : decode cX4_turnToNext 29 = .ok (.if_icmp .le 9, 3) := by decide +kernel
theorem dX4_turnToNext_32 : decode cX4_turnToNext 32 = .ok (.iinc 1 (-1), 3) := by decide +kernel
theorem dX4_turnToNext_35 : decode cX4_turnToNext 35 = .ok (.goto (-28), 3) := by decide +kernel
theorem dX4_turnToNext_38 : decode cX4_turnToNext 38 = .ok (.iload_n 1, 1) := by decide +kernel
theorem dX4_turnToNext_39 : decode cX4_turnToNext 39 = .ok (.ifCond .ge 5, 3) := by decide +kernel
theorem dX4_turnToNext_42 : decode cX4_turnToNext 42 = .ok (.iconst 0, 1) := by decide +kernel
theorem dX4_turnToNext_43 : decode cX4_turnToNext 43 = .ok (.ireturn, 1) := by decide +kernel
theorem dX4_turnToNext_44 : decode cX4_turnToNext 44 = .ok (.aload_n 0, 1) := by decide +kernel
theorem dX4_turnToNext_45 : decode cX4_turnToNext 45 = .ok (.getfield 27, 3) := by decide +kernel
theorem dX4_turnToNext_48 : decode cX4_turnToNext 48 = .ok (.iconst 1, 1) := by decide +kernel
theorem dX4_turnToNext_49 : decode cX4_turnToNext 49 = .ok (.isub, 1) := by decide +kernel
theorem dX4_turnToNext_50 : decode cX4_turnToNext 50 = .ok (.istore_n 2, 1) := by decide +kernel
theorem dX4_turnToNext_51 : decode cX4_turnToNext 51 = .ok (.iload_n 2, 1) := by decide +kernel
theorem dX4_turnToNext_52 : decode cX4_turnToNext 52 = .ok (.iload_n 1, 1) := by decide +kernel
theorem dX4_turnToNext_53 : decode cX4_turnToNext 53 = .ok (.if_icmp .le 28, 3) := by decide +kernel
theorem dX4_turnToNext_56 : decode cX4_turnToNext 56 = .ok (.aload_n 0, 1) := by decide +kernel
theorem dX4_turnToNext_57 : decode cX4_turnToNext 57 = .ok (.getfield 9, 3) := by decide +kernel
theorem dX4_turnToNext_60 : decode cX4_turnToNext 60 = .ok (.iload_n 2, 1) := by decide +kernel
theorem dX4_turnToNext_61 : decode cX4_turnToNext 61 = .ok (.invokestatic 51, 3) := by decide +kernel
theorem dX4_turnToNext_64 : decode cX4_turnToNext 64 = .ok (.aload_n 0, 1) := by decide +kernel
theorem dX4_turnToNext_65 : decode cX4_turnToNext 65 = .ok (.getfield 9, 3) := by decide +kernel
theorem dX4_turnToNext_68 : decode cX4_turnToNext 68 = .ok (.iload_n 1, 1) := by decide +kernel
theorem dX4_turnToNext_69 : decode cX4_turnToNext 69 = .ok (.invokestatic 51, 3) := by decide +kernel
theorem dX4_turnToNext_72 : decode cX4_turnToNext 72 = .ok (.if_icmp .ge 9, 3) := by decide +kernel
theorem dX4_turnToNext_75 : decode cX4_turnToNext 75 = .ok (.iinc 2 (-1), 3) := by decide +kernel
theorem dX4_turnToNext_78 : decode cX4_turnToNext 78 = .ok (.goto (-27), 3) := by decide +kernel
theorem dX4_turnToNext_81 : decode cX4_turnToNext 81 = .ok (.aload_n 0, 1) := by decide +kernel
theorem dX4_turnToNext_82 : decode cX4_turnToNext 82 = .ok (.iload_n 1, 1) := by decide +kernel
theorem dX4_turnToNext_83 : decode cX4_turnToNext 83 = .ok (.iload_n 2, 1) := by decide +kernel
theorem dX4_turnToNext_84 : decode cX4_turnToNext 84 = .ok (.invokevirtual 55, 3) := by decide +kernel
theorem dX4_turnToNext_87 : decode cX4_turnToNext 87 = .ok (.iload_n 1, 1) := by decide +kernel
theorem dX4_turnToNext_88 : decode cX4_turnToNext 88 = .ok (.iconst 1, 1) := by decide +kernel
theorem dX4_turnToNext_89 : decode cX4_turnToNext 89 = .ok (.iadd, 1) := by decide +kernel
theorem dX4_turnToNext_90 : decode cX4_turnToNext 90 = .ok (.istore_n 3, 1) := by decide +kernel
theorem dX4_turnToNext_91 : decode cX4_turnToNext 91 = .ok (.aload_n 0, 1) := by decide +kernel
theorem dX4_turnToNext_92 : decode cX4_turnToNext 92 = .ok (.getfield 27, 3) := by decide +kernel
theorem dX4_turnToNext_95 : decode cX4_turnToNext 95 = .ok (.iconst 1, 1) := by decide +kernel
theorem dX4_turnToNext_96 : decode cX4_turnToNext 96 = .ok (.isub, 1) := by decide +kernel
theorem dX4_turnToNext_97 : decode cX4_turnToNext 97 = .ok (.istore 4, 2) := by decide +kernel
theorem dX4_turnToNext_99 : decode cX4_turnToNext 99 = .ok (.iload_n 3, 1) := by decide +kernel
theorem dX4_turnToNext_100 : decode cX4_turnToNext 100 = .ok (.iload 4, 2) := by decide +kernel
theorem dX4_turnToNext_102 : decode cX4_turnToNext 102 = .ok (.if_icmp .ge 19, 3) := by decide +kernel
theorem dX4_turnToNext_105 : decode cX4_turnToNext 105 = .ok (.aload_n 0, 1) := by decide +kernel
theorem dX4_turnToNext_106 : decode cX4_turnToNext 106 = .ok (.iload_n 3, 1) := by decide +kernel
theorem dX4_turnToNext_107 : decode cX4_turnToNext 107 = .ok (.iload 4, 2) := by decide +kernel
theorem dX4_turnToNext_109 : decode cX4_turnToNext 109 = .ok (.invokevirtual 55, 3) := by decide +kernel
theorem dX4_turnToNext_112 : decode cX4_turnToNext 112 = .ok (.iinc 3 1, 3) := by decide +kernel
theorem dX4_turnToNext_115 : decode cX4_turnToNext 115 = .ok (.iinc 4 (-1), 3) := by decide +kernel
theorem dX4_turnToNext_118 : decode cX4_turnToNext 118 = .ok (.goto (-19), 3) := by decide +kernel
theorem dX4_turnToNext_121 : decode cX4_turnToNext 121 = .ok (.iconst 1, 1) := by decide +kernel
theorem dX4_turnToNext_122 : decode cX4_turnToNext 122 = .ok (.ireturn, 1) := by decide +kernel
set_option maxRecDepth 20000 in
theorem ggX4_swap_X8_at : GoodIn wsX4_swap wsX8_at := goodIn_r _ [4] (by decide +kernel) (by decide +kernel)
set_option maxRecDepth 20000 in
theorem gX4_swap_X8_at_n51 : GoodIn wsX4_swap (wsX8_at) := ggX4_swap_X8_at
set_option maxRecDepth 20000 in
theorem ggX4_swap_X8_put : GoodIn wsX4_swap wsX8_put := goodIn_r _ [6] (by decide +kernel) (by decide +kernel)
set_option maxRecDepth 20000 in
theorem gX4_swap_X8_put_n40 : GoodIn wsX4_swap (wsX8_put) := ggX4_swap_X8_put
theorem dX4_swap_0 : decode cX4_swap 0 = .ok (.aload_n 0, 1) := by decide +kernel
theorem dX4_swap_1 : decode cX4_swap 1 = .ok (.getfield 9, 3) := by decide +kernel
theorem dX4_swap_4 : decode cX4_swap 4 = .ok (.iload_n 1, 1) := by decide +kernel
theorem dX4_swap_5 : decode cX4_swap 5 = .ok (.invokestatic 51, 3) := by decide +kernel
theorem dX4_swap_8 : decode cX4_swap 8 = .ok (.istore_n 3, 1) := by decide +kernel
theorem dX4_swap_9 : decode cX4_swap 9 = .ok (.aload_n 0, 1) := by decide +kernel
theorem dX4_swap_10 : decode cX4_swap 10 = .ok (.getfield 9, 3) := by decide +kernel
theorem dX4_swap_13 : decode cX4_swap 13 = .ok (.iload_n 1, 1) := by decide +kernel
theorem dX4_swap_14 : decode cX4_swap 14 = .ok (.aload_n 0, 1) := by decide +kernel
theorem dX4_swap_15 : decode cX4_swap 15 = .ok (.getfield 9, 3) := by decide +kernel
theorem dX4_swap_18 : decode cX4_swap 18 = .ok (.iload_n 2, 1) := by decide +kernel
theorem dX4_swap_19 : decode cX4_swap 19 = .ok (.invokestatic 51, 3) := by decide +kernel
theorem dX4_swap_22 : decode cX4_swap 22 = .ok (.invokestatic 40, 3) := by decide +kernel
theorem dX4_swap_25 : decode cX4_swap 25 = .ok (.aload_n 0, 1) := by decide +kernel
theorem dX4_swap_26 : decode cX4_swap 26 = .ok (.getfield 9, 3) := by decide +kernel
theorem dX4_swap_29 : decode cX4_swap 29 = .ok (.iload_n 2, 1) := by decide +kernel
theorem dX4_swap_30 : decode cX4_swap 30 = .ok (.iload_n 3, 1) := by decide +kernel
theorem dX4_swap_31 : decode cX4_swap 31 = .ok (.invokestatic 40, 3) := by decide +kernel
theorem dX4_swap_34 : decode cX4_swap 34 = .ok (.return_, 1) := by decide +kernel
set_option maxRecDepth 20000 in
theorem ggX4_walk_X8_at : GoodIn wsX4_walk wsX8_at := goodIn_r _ [17] (by decide +kernel) (by decide +kernel)
set_option maxRecDepth 20000 in
theorem gX4_walk_X8_at_n51 : GoodIn wsX4_walk (wsX8_at) := ggX4_walk_X8_at
set_option maxRecDepth 20000 in
theorem ggX4_walk_X8_put : GoodIn wsX4_walk wsX8_put := goodIn_r _ [19] (by decide +kernel) (by decide +kernel)
set_option maxRecDepth 20000 in
theorem gX4_walk_X8_put_n40 : GoodIn wsX4_walk (wsX8_put) := ggX4_walk_X8_put
theorem dX4_walk_0 : decode cX4_walk 0 = .ok (.iconst 0, 1) := by decide +kernel
theorem dX4_walk_1 : decode cX4_walk 1 = .ok (.istore_n 2, 1) := by decide +kernel
theorem dX4_walk_2 : decode cX4_walk 2 = .ok (.aload_n 1, 1) := by decide +kernel
theorem dX4_walk_3 : decode cX4_walk 3 = .ok (.getfield 59, 3) := by decide +kernel
theorem dX4_walk_6 : decode cX4_walk 6 = .ok (.getfield 63, 3) := by decide +kernel
theorem dX4_walk_9 : decode cX4_walk 9 = .ok (.istore_n 3, 1) := by decide +kernel
theorem dX4_walk_10 : decode cX4_walk 10 = .ok (.iconst 0, 1) := by decide +kernel
theorem dX4_walk_11 : decode cX4_walk 11 = .ok (.istore 4, 2) := by decide +kernel
theorem dX4_walk_13 : decode cX4_walk 13 = .ok (.iload 4, 2) := by decide +kernel
theorem dX4_walk_15 : decode cX4_walk 15 = .ok (.aload_n 0, 1) := by decide +kernel
theorem dX4_walk_16 : decode cX4_walk 16 = .ok (.getfield 27, 3) := by decide +kernel
theorem dX4_walk_19 : decode cX4_walk 19 = .ok (.if_icmp .ge 89, 3) := by decide +kernel
theorem dX4_walk_22 : decode cX4_walk 22 = .ok (.aload_n 0, 1) := by decide +kernel
theorem dX4_walk_23 : decode cX4_walk 23 = .ok (.getfield 9, 3) := by decide +kernel
theorem dX4_walk_26 : decode cX4_walk 26 = .ok (.iload 4, 2) := by decide +kernel
theorem dX4_walk_28 : decode cX4_walk 28 = .ok (.invokestatic 51, 3) := by decide +kernel
theorem dX4_walk_31 : decode cX4_walk 31 = .ok (.istore 5, 2) := by decide +kernel
theorem dX4_walk_33 : decode cX4_walk 33 = .ok (.aload_n 1, 1) := by decide +kernel
theorem dX4_walk_34 : decode cX4_walk 34 = .ok (.getfield 68, 3) := by decide +kernel
theorem dX4_walk_37 : decode cX4_walk 37 = .ok (.iload 5, 2) := by decide +kernel
theorem dX4_walk_39 : decode cX4_walk 39 = .ok (.invokestatic 51, 3) := by decide +kernel
theorem dX4_walk_42 : decode cX4_walk 42 = .ok (.istore 6, 2) := by decide +kernel
theorem dX4_walk_44 : decode cX4_walk 44 = .ok (.iload_n 3, 1) := by decide +kernel
theorem dX4_walk_45 : decode cX4_walk 45 = .ok (.iload 6, 2) := by decide +kernel
theorem dX4_walk_47 : decode cX4_walk 47 = .ok (.iload_n 2, 1) := by decide +kernel
theorem dX4_walk_48 : decode cX4_walk 48 = .ok (.isub, 1) := by decide +kernel
theorem dX4_walk_49 : decode cX4_walk 49 = .ok (.invokestatic 71, 3) := by decide +kernel
theorem dX4_walk_52 : decode cX4_walk 52 = .ok (.iadd, 1) := by decide +kernel
theorem dX4_walk_53 : decode cX4_walk 53 = .ok (.aload_n 0, 1) := by decide +kernel
theorem dX4_walk_54 : decode cX4_walk 54 = .ok (.getfield 21, 3) := by decide +kernel
theorem dX4_walk_57 : decode cX4_walk 57 = .ok (.iload 5, 2) := by decide +kernel
theorem dX4_walk_59 : decode cX4_walk 59 = .ok (.invokestatic 51, 3) := by decide +kernel
theorem dX4_walk_62 : decode cX4_walk 62 = .ok (.invokestatic 76, 3) := by decide +kernel
theorem dX4_walk_65 : decode cX4_walk 65 = .ok (.istore_n 3, 1) := by decide +kernel
theorem dX4_walk_66 : decode cX4_walk 66 = .ok (.iload 6, 2) := by decide +kernel
theorem dX4_walk_68 : decode cX4_walk 68 = .ok (.istore_n 2, 1) := by decide +kernel
theorem dX4_walk_69 : decode cX4_walk 69 = .ok (.aload_n 0, 1) := by decide +kernel
theorem dX4_walk_70 : decode cX4_walk 70 = .ok (.getfield 15, 3) := by decide +kernel
theorem dX4_walk_73 : decode cX4_walk 73 = .ok (.iload 5, 2) := by decide +kernel
theorem dX4_walk_75 : decode cX4_walk 75 = .ok (.iload 4, 2) := by decide +kernel
theorem dX4_walk_77 : decode cX4_walk 77 = .ok (.invokestatic 40, 3) := by decide +kernel
theorem dX4_walk_80 : decode cX4_walk 80 = .ok (.aload_n 0, 1) := by decide +kernel
theorem dX4_walk_81 : decode cX4_walk 81 = .ok (.getfield 18, 3) := by decide +kernel
theorem dX4_walk_84 : decode cX4_walk 84 = .ok (.iload 5, 2) := by decide +kernel
theorem dX4_walk_86 : decode cX4_walk 86 = .ok (.iload_n 3, 1) := by decide +kernel
theorem dX4_walk_87 : decode cX4_walk 87 = .ok (.invokestatic 40, 3) := by decide +kernel
theorem dX4_walk_90 : decode cX4_walk 90 = .ok (.iload_n 3, 1) := by decide +kernel
theorem dX4_walk_91 : decode cX4_walk 91 = .ok (.aload_n 0, 1) := by decide +kernel
theorem dX4_walk_92 : decode cX4_walk 92 = .ok (.getfield 24, 3) := by decide +kernel
theorem dX4_walk_95 : decode cX4_walk 95 = .ok (.iload 5, 2) := by decide +kernel
theorem dX4_walk_97 : decode cX4_walk 97 = .ok (.invokestatic 51, 3) := by decide +kernel
theorem dX4_walk_100 : decode cX4_walk 100 = .ok (.iadd, 1) := by decide +kernel
theorem dX4_walk_101 : decode cX4_walk 101 = .ok (.istore_n 3, 1) := by decide +kernel
theorem dX4_walk_102 : decode cX4_walk 102 = .ok (.iinc 4 1, 3) := by decide +kernel
theorem dX4_walk_105 : decode cX4_walk 105 = .ok (.goto (-92), 3) := by decide +kernel
theorem dX4_walk_108 : decode cX4_walk 108 = .ok (.aload_n 0, 1) := by decide +kernel
theorem dX4_walk_109 : decode cX4_walk 109 = .ok (.iload_n 3, 1) := by decide +kernel
theorem dX4_walk_110 : decode cX4_walk 110 = .ok (.putfield 80, 3) := by decide +kernel
theorem dX4_walk_113 : decode cX4_walk 113 = .ok (.return_, 1) := by decide +kernel
set_option maxRecDepth 20000 in
theorem ggX4_isAhead_X8_at : GoodIn wsX4_isAhead wsX8_at := goodIn_r _ [4] (by decide +kernel) (by decide +kernel)
set_option maxRecDepth 20000 in
theorem gX4_isAhead_X8_at_n51 : GoodIn wsX4_isAhead (wsX8_at) := ggX4_isAhead_X8_at
theorem dX4_isAhead_0 : decode cX4_isAhead 0 = .ok (.aload_n 0, 1) := by decide +kernel
theorem dX4_isAhead_1 : decode cX4_isAhead 1 = .ok (.getfield 15, 3) := by decide +kernel
theorem dX4_isAhead_4 : decode cX4_isAhead 4 = .ok (.iload_n 1, 1) := by decide +kernel
theorem dX4_isAhead_5 : decode cX4_isAhead 5 = .ok (.invokestatic 51, 3) := by decide +kernel
theorem dX4_isAhead_8 : decode cX4_isAhead 8 = .ok (.aload_n 0, 1) := by decide +kernel
theorem dX4_isAhead_9 : decode cX4_isAhead 9 = .ok (.getfield 15, 3) := by decide +kernel
theorem dX4_isAhead_12 : decode cX4_isAhead 12 = .ok (.iload_n 2, 1) := by decide +kernel
theorem dX4_isAhead_13 : decode cX4_isAhead 13 = .ok (.invokestatic 51, 3) := by decide +kernel
theorem dX4_isAhead_16 : decode cX4_isAhead 16 = .ok (.if_icmp .ge 7, 3) := by decide +kernel
theorem dX4_isAhead_19 : decode cX4_isAhead 19 = .ok (.iconst 1, 1) := by decide +kernel
theorem dX4_isAhead_20 : decode cX4_isAhead 20 = .ok (.goto 4, 3) := by decide +kernel
theorem dX4_isAhead_23 : decode cX4_isAhead 23 = .ok (.iconst 0, 1) := by decide +kernel
theorem dX4_isAhead_24 : decode cX4_isAhead 24 = .ok (.ireturn, 1) := by decide +kernel
set_option maxRecDepth 20000 in
theorem ggX4_keptOf_X8_has : GoodIn wsX4_keptOf wsX8_has := goodIn_r _ [3] (by decide +kernel) (by decide +kernel)
set_option maxRecDepth 20000 in
theorem gX4_keptOf_X8_has_n36 : GoodIn wsX4_keptOf (wsX8_has) := ggX4_keptOf_X8_has
set_option maxRecDepth 20000 in
theorem ggX4_keptOf_X4_isKept : GoodIn wsX4_keptOf wsX4_isKept := goodIn_r _ [8, 9, 10, 11, 2, 12, 13, 14, 15, 16, 17, 18, 19, 20, 21, 22, 23, 24, 25, 26, 27, 28] (by decide +kernel) (by decide +kernel)
set_option maxRecDepth 20000 in
theorem gX4_keptOf_X4_isKept : GoodIn wsX4_keptOf (wsV RX4 86 RX4 yX4_isKept wsX4_isKept) := goodIn_app (goodIn_of _ (by decide +kernel)) ggX4_keptOf_X4_isKept
theorem dX4_keptOf_0 : decode cX4_keptOf 0 = .ok (.iconst 0, 1) := by decide +kernel
theorem dX4_keptOf_1 : decode cX4_keptOf 1 = .ok (.istore_n 3, 1) := by decide +kernel
theorem dX4_keptOf_2 : decode cX4_keptOf 2 = .ok (.iconst 0, 1) := by decide +kernel
theorem dX4_keptOf_3 : decode cX4_keptOf 3 = .ok (.istore 4, 2) := by decide +kernel
theorem dX4_keptOf_5 : decode cX4_keptOf 5 = .ok (.iload 4, 2) := by decide +kernel
theorem dX4_keptOf_7 : decode cX4_keptOf 7 = .ok (.aload_n 1, 1) := by decide +kernel
theorem dX4_keptOf_8 : decode cX4_keptOf 8 = .ok (.getfield 83, 3) := by decide +kernel
theorem dX4_keptOf_11 : decode cX4_keptOf 11 = .ok (.if_icmp .ge 35, 3) := by decide +kernel
theorem dX4_keptOf_14 : decode cX4_keptOf 14 = .ok (.iload_n 2, 1) := by decide +kernel
theorem dX4_keptOf_15 : decode cX4_keptOf 15 = .ok (.iload 4, 2) := by decide +kernel
theorem dX4_keptOf_17 : decode cX4_keptOf 17 = .ok (.invokestatic 36, 3) := by decide +kernel
theorem dX4_keptOf_20 : decode cX4_keptOf 20 = .ok (.ifCond .eq 20, 3) := by decide +kernel
theorem dX4_keptOf_23 : decode cX4_keptOf 23 = .ok (.aload_n 0, 1) := by decide +kernel
theorem dX4_keptOf_24 : decode cX4_keptOf 24 = .ok (.aload_n 1, 1) := by decide +kernel
theorem dX4_keptOf_25 : decode cX4_keptOf 25 = .ok (.iload 4, 2) := by decide +kernel
theorem dX4_keptOf_27 : decode cX4_keptOf 27 = .ok (.invokevirtual 86, 3) := by decide +kernel
theorem dX4_keptOf_30 : decode cX4_keptOf 30 = .ok (.ifCond .eq 10, 3) := by decide +kernel
theorem dX4_keptOf_33 : decode cX4_keptOf 33 = .ok (.iload_n 3, 1) := by decide +kernel
theorem dX4_keptOf_34 : decode cX4_keptOf 34 = .ok (.iconst 1, 1) := by decide +kernel
theorem dX4_keptOf_35 : decode cX4_keptOf 35 = .ok (.iload 4, 2) := by decide +kernel
theorem dX4_keptOf_37 : decode cX4_keptOf 37 = .ok (.ishl, 1) := by decide +kernel
theorem dX4_keptOf_38 : decode cX4_keptOf 38 = .ok (.ior, 1) := by decide +kernel
theorem dX4_keptOf_39 : decode cX4_keptOf 39 = .ok (.istore_n 3, 1) := by decide +kernel
theorem dX4_keptOf_40 : decode cX4_keptOf 40 = .ok (.iinc 4 1, 3) := by decide +kernel
theorem dX4_keptOf_43 : decode cX4_keptOf 43 = .ok (.goto (-38), 3) := by decide +kernel
theorem dX4_keptOf_46 : decode cX4_keptOf 46 = .ok (.iload_n 3, 1) := by decide +kernel
theorem dX4_keptOf_47 : decode cX4_keptOf 47 = .ok (.ireturn, 1) := by decide +kernel
set_option maxRecDepth 20000 in
theorem ggX4_isKept_X8_at : GoodIn wsX4_isKept wsX8_at := goodIn_r _ [5] (by decide +kernel) (by decide +kernel)
set_option maxRecDepth 20000 in
theorem gX4_isKept_X8_at_n51 : GoodIn wsX4_isKept (wsX8_at) := ggX4_isKept_X8_at
theorem dX4_isKept_0 : decode cX4_isKept 0 = .ok (.aload_n 1, 1) := by decide +kernel
theorem dX4_isKept_1 : decode cX4_isKept 1 = .ok (.getfield 90, 3) := by decide +kernel
theorem dX4_isKept_4 : decode cX4_isKept 4 = .ok (.iload_n 2, 1) := by decide +kernel
theorem dX4_isKept_5 : decode cX4_isKept 5 = .ok (.invokestatic 51, 3) := by decide +kernel
theorem dX4_isKept_8 : decode cX4_isKept 8 = .ok (.istore_n 3, 1) := by decide +kernel
theorem dX4_isKept_9 : decode cX4_isKept 9 = .ok (.aload_n 1, 1) := by decide +kernel
theorem dX4_isKept_10 : decode cX4_isKept 10 = .ok (.getfield 93, 3) := by decide +kernel
theorem dX4_isKept_13 : decode cX4_isKept 13 = .ok (.iload_n 2, 1) := by decide +kernel
theorem dX4_isKept_14 : decode cX4_isKept 14 = .ok (.invokestatic 51, 3) := by decide +kernel
theorem dX4_isKept_17 : decode cX4_isKept 17 = .ok (.istore 4, 2) := by decide +kernel
theorem dX4_isKept_19 : decode cX4_isKept 19 = .ok (.aload_n 1, 1) := by decide +kernel
theorem dX4_isKept_20 : decode cX4_isKept 20 = .ok (.getfield 96, 3) := by decide +kernel
theorem dX4_isKept_23 : decode cX4_isKept 23 = .ok (.iload_n 2, 1) := by decide +kernel
theorem dX4_isKept_24 : decode cX4_isKept 24 = .ok (.invokestatic 51, 3) := by decide +kernel
theorem dX4_isKept_27 : decode cX4_isKept 27 = .ok (.tableswitch 123 0 4 #[33, 59, 87, 123, 104], 33) := by decide +kernel
theorem dX4_isKept_60 : decode cX4_isKept 60 = .ok (.aload_n 0, 1) := by decide +kernel
theorem dX4_isKept_61 : decode cX4_isKept 61 = .ok (.getfield 15, 3) := by decide +kernel
theorem dX4_isKept_64 : decode cX4_isKept 64 = .ok (.iload_n 3, 1) := by decide +kernel
theorem dX4_isKept_65 : decode cX4_isKept 65 = .ok (.invokestatic 51, 3) := by decide +kernel
theorem dX4_isKept_68 : decode cX4_isKept 68 = .ok (.aload_n 0, 1) := by decide +kernel
theorem dX4_isKept_69 : decode cX4_isKept 69 = .ok (.getfield 15, 3) := by decide +kernel
theorem dX4_isKept_72 : decode cX4_isKept 72 = .ok (.iload 4, 2) := by decide +kernel
theorem dX4_isKept_74 : decode cX4_isKept 74 = .ok (.invokestatic 51, 3) := by decide +kernel
theorem dX4_isKept_77 : decode cX4_isKept 77 = .ok (.if_icmp .ge 7, 3) := by decide +kernel
theorem dX4_isKept_80 : decode cX4_isKept 80 = .ok (.iconst 1, 1) := by decide +kernel
theorem dX4_isKept_81 : decode cX4_isKept 81 = .ok (.goto 4, 3) := by decide +kernel
theorem dX4_isKept_84 : decode cX4_isKept 84 = .ok (.iconst 0, 1) := by decide +kernel
theorem dX4_isKept_85 : decode cX4_isKept 85 = .ok (.ireturn, 1) := by decide +kernel
theorem dX4_isKept_86 : decode cX4_isKept 86 = .ok (.aload_n 0, 1) := by decide +kernel
theorem dX4_isKept_87 : decode cX4_isKept 87 = .ok (.getfield 15, 3) := by decide +kernel
theorem dX4_isKept_90 : decode cX4_isKept 90 = .ok (.iload_n 3, 1) := by decide +kernel
theorem dX4_isKept_91 : decode cX4_isKept 91 = .ok (.invokestatic 51, 3) := by decide +kernel
theorem dX4_isKept_94 : decode cX4_isKept 94 = .ok (.aload_n 0, 1) := by decide +kernel
theorem dX4_isKept_95 : decode cX4_isKept 95 = .ok (.getfield 15, 3) := by decide +kernel
theorem dX4_isKept_98 : decode cX4_isKept 98 = .ok (.iload 4, 2) := by decide +kernel
theorem dX4_isKept_100 : decode cX4_isKept 100 = .ok (.invokestatic 51, 3) := by decide +kernel
theorem dX4_isKept_103 : decode cX4_isKept 103 = .ok (.iconst 1, 1) := by decide +kernel
theorem dX4_isKept_104 : decode cX4_isKept 104 = .ok (.iadd, 1) := by decide +kernel
theorem dX4_isKept_105 : decode cX4_isKept 105 = .ok (.if_icmp .ne 7, 3) := by decide +kernel
theorem dX4_isKept_108 : decode cX4_isKept 108 = .ok (.iconst 1, 1) := by decide +kernel
theorem dX4_isKept_109 : decode cX4_isKept 109 = .ok (.goto 4, 3) := by decide +kernel
theorem dX4_isKept_112 : decode cX4_isKept 112 = .ok (.iconst 0, 1) := by decide +kernel
theorem dX4_isKept_113 : decode cX4_isKept 113 = .ok (.ireturn, 1) := by decide +kernel
theorem dX4_isKept_114 : decode cX4_isKept 114 = .ok (.aload_n 0, 1) := by decide +kernel
theorem dX4_isKept_115 : decode cX4_isKept 115 = .ok (.getfield 15, 3) := by decide +kernel
theorem dX4_isKept_118 : decode cX4_isKept 118 = .ok (.iload_n 3, 1) := by decide +kernel
theorem dX4_isKept_119 : decode cX4_isKept 119 = .ok (.invokestatic 51, 3) := by decide +kernel
theorem dX4_isKept_122 : decode cX4_isKept 122 = .ok (.ifCond .ne 7, 3) := by decide +kernel
theorem dX4_isKept_125 : decode cX4_isKept 125 = .ok (.iconst 1, 1) := by decide +kernel
theorem dX4_isKept_126 : decode cX4_isKept 126 = .ok (.goto 4, 3) := by decide +kernel
theorem dX4_isKept_129 : decode cX4_isKept 129 = .ok (.iconst 0, 1) := by decide +kernel
theorem dX4_isKept_130 : decode cX4_isKept 130 = .ok (.ireturn, 1) := by decide +kernel
theorem dX4_isKept_131 : decode cX4_isKept 131 = .ok (.aload_n 0, 1) := by decide +kernel
theorem dX4_isKept_132 : decode cX4_isKept 132 = .ok (.getfield 18, 3) := by decide +kernel
theorem dX4_isKept_135 : decode cX4_isKept 135 = .ok (.iload_n 3, 1) := by decide +kernel
theorem dX4_isKept_136 : decode cX4_isKept 136 = .ok (.invokestatic 51, 3) := by decide +kernel
theorem dX4_isKept_139 : decode cX4_isKept 139 = .ok (.iload 4, 2) := by decide +kernel
theorem dX4_isKept_141 : decode cX4_isKept 141 = .ok (.if_icmp .gt 7, 3) := by decide +kernel
theorem dX4_isKept_144 : decode cX4_isKept 144 = .ok (.iconst 1, 1) := by decide +kernel
theorem dX4_isKept_145 : decode cX4_isKept 145 = .ok (.goto 4, 3) := by decide +kernel
theorem dX4_isKept_148 : decode cX4_isKept 148 = .ok (.iconst 0, 1) := by decide +kernel
theorem dX4_isKept_149 : decode cX4_isKept 149 = .ok (.ireturn, 1) := by decide +kernel
theorem dX4_isKept_150 : decode cX4_isKept 150 = .ok (.iconst 1, 1) := by decide +kernel
theorem dX4_isKept_151 : decode cX4_isKept 151 = .ok (.ireturn, 1) := by decide +kernel
theorem dX5_init_0 : decode cX5_init 0 = .ok (.aload_n 0, 1) := by decide +kernel
theorem dX5_init_1 : decode cX5_init 1 = .ok (.invokespecial 3, 3) := by decide +kernel
theorem dX5_init_4 : decode cX5_init 4 = .ok (.aload_n 0, 1) := by decide +kernel
theorem dX5_init_5 : decode cX5_init 5 = .ok (.bipush 6, 2) := by decide +kernel
theorem dX5_init_7 : decode cX5_init 7 = .ok (.newarray .int, 2) := by decide +kernel
theorem dX5_init_9 : decode cX5_init 9 = .ok (.putfield 9, 3) := by decide +kernel
theorem dX5_init_12 : decode cX5_init 12 = .ok (.aload_n 0, 1) := by decide +kernel
theorem dX5_init_13 : decode cX5_init 13 = .ok (.bipush 6, 2) := by decide +kernel
theorem dX5_init_15 : decode cX5_init 15 = .ok (.newarray .int, 2) := by decide +kernel
theorem dX5_init_17 : decode cX5_init 17 = .ok (.putfield 15, 3) := by decide +kernel
theorem dX5_init_20 : decode cX5_init 20 = .ok (.aload_n 0, 1) := by decide +kernel
theorem dX5_init_21 : decode cX5_init 21 = .ok (.bipush 9, 2) := by decide +kernel
theorem dX5_init_23 : decode cX5_init 23 = .ok (.newarray .int, 2) := by decide +kernel
theorem dX5_init_25 : decode cX5_init 25 = .ok (.putfield 18, 3) := by decide +kernel
theorem dX5_init_28 : decode cX5_init 28 = .ok (.aload_n 0, 1) := by decide +kernel
theorem dX5_init_29 : decode cX5_init 29 = .ok (.bipush 9, 2) := by decide +kernel
theorem dX5_init_31 : decode cX5_init 31 = .ok (.newarray .int, 2) := by decide +kernel
theorem dX5_init_33 : decode cX5_init 33 = .ok (.putfield 21, 3) := by decide +kernel
theorem dX5_init_36 : decode cX5_init 36 = .ok (.aload_n 0, 1) := by decide +kernel
theorem dX5_init_37 : decode cX5_init 37 = .ok (.bipush 9, 2) := by decide +kernel
theorem dX5_init_39 : decode cX5_init 39 = .ok (.newarray .int, 2) := by decide +kernel
theorem dX5_init_41 : decode cX5_init 41 = .ok (.putfield 24, 3) := by decide +kernel
theorem dX5_init_44 : decode cX5_init 44 = .ok (.aload_n 0, 1) := by decide +kernel
theorem dX5_init_45 : decode cX5_init 45 = .ok (.bipush 9, 2) := by decide +kernel
theorem dX5_init_47 : decode cX5_init 47 = .ok (.newarray .int, 2) := by decide +kernel
theorem dX5_init_49 : decode cX5_init 49 = .ok (.putfield 27, 3) := by decide +kernel
theorem dX5_init_52 : decode cX5_init 52 = .ok (.return_, 1) := by decide +kernel
theorem dX5_clear_0 : decode cX5_clear 0 = .ok (.aload_n 0, 1) := by decide +kernel
theorem dX5_clear_1 : decode cX5_clear 1 = .ok (.iconst 0, 1) := by decide +kernel
theorem dX5_clear_2 : decode cX5_clear 2 = .ok (.putfield 30, 3) := by decide +kernel
theorem dX5_clear_5 : decode cX5_clear 5 = .ok (.aload_n 0, 1) := by decide +kernel
theorem dX5_clear_6 : decode cX5_clear 6 = .ok (.iconst 0, 1) := by decide +kernel
theorem dX5_clear_7 : decode cX5_clear 7 = .ok (.putfield 34, 3) := by decide +kernel
theorem dX5_clear_10 : decode cX5_clear 10 = .ok (.aload_n 0, 1) := by decide +kernel
theorem dX5_clear_11 : decode cX5_clear 11 = .ok (.iconst 0, 1) := by decide +kernel
theorem dX5_clear_12 : decode cX5_clear 12 = .ok (.putfield 37, 3) := by decide +kernel
theorem dX5_clear_15 : decode cX5_clear 15 = .ok (.return_, 1) := by decide +kernel
theorem dX5_isGuest_0 : decode cX5_isGuest 0 = .ok (.iload_n 1, 1) := by decide +kernel
theorem dX5_isGuest_1 : decode cX5_isGuest 1 = .ok (.ifCond .lt 15, 3) := by decide +kernel
theorem dX5_isGuest_4 : decode cX5_isGuest 4 = .ok (.iload_n 1, 1) := by decide +kernel
theorem dX5_isGuest_5 : decode cX5_isGuest 5 = .ok (.aload_n 0, 1) := by decide +kernel
theorem dX5_isGuest_6 : decode cX5_isGuest 6 = .ok (.getfield 30, 3) := by decide +kernel
theorem dX5_isGuest_9 : decode cX5_isGuest 9 = .ok (.if_icmp .ge 7, 3) := by decide +kernel
theorem dX5_isGuest_12 : decode cX5_isGuest 12 = .ok (.iconst 1, 1) := by decide +kernel
theorem dX5_isGuest_13 : decode cX5_isGuest 13 = .ok (.goto 4, 3) := by decide +kernel
theorem dX5_isGuest_16 : decode cX5_isGuest 16 = .ok (.iconst 0, 1) := by decide +kernel
theorem dX5_isGuest_17 : decode cX5_isGuest 17 = .ok (.ireturn, 1) := by decide +kernel
theorem dX5_isWish_0 : decode cX5_isWish 0 = .ok (.iload_n 1, 1) := by decide +kernel
theorem dX5_isWish_1 : decode cX5_isWish 1 = .ok (.ifCond .lt 15, 3) := by decide +kernel
theorem dX5_isWish_4 : decode cX5_isWish 4 = .ok (.iload_n 1, 1) := by decide +kernel
theorem dX5_isWish_5 : decode cX5_isWish 5 = .ok (.aload_n 0, 1) := by decide +kernel
theorem dX5_isWish_6 : decode cX5_isWish 6 = .ok (.getfield 34, 3) := by decide +kernel
theorem dX5_isWish_9 : decode cX5_isWish 9 = .ok (.if_icmp .ge 7, 3) := by decide +kernel
theorem dX5_isWish_12 : decode cX5_isWish 12 = .ok (.iconst 1, 1) := by decide +kernel
theorem dX5_isWish_13 : decode cX5_isWish 13 = .ok (.goto 4, 3) := by decide +kernel
theorem dX5_isWish_16 : decode cX5_isWish 16 = .ok (.iconst 0, 1) := by decide +kernel
theorem dX5_isWish_17 : decode cX5_isWish 17 = .ok (.ireturn, 1) := by decide +kernel
set_option maxRecDepth 20000 in
theorem ggX5_addGuest_X8_put : GoodIn wsX5_addGuest wsX8_put := goodIn_r _ [6] (by decide +kernel) (by decide +kernel)
set_option maxRecDepth 20000 in
theorem gX5_addGuest_X8_put_n40 : GoodIn wsX5_addGuest (wsX8_put) := ggX5_addGuest_X8_put
theorem dX5_addGuest_0 : decode cX5_addGuest 0 = .ok (.aload_n 0, 1) := by decide +kernel
theorem dX5_addGuest_1 : decode cX5_addGuest 1 = .ok (.getfield 30, 3) := by decide +kernel
theorem dX5_addGuest_4 : decode cX5_addGuest 4 = .ok (.bipush 6, 2) := by decide +kernel
theorem dX5_addGuest_6 : decode cX5_addGuest 6 = .ok (.if_icmp .ge 14, 3) := by decide +kernel
theorem dX5_addGuest_9 : decode cX5_addGuest 9 = .ok (.iload_n 1, 1) := by decide +kernel
theorem dX5_addGuest_10 : decode cX5_addGuest 10 = .ok (.iconst 3, 1) := by decide +kernel
theorem dX5_addGuest_11 : decode cX5_addGuest 11 = .ok (.if_icmp .gt 9, 3) := by decide +kernel
theorem dX5_addGuest_14 : decode cX5_addGuest 14 = .ok (.iload_n 2, 1) := by decide +kernel
theorem dX5_addGuest_15 : decode cX5_addGuest 15 = .ok (.bipush 9, 2) := by decide +kernel
theorem dX5_addGuest_17 : decode cX5_addGuest 17 = .ok (.if_icmp .le 5, 3) := by decide +kernel
theorem dX5_addGuest_20 : decode cX5_addGuest 20 = .ok (.iconst 0, 1) := by decide +kernel
theorem dX5_addGuest_21 : decode cX5_addGuest 21 = .ok (.ireturn, 1) := by decide +kernel
theorem dX5_addGuest_22 : decode cX5_addGuest 22 = .ok (.aload_n 0, 1) := by decide +kernel
theorem dX5_addGuest_23 : decode cX5_addGuest 23 = .ok (.getfield 9, 3) := by decide +kernel
theorem dX5_addGuest_26 : decode cX5_addGuest 26 = .ok (.aload_n 0, 1) := by decide +kernel
theorem dX5_addGuest_27 : decode cX5_addGuest 27 = .ok (.getfield 30, 3) := by decide +kernel
theorem dX5_addGuest_30 : decode cX5_addGuest 30 = .ok (.iload_n 1, 1) := by decide +kernel
theorem dX5_addGuest_31 : decode cX5_addGuest 31 = .ok (.invokestatic 40, 3) := by decide +kernel
theorem dX5_addGuest_34 : decode cX5_addGuest 34 = .ok (.aload_n 0, 1) := by decide +kernel
theorem dX5_addGuest_35 : decode cX5_addGuest 35 = .ok (.getfield 15, 3) := by decide +kernel
theorem dX5_addGuest_38 : decode cX5_addGuest 38 = .ok (.aload_n 0, 1) := by decide +kernel
theorem dX5_addGuest_39 : decode cX5_addGuest 39 = .ok (.getfield 30, 3) := by decide +kernel
theorem dX5_addGuest_42 : decode cX5_addGuest 42 = .ok (.iload_n 2, 1) := by decide +kernel
theorem dX5_addGuest_43 : decode cX5_addGuest 43 = .ok (.invokestatic 40, 3) := by decide +kernel
theorem dX5_addGuest_46 : decode cX5_addGuest 46 = .ok (.aload_n 0, 1) := by decide +kernel
theorem dX5_addGuest_47 : decode cX5_addGuest 47 = .ok (.dup, 1) := by decide +kernel
theorem dX5_addGuest_48 : decode cX5_addGuest 48 = .ok (.getfield 30, 3) := by decide +kernel
theorem dX5_addGuest_51 : decode cX5_addGuest 51 = .ok (.iconst 1, 1) := by decide +kernel
theorem dX5_addGuest_52 : decode cX5_addGuest 52 = .ok (.iadd, 1) := by decide +kernel
theorem dX5_addGuest_53 : decode cX5_addGuest 53 = .ok (.putfield 30, 3) := by decide +kernel
theorem dX5_addGuest_56 : decode cX5_addGuest 56 = .ok (.iconst 1, 1) := by decide +kernel
theorem dX5_addGuest_57 : decode cX5_addGuest 57 = .ok (.ireturn, 1) := by decide +kernel
set_option maxRecDepth 20000 in
theorem ggX5_addWish_X5_isOfTwo : GoodIn wsX5_addWish wsX5_isOfTwo := goodIn_r _ [9] (by decide +kernel) (by decide +kernel)
set_option maxRecDepth 20000 in
theorem gX5_addWish_X5_isOfTwo : GoodIn wsX5_addWish (va_wsS RX5 44 yX5_isOfTwo wsX5_isOfTwo) := goodIn_app (goodIn_of _ (by decide +kernel)) ggX5_addWish_X5_isOfTwo
set_option maxRecDepth 20000 in
theorem ggX5_addWish_X5_isGuest : GoodIn wsX5_addWish wsX5_isGuest := goodIn_r _ [13, 14, 18, 19, 20, 21, 22, 23, 24, 25, 26] (by decide +kernel) (by decide +kernel)
set_option maxRecDepth 20000 in
theorem gX5_addWish_X5_isGuest : GoodIn wsX5_addWish (wsV RX5 48 RX5 yX5_isGuest wsX5_isGuest) := goodIn_app (goodIn_of _ (by decide +kernel)) ggX5_addWish_X5_isGuest
set_option maxRecDepth 20000 in
theorem ggX5_addWish_X8_put : GoodIn wsX5_addWish wsX8_put := goodIn_r _ [17] (by decide +kernel) (by decide +kernel)
set_option maxRecDepth 20000 in
theorem gX5_addWish_X8_put_n40 : GoodIn wsX5_addWish (wsX8_put) := ggX5_addWish_X8_put
theorem dX5_addWish_0 : decode cX5_addWish 0 = .ok (.iload_n 1, 1) := by decide +kernel
theorem dX5_addWish_1 : decode cX5_addWish 1 = .ok (.invokestatic 44, 3) := by decide +kernel
theorem dX5_addWish_4 : decode cX5_addWish 4 = .ok (.istore 4, 2) := by decide +kernel
theorem dX5_addWish_6 : decode cX5_addWish 6 = .ok (.aload_n 0, 1) := by decide +kernel
theorem dX5_addWish_7 : decode cX5_addWish 7 = .ok (.getfield 34, 3) := by decide +kernel
theorem dX5_addWish_10 : decode cX5_addWish 10 = .ok (.bipush 9, 2) := by decide +kernel
theorem dX5_addWish_12 : decode cX5_addWish 12 = .ok (.if_icmp .ge 29, 3) := by decide +kernel
theorem dX5_addWish_15 : decode cX5_addWish 15 = .ok (.aload_n 0, 1) := by decide +kernel
theorem dX5_addWish_16 : decode cX5_addWish 16 = .ok (.iload_n 2, 1) := by decide +kernel
theorem dX5_addWish_17 : decode cX5_addWish 17 = .ok (.invokevirtual 48, 3) := by decide +kernel
theorem dX5_addWish_20 : decode cX5_addWish 20 = .ok (.ifCond .eq 21, 3) := by decide +kernel
theorem dX5_addWish_23 : decode cX5_addWish 23 = .ok (.iload 4, 2) := by decide +kernel
theorem dX5_addWish_25 : decode cX5_addWish 25 = .ok (.ifCond .eq 18, 3) := by decide +kernel
theorem dX5_addWish_28 : decode cX5_addWish 28 = .ok (.aload_n 0, 1) := by decide +kernel
theorem dX5_addWish_29 : decode cX5_addWish 29 = .ok (.iload_n 3, 1) := by decide +kernel
theorem dX5_addWish_30 : decode cX5_addWish 30 = .ok (.invokevirtual 48, 3) := by decide +kernel
theorem dX5_addWish_33 : decode cX5_addWish 33 = .ok (.ifCond .eq 8, 3) := by decide +kernel
theorem dX5_addWish_36 : decode cX5_addWish 36 = .ok (.iload_n 2, 1) := by decide +kernel
theorem dX5_addWish_37 : decode cX5_addWish 37 = .ok (.iload_n 3, 1) := by decide +kernel
theorem dX5_addWish_38 : decode cX5_addWish 38 = .ok (.if_icmp .ne 5, 3) := by decide +kernel
theorem dX5_addWish_41 : decode cX5_addWish 41 = .ok (.iconst 0, 1) := by decide +kernel
theorem dX5_addWish_42 : decode cX5_addWish 42 = .ok (.ireturn, 1) := by decide +kernel
theorem dX5_addWish_43 : decode cX5_addWish 43 = .ok (.aload_n 0, 1) := by decide +kernel
theorem dX5_addWish_44 : decode cX5_addWish 44 = .ok (.getfield 27, 3) := by decide +kernel
theorem dX5_addWish_47 : decode cX5_addWish 47 = .ok (.aload_n 0, 1) := by decide +kernel
theorem dX5_addWish_48 : decode cX5_addWish 48 = .ok (.getfield 34, 3) := by decide +kernel
theorem dX5_addWish_51 : decode cX5_addWish 51 = .ok (.iload 4, 2) := by decide +kernel
theorem dX5_addWish_53 : decode cX5_addWish 53 = .ok (.ifCond .eq 13, 3) := by decide +kernel
theorem dX5_addWish_56 : decode cX5_addWish 56 = .ok (.iconst 1, 1) := by decide +kernel
theorem dX5_addWish_57 : decode cX5_addWish 57 = .ok (.iload_n 2, 1) := by decide +kernel
theorem dX5_addWish_58 : decode cX5_addWish 58 = .ok (.ishl, 1) := by decide +kernel
theorem dX5_addWish_59 : decode cX5_addWish 59 = .ok (.iconst 1, 1) := by decide +kernel
theorem dX5_addWish_60 : decode cX5_addWish 60 = .ok (.iload_n 3, 1) := by decide +kernel
theorem dX5_addWish_61 : decode cX5_addWish 61 = .ok (.ishl, 1) := by decide +kernel
theorem dX5_addWish_62 : decode cX5_addWish 62 = .ok (.ior, 1) := by decide +kernel
theorem dX5_addWish_63 : decode cX5_addWish 63 = .ok (.goto 6, 3) := by decide +kernel
theorem dX5_addWish_66 : decode cX5_addWish 66 = .ok (.iconst 1, 1) := by decide +kernel
theorem dX5_addWish_67 : decode cX5_addWish 67 = .ok (.iload_n 2, 1) := by decide +kernel
theorem dX5_addWish_68 : decode cX5_addWish 68 = .ok (.ishl, 1) := by decide +kernel
theorem dX5_addWish_69 : decode cX5_addWish 69 = .ok (.invokestatic 40, 3) := by decide +kernel
theorem dX5_addWish_72 : decode cX5_addWish 72 = .ok (.aload_n 0, 1) := by decide +kernel
theorem dX5_addWish_73 : decode cX5_addWish 73 = .ok (.getfield 18, 3) := by decide +kernel
theorem dX5_addWish_76 : decode cX5_addWish 76 = .ok (.aload_n 0, 1) := by decide +kernel
theorem dX5_addWish_77 : decode cX5_addWish 77 = .ok (.getfield 34, 3) := by decide +kernel
theorem dX5_addWish_80 : decode cX5_addWish 80 = .ok (.iload_n 1, 1) := by decide +kernel
theorem dX5_addWish_81 : decode cX5_addWish 81 = .ok (.invokestatic 40, 3) := by decide +kernel
theorem dX5_addWish_84 : decode cX5_addWish 84 = .ok (.aload_n 0, 1) := by decide +kernel
theorem dX5_addWish_85 : decode cX5_addWish 85 = .ok (.getfield 21, 3) := by decide +kernel
theorem dX5_addWish_88 : decode cX5_addWish 88 = .ok (.aload_n 0, 1) := by decide +kernel
theorem dX5_addWish_89 : decode cX5_addWish 89 = .ok (.getfield 34, 3) := by decide +kernel
theorem dX5_addWish_92 : decode cX5_addWish 92 = .ok (.iload_n 2, 1) := by decide +kernel
theorem dX5_addWish_93 : decode cX5_addWish 93 = .ok (.invokestatic 40, 3) := by decide +kernel
theorem dX5_addWish_96 : decode cX5_addWish 96 = .ok (.aload_n 0, 1) := by decide +kernel
theorem dX5_addWish_97 : decode cX5_addWish 97 = .ok (.getfield 24, 3) := by decide +kernel
theorem dX5_addWish_100 : decode cX5_addWish 100 = .ok (.aload_n 0, 1) := by decide +kernel
theorem dX5_addWish_101 : decode cX5_addWish 101 = .ok (.getfield 34, 3) := by decide +kernel
theorem dX5_addWish_104 : decode cX5_addWish 104 = .ok (.iload_n 3, 1) := by decide +kernel
theorem dX5_addWish_105 : decode cX5_addWish 105 = .ok (.invokestatic 40, 3) := by decide +kernel
theorem dX5_addWish_108 : decode cX5_addWish 108 = .ok (.aload_n 0, 1) := by decide +kernel
theorem dX5_addWish_109 : decode cX5_addWish 109 = .ok (.dup, 1) := by decide +kernel
theorem dX5_addWish_110 : decode cX5_addWish 110 = .ok (.getfield 34, 3) := by decide +kernel
theorem dX5_addWish_113 : decode cX5_addWish 113 = .ok (.iconst 1, 1) := by decide +kernel
theorem dX5_addWish_114 : decode cX5_addWish 114 = .ok (.iadd, 1) := by decide +kernel
theorem dX5_addWish_115 : decode cX5_addWish 115 = .ok (.putfield 34, 3) := by decide +kernel
theorem dX5_addWish_118 : decode cX5_addWish 118 = .ok (.iconst 1, 1) := by decide +kernel
theorem dX5_addWish_119 : decode cX5_addWish 119 = .ok (.ireturn, 1) := by decide +kernel
theorem dX5_isOfTwo_0 : decode cX5_isOfTwo 0 = .ok (.iload_n 0, 1) := by decide +kernel
theorem dX5_isOfTwo_1 : decode cX5_isOfTwo 1 = .ok (.ifCond .eq 8, 3) := by decide +kernel
theorem dX5_isOfTwo_4 : decode cX5_isOfTwo 4 = .ok (.iload_n 0, 1) := by decide +kernel
theorem dX5_isOfTwo_5 : decode cX5_isOfTwo 5 = .ok (.iconst 1, 1) := by decide +kernel
theorem dX5_isOfTwo_6 : decode cX5_isOfTwo 6 = .ok (.if_icmp .ne 7, 3) := by decide +kernel
theorem dX5_isOfTwo_9 : decode cX5_isOfTwo 9 = .ok (.iconst 1, 1) := by decide +kernel
theorem dX5_isOfTwo_10 : decode cX5_isOfTwo 10 = .ok (.goto 4, 3) := by decide +kernel
theorem dX5_isOfTwo_13 : decode cX5_isOfTwo 13 = .ok (.iconst 0, 1) := by decide +kernel
theorem dX5_isOfTwo_14 : decode cX5_isOfTwo 14 = .ok (.ireturn, 1) := by decide +kernel
set_option maxRecDepth 20000 in
theorem ggX5_takeFrom_X8_copy : GoodIn wsX5_takeFrom wsX8_copy := goodIn_r _ [12] (by decide +kernel) (by decide +kernel)
set_option maxRecDepth 20000 in
theorem gX5_takeFrom_X8_copy_n51 : GoodIn wsX5_takeFrom (wsX8_copy) := ggX5_takeFrom_X8_copy
theorem dX5_takeFrom_0 : decode cX5_takeFrom 0 = .ok (.aload_n 1, 1) := by decide +kernel
theorem dX5_takeFrom_1 : decode cX5_takeFrom 1 = .ok (.getfield 9, 3) := by decide +kernel
theorem dX5_takeFrom_4 : decode cX5_takeFrom 4 = .ok (.aload_n 0, 1) := by decide +kernel
theorem dX5_takeFrom_5 : decode cX5_takeFrom 5 = .ok (.getfield 9, 3) := by decide +kernel
theorem dX5_takeFrom_8 : decode cX5_takeFrom 8 = .ok (.invokestatic 51, 3) := by decide +kernel
theorem dX5_takeFrom_11 : decode cX5_takeFrom 11 = .ok (.aload_n 1, 1) := by decide +kernel
theorem dX5_takeFrom_12 : decode cX5_takeFrom 12 = .ok (.getfield 15, 3) := by decide +kernel
theorem dX5_takeFrom_15 : decode cX5_takeFrom 15 = .ok (.aload_n 0, 1) := by decide +kernel
theorem dX5_takeFrom_16 : decode cX5_takeFrom 16 = .ok (.getfield 15, 3) := by decide +kernel
theorem dX5_takeFrom_19 : decode cX5_takeFrom 19 = .ok (.invokestatic 51, 3) := by decide +kernel
theorem dX5_takeFrom_22 : decode cX5_takeFrom 22 = .ok (.aload_n 1, 1) := by decide +kernel
theorem dX5_takeFrom_23 : decode cX5_takeFrom 23 = .ok (.getfield 18, 3) := by decide +kernel
theorem dX5_takeFrom_26 : decode cX5_takeFrom 26 = .ok (.aload_n 0, 1) := by decide +kernel
theorem dX5_takeFrom_27 : decode cX5_takeFrom 27 = .ok (.getfield 18, 3) := by decide +kernel
theorem dX5_takeFrom_30 : decode cX5_takeFrom 30 = .ok (.invokestatic 51, 3) := by decide +kernel
theorem dX5_takeFrom_33 : decode cX5_takeFrom 33 = .ok (.aload_n 1, 1) := by decide +kernel
theorem dX5_takeFrom_34 : decode cX5_takeFrom 34 = .ok (.getfield 21, 3) := by decide +kernel
theorem dX5_takeFrom_37 : decode cX5_takeFrom 37 = .ok (.aload_n 0, 1) := by decide +kernel
theorem dX5_takeFrom_38 : decode cX5_takeFrom 38 = .ok (.getfield 21, 3) := by decide +kernel
theorem dX5_takeFrom_41 : decode cX5_takeFrom 41 = .ok (.invokestatic 51, 3) := by decide +kernel
theorem dX5_takeFrom_44 : decode cX5_takeFrom 44 = .ok (.aload_n 1, 1) := by decide +kernel
theorem dX5_takeFrom_45 : decode cX5_takeFrom 45 = .ok (.getfield 24, 3) := by decide +kernel
theorem dX5_takeFrom_48 : decode cX5_takeFrom 48 = .ok (.aload_n 0, 1) := by decide +kernel
theorem dX5_takeFrom_49 : decode cX5_takeFrom 49 = .ok (.getfield 24, 3) := by decide +kernel
theorem dX5_takeFrom_52 : decode cX5_takeFrom 52 = .ok (.invokestatic 51, 3) := by decide +kernel
theorem dX5_takeFrom_55 : decode cX5_takeFrom 55 = .ok (.aload_n 1, 1) := by decide +kernel
theorem dX5_takeFrom_56 : decode cX5_takeFrom 56 = .ok (.getfield 27, 3) := by decide +kernel
theorem dX5_takeFrom_59 : decode cX5_takeFrom 59 = .ok (.aload_n 0, 1) := by decide +kernel
theorem dX5_takeFrom_60 : decode cX5_takeFrom 60 = .ok (.getfield 27, 3) := by decide +kernel
theorem dX5_takeFrom_63 : decode cX5_takeFrom 63 = .ok (.invokestatic 51, 3) := by decide +kernel
theorem dX5_takeFrom_66 : decode cX5_takeFrom 66 = .ok (.aload_n 0, 1) := by decide +kernel
theorem dX5_takeFrom_67 : decode cX5_takeFrom 67 = .ok (.aload_n 1, 1) := by decide +kernel
theorem dX5_takeFrom_68 : decode cX5_takeFrom 68 = .ok (.getfield 30, 3) := by decide +kernel
theorem dX5_takeFrom_71 : decode cX5_takeFrom 71 = .ok (.putfield 30, 3) := by decide +kernel
theorem dX5_takeFrom_74 : decode cX5_takeFrom 74 = .ok (.aload_n 0, 1) := by decide +kernel
theorem dX5_takeFrom_75 : decode cX5_takeFrom 75 = .ok (.aload_n 1, 1) := by decide +kernel
theorem dX5_takeFrom_76 : decode cX5_takeFrom 76 = .ok (.getfield 34, 3) := by decide +kernel
theorem dX5_takeFrom_79 : decode cX5_takeFrom 79 = .ok (.putfield 34, 3) := by decide +kernel
theorem dX5_takeFrom_82 : decode cX5_takeFrom 82 = .ok (.aload_n 0, 1) := by decide +kernel
theorem dX5_takeFrom_83 : decode cX5_takeFrom 83 = .ok (.aload_n 1, 1) := by decide +kernel
theorem dX5_takeFrom_84 : decode cX5_takeFrom 84 = .ok (.getfield 37, 3) := by decide +kernel
theorem dX5_takeFrom_87 : decode cX5_takeFrom 87 = .ok (.putfield 37, 3) := by decide +kernel
theorem dX5_takeFrom_90 : decode cX5_takeFrom 90 = .ok (.return_, 1) := by decide +kernel
set_option maxRecDepth 20000 in
theorem ggX6_init_X4_init : GoodIn wsX6_init wsX4_init := goodIn_r _ [17, 18, 2, 3, 8, 19, 20, 21, 22, 23, 24, 25, 26, 27, 28, 29, 30] (by decide +kernel) (by decide +kernel)
set_option maxRecDepth 20000 in
theorem gX6_init_X4_init_n11 : GoodIn wsX6_init (wsX4_init) := ggX6_init_X4_init
theorem dX6_init_0 : decode cX6_init 0 = .ok (.aload_n 0, 1) := by decide +kernel
theorem dX6_init_1 : decode cX6_init 1 = .ok (.invokespecial 3, 3) := by decide +kernel
theorem dX6_init_4 : decode cX6_init 4 = .ok (.aload_n 0, 1) := by decide +kernel
theorem dX6_init_5 : decode cX6_init 5 = .ok (.new 9, 3) := by decide +kernel
theorem dX6_init_8 : decode cX6_init 8 = .ok (.dup, 1) := by decide +kernel
theorem dX6_init_9 : decode cX6_init 9 = .ok (.invokespecial 11, 3) := by decide +kernel
theorem dX6_init_12 : decode cX6_init 12 = .ok (.putfield 12, 3) := by decide +kernel
theorem dX6_init_15 : decode cX6_init 15 = .ok (.aload_n 0, 1) := by decide +kernel
theorem dX6_init_16 : decode cX6_init 16 = .ok (.sipush 512, 3) := by decide +kernel
theorem dX6_init_19 : decode cX6_init 19 = .ok (.newarray .int, 2) := by decide +kernel
theorem dX6_init_21 : decode cX6_init 21 = .ok (.putfield 18, 3) := by decide +kernel
theorem dX6_init_24 : decode cX6_init 24 = .ok (.aload_n 0, 1) := by decide +kernel
theorem dX6_init_25 : decode cX6_init 25 = .ok (.bipush 6, 2) := by decide +kernel
theorem dX6_init_27 : decode cX6_init 27 = .ok (.newarray .int, 2) := by decide +kernel
theorem dX6_init_29 : decode cX6_init 29 = .ok (.putfield 22, 3) := by decide +kernel
theorem dX6_init_32 : decode cX6_init 32 = .ok (.aload_n 0, 1) := by decide +kernel
theorem dX6_init_33 : decode cX6_init 33 = .ok (.bipush 6, 2) := by decide +kernel
theorem dX6_init_35 : decode cX6_init 35 = .ok (.newarray .int, 2) := by decide +kernel
theorem dX6_init_37 : decode cX6_init 37 = .ok (.putfield 25, 3) := by decide +kernel
theorem dX6_init_40 : decode cX6_init 40 = .ok (.aload_n 0, 1) := by decide +kernel
theorem dX6_init_41 : decode cX6_init 41 = .ok (.bipush 6, 2) := by decide +kernel
theorem dX6_init_43 : decode cX6_init 43 = .ok (.newarray .int, 2) := by decide +kernel
theorem dX6_init_45 : decode cX6_init 45 = .ok (.putfield 28, 3) := by decide +kernel
theorem dX6_init_48 : decode cX6_init 48 = .ok (.aload_n 0, 1) := by decide +kernel
theorem dX6_init_49 : decode cX6_init 49 = .ok (.bipush 6, 2) := by decide +kernel
theorem dX6_init_51 : decode cX6_init 51 = .ok (.newarray .int, 2) := by decide +kernel
theorem dX6_init_53 : decode cX6_init 53 = .ok (.putfield 31, 3) := by decide +kernel
theorem dX6_init_56 : decode cX6_init 56 = .ok (.aload_n 0, 1) := by decide +kernel
theorem dX6_init_57 : decode cX6_init 57 = .ok (.bipush 6, 2) := by decide +kernel
theorem dX6_init_59 : decode cX6_init 59 = .ok (.newarray .int, 2) := by decide +kernel
theorem dX6_init_61 : decode cX6_init 61 = .ok (.putfield 34, 3) := by decide +kernel
theorem dX6_init_64 : decode cX6_init 64 = .ok (.aload_n 0, 1) := by decide +kernel
theorem dX6_init_65 : decode cX6_init 65 = .ok (.bipush 6, 2) := by decide +kernel
theorem dX6_init_67 : decode cX6_init 67 = .ok (.newarray .int, 2) := by decide +kernel
theorem dX6_init_69 : decode cX6_init 69 = .ok (.putfield 37, 3) := by decide +kernel
theorem dX6_init_72 : decode cX6_init 72 = .ok (.return_, 1) := by decide +kernel
set_option maxRecDepth 20000 in
theorem ggX6_goThrough_X6_clear : GoodIn wsX6_goThrough wsX6_clear := goodIn_r _ [7, 8, 9, 10, 11, 12, 13, 14, 15, 16, 107, 108, 109, 110, 111, 112, 113, 114, 115, 116, 117, 118] (by decide +kernel) (by decide +kernel)
set_option maxRecDepth 20000 in
theorem gX6_goThrough_X6_clear : GoodIn wsX6_goThrough (wsV RX6 40 RX6 yX6_clear wsX6_clear) := goodIn_app (goodIn_of _ (by decide +kernel)) ggX6_goThrough_X6_clear
set_option maxRecDepth 20000 in
theorem ggX6_goThrough_X1_standing : GoodIn wsX6_goThrough wsX1_standing := goodIn_r _ [20, 21, 22, 23, 24, 18, 25, 26, 27, 28, 29, 30, 31, 32, 119, 120, 121, 122, 123, 124, 125, 126, 127, 128, 129, 130, 131] (by decide +kernel) (by decide +kernel)
set_option maxRecDepth 20000 in
theorem gX6_goThrough_X1_standing_n43 : GoodIn wsX6_goThrough (wsX1_standing) := ggX6_goThrough_X1_standing
set_option maxRecDepth 20000 in
theorem ggX6_goThrough_X4_beginWith : GoodIn wsX6_goThrough wsX4_beginWith := goodIn_r _ [36, 37, 38, 39, 40, 31, 29, 32, 41, 42, 43, 18, 44, 45, 21, 46, 47, 48, 49, 28, 30, 22, 23, 24, 25, 26, 27, 50, 51, 52, 53, 132, 133, 134, 135, 136, 137, 138, 119, 120, 121, 122, 123, 124, 125, 126, 127, 128, 129, 130, 131] (by decide +kernel) (by decide +kernel)
set_option maxRecDepth 20000 in
theorem gX6_goThrough_X4_beginWith_n52 : GoodIn wsX6_goThrough (wsX4_beginWith) := ggX6_goThrough_X4_beginWith
set_option maxRecDepth 20000 in
theorem ggX6_goThrough_X4_walk : GoodIn wsX6_goThrough wsX4_walk := goodIn_r _ [56, 37, 38, 57, 58, 48, 59, 39, 60, 47, 49, 61, 62, 40, 63, 28, 29, 30, 41, 42, 119, 120, 121, 122, 123, 124, 125, 126, 127, 128, 129, 130, 131, 132, 133, 134, 135, 136, 137, 138] (by decide +kernel) (by decide +kernel)
set_option maxRecDepth 20000 in
theorem gX6_goThrough_X4_walk_n56 : GoodIn wsX6_goThrough (wsX4_walk) := ggX6_goThrough_X4_walk
set_option maxRecDepth 20000 in
theorem ggX6_goThrough_X6_note : GoodIn wsX6_goThrough wsX6_note := goodIn_r _ [67, 2, 1, 8, 12, 68, 34, 69, 70, 31, 29, 32, 71, 72, 73, 74, 61, 62, 28, 30, 41, 42, 75, 76, 77, 78, 79, 80, 81, 82, 83, 84, 85, 86, 87, 6, 88, 11, 89, 90, 91, 92, 93, 94, 48, 95, 96, 97, 47, 49, 9, 10, 98, 99, 107, 108, 109, 110, 111, 112, 113, 114, 115, 116, 117, 118, 119, 120, 121, 122, 123, 124, 125, 126, 127, 128, 129, 130, 131, 132, 133, 134, 135, 136, 137, 138, 139, 140, 141] (by decide +kernel) (by decide +kernel)
set_option maxRecDepth 20000 in
theorem gX6_goThrough_X6_note : GoodIn wsX6_goThrough (wsV RX6 59 RX6 yX6_note wsX6_note) := goodIn_app (goodIn_of _ (by decide +kernel)) ggX6_goThrough_X6_note
set_option maxRecDepth 20000 in
theorem ggX6_goThrough_X4_turnToNext : GoodIn wsX6_goThrough wsX4_turnToNext := goodIn_r _ [102, 37, 38, 28, 29, 30, 103, 104, 105, 34, 106, 41, 42, 132, 133, 134, 135, 136, 137, 138] (by decide +kernel) (by decide +kernel)
set_option maxRecDepth 20000 in
theorem gX6_goThrough_X4_turnToNext_n63 : GoodIn wsX6_goThrough (wsX4_turnToNext) := ggX6_goThrough_X4_turnToNext
theorem dX6_goThrough_0 : decode cX6_goThrough 0 = .ok (.aload_n 0, 1) := by decide +kernel
theorem dX6_goThrough_1 : decode cX6_goThrough 1 = .ok (.invokevirtual 40, 3) := by decide +kernel
theorem dX6_goThrough_4 : decode cX6_goThrough 4 = .ok (.aload_n 0, 1) := by decide +kernel
theorem dX6_goThrough_5 : decode cX6_goThrough 5 = .ok (.aload_n 1, 1) := by decide +kernel
theorem dX6_goThrough_6 : decode cX6_goThrough 6 = .ok (.invokevirtual 43, 3) := by decide +kernel
theorem dX6_goThrough_9 : decode cX6_goThrough 9 = .ok (.putfield 49, 3) := by decide +kernel
theorem dX6_goThrough_12 : decode cX6_goThrough 12 = .ok (.aload_n 0, 1) := by decide +kernel
theorem dX6_goThrough_13 : decode cX6_goThrough 13 = .ok (.getfield 12, 3) := by decide +kernel
theorem dX6_goThrough_16 : decode cX6_goThrough 16 = .ok (.aload_n 1, 1) := by decide +kernel
theorem dX6_goThrough_17 : decode cX6_goThrough 17 = .ok (.invokevirtual 52, 3) := by decide +kernel
theorem dX6_goThrough_20 : decode cX6_goThrough 20 = .ok (.iconst 1, 1) := by decide +kernel
theorem dX6_goThrough_21 : decode cX6_goThrough 21 = .ok (.istore_n 3, 1) := by decide +kernel
theorem dX6_goThrough_22 : decode cX6_goThrough 22 = .ok (.iconst 0, 1) := by decide +kernel
theorem dX6_goThrough_23 : decode cX6_goThrough 23 = .ok (.istore 4, 2) := by decide +kernel
theorem dX6_goThrough_25 : decode cX6_goThrough 25 = .ok (.iload 4, 2) := by decide +kernel
theorem dX6_goThrough_27 : decode cX6_goThrough 27 = .ok (.sipush 720, 3) := by decide +kernel
theorem dX6_goThrough_30 : decode cX6_goThrough 30 = .ok (.if_icmp .ge 35, 3) := by decide +kernel
theorem dX6_goThrough_33 : decode cX6_goThrough 33 = .ok (.iload_n 3, 1) := by decide +kernel
theorem dX6_goThrough_34 : decode cX6_goThrough 34 = .ok (.ifCond .eq 31, 3) := by decide +kernel
theorem dX6_goThrough_37 : decode cX6_goThrough 37 = .ok (.aload_n 0, 1) := by decide +kernel
theorem dX6_goThrough_38 : decode cX6_goThrough 38 = .ok (.getfield 12, 3) := by decide +kernel
theorem dX6_goThrough_41 : decode cX6_goThrough 41 = .ok (.aload_n 1, 1) := by decide +kernel
theorem dX6_goThrough_42 : decode cX6_goThrough 42 = .ok (.invokevirtual 56, 3) := by decide +kernel
theorem dX6_goThrough_45 : decode cX6_goThrough 45 = .ok (.aload_n 0, 1) := by decide +kernel
theorem dX6_goThrough_46 : decode cX6_goThrough 46 = .ok (.aload_n 1, 1) := by decide +kernel
theorem dX6_goThrough_47 : decode cX6_goThrough 47 = .ok (.aload_n 2, 1) := by decide +kernel
theorem dX6_goThrough_48 : decode cX6_goThrough 48 = .ok (.invokevirtual 59, 3) := by decide +kernel
theorem dX6_goThrough_51 : decode cX6_goThrough 51 = .ok (.aload_n 0, 1) := by decide +kernel
theorem dX6_goThrough_52 : decode cX6_goThrough 52 = .ok (.getfield 12, 3) := by decide +kernel
theorem dX6_goThrough_55 : decode cX6_goThrough 55 = .ok (.invokevirtual 63, 3) := by decide +kernel
theorem dX6_goThrough_58 : decode cX6_goThrough 58 = .ok (.istore_n 3, 1) := by decide +kernel
theorem dX6_goThrough_59 : decode cX6_goThrough 59 = .ok (.iinc 4 1, 3) := by decide +kernel
theorem dX6_goThrough_62 : decode cX6_goThrough 62 = .ok (.goto (-37), 3) := by decide +kernel
theorem dX6_goThrough_65 : decode cX6_goThrough 65 = .ok (.return_, 1) := by decide +kernel
set_option maxRecDepth 20000 in
theorem ggX6_clear_J7_fill_53178 : GoodIn wsX6_clear wsJ7_fill_53178 := goodIn_r _ [9] (by decide +kernel) (by decide +kernel)
set_option maxRecDepth 20000 in
theorem gX6_clear_J7_fill_53178 : GoodIn wsX6_clear (va_wsS RX6 67 yJ7_fill_53178 wsJ7_fill_53178) := goodIn_app (goodIn_of _ (by decide +kernel)) ggX6_clear_J7_fill_53178
theorem dX6_clear_0 : decode cX6_clear 0 = .ok (.aload_n 0, 1) := by decide +kernel
theorem dX6_clear_1 : decode cX6_clear 1 = .ok (.getfield 18, 3) := by decide +kernel
theorem dX6_clear_4 : decode cX6_clear 4 = .ok (.iconst 0, 1) := by decide +kernel
theorem dX6_clear_5 : decode cX6_clear 5 = .ok (.invokestatic 67, 3) := by decide +kernel
theorem dX6_clear_8 : decode cX6_clear 8 = .ok (.aload_n 0, 1) := by decide +kernel
theorem dX6_clear_9 : decode cX6_clear 9 = .ok (.getfield 34, 3) := by decide +kernel
theorem dX6_clear_12 : decode cX6_clear 12 = .ok (.iconst 0, 1) := by decide +kernel
theorem dX6_clear_13 : decode cX6_clear 13 = .ok (.invokestatic 67, 3) := by decide +kernel
theorem dX6_clear_16 : decode cX6_clear 16 = .ok (.aload_n 0, 1) := by decide +kernel
theorem dX6_clear_17 : decode cX6_clear 17 = .ok (.getfield 37, 3) := by decide +kernel
theorem dX6_clear_20 : decode cX6_clear 20 = .ok (.iconst 0, 1) := by decide +kernel
theorem dX6_clear_21 : decode cX6_clear 21 = .ok (.invokestatic 67, 3) := by decide +kernel
theorem dX6_clear_24 : decode cX6_clear 24 = .ok (.aload_n 0, 1) := by decide +kernel
theorem dX6_clear_25 : decode cX6_clear 25 = .ok (.iconst 0, 1) := by decide +kernel
theorem dX6_clear_26 : decode cX6_clear 26 = .ok (.putfield 73, 3) := by decide +kernel
theorem dX6_clear_29 : decode cX6_clear 29 = .ok (.aload_n 0, 1) := by decide +kernel
theorem dX6_clear_30 : decode cX6_clear 30 = .ok (.iconst 0, 1) := by decide +kernel
theorem dX6_clear_31 : decode cX6_clear 31 = .ok (.putfield 76, 3) := by decide +kernel
theorem dX6_clear_34 : decode cX6_clear 34 = .ok (.return_, 1) := by decide +kernel
set_option maxRecDepth 20000 in
theorem ggX6_note_X4_keptOf : GoodIn wsX6_note wsX4_keptOf := goodIn_r _ [8, 9, 10, 11, 12, 13, 14, 6, 15, 16, 17, 18, 19, 70, 71, 72, 73, 74, 75, 76, 77, 78, 79, 80, 81, 82, 83, 84, 85] (by decide +kernel) (by decide +kernel)
set_option maxRecDepth 20000 in
theorem gX6_note_X4_keptOf_n83 : GoodIn wsX6_note (wsX4_keptOf) := ggX6_note_X4_keptOf
set_option maxRecDepth 20000 in
theorem ggX6_note_X8_put : GoodIn wsX6_note wsX8_put := goodIn_r _ [21] (by decide +kernel) (by decide +kernel)
set_option maxRecDepth 20000 in
theorem gX6_note_X8_put_n87 : GoodIn wsX6_note (wsX8_put) := ggX6_note_X8_put
set_option maxRecDepth 20000 in
theorem ggX6_note_X0_agreeWith : GoodIn wsX6_note wsX0_agreeWith := goodIn_r _ [25, 26, 27, 28, 18, 10, 19, 9, 11, 29, 6, 30, 31, 16, 86, 87, 88, 79, 80, 81, 82, 83, 84, 85] (by decide +kernel) (by decide +kernel)
set_option maxRecDepth 20000 in
theorem gX6_note_X0_agreeWith_n94 : GoodIn wsX6_note (wsX0_agreeWith) := ggX6_note_X0_agreeWith
set_option maxRecDepth 20000 in
theorem ggX6_note_X6_noteGood : GoodIn wsX6_note wsX6_noteGood := goodIn_r _ [36, 37, 1, 38, 39, 40, 41, 42, 43, 44, 45, 46, 47, 48, 49, 50, 51, 52, 10, 53, 18, 19, 20, 21, 54, 55, 56, 57, 58, 59, 60, 61, 62, 63, 64, 65, 79, 80, 81, 82, 83, 84, 85] (by decide +kernel) (by decide +kernel)
set_option maxRecDepth 20000 in
theorem gX6_note_X6_noteGood : GoodIn wsX6_note (wsV RX6 100 RX6 yX6_noteGood wsX6_noteGood) := goodIn_app (goodIn_of _ (by decide +kernel)) ggX6_note_X6_noteGood
theorem dX6_note_0 : decode cX6_note 0 = .ok (.aload_n 0, 1) := by decide +kernel
theorem dX6_note_1 : decode cX6_note 1 = .ok (.getfield 12, 3) := by decide +kernel
theorem dX6_note_4 : decode cX6_note 4 = .ok (.aload_n 1, 1) := by decide +kernel
theorem dX6_note_5 : decode cX6_note 5 = .ok (.getfield 79, 3) := by decide +kernel
theorem dX6_note_8 : decode cX6_note 8 = .ok (.aload_n 0, 1) := by decide +kernel
theorem dX6_note_9 : decode cX6_note 9 = .ok (.getfield 49, 3) := by decide +kernel
theorem dX6_note_12 : decode cX6_note 12 = .ok (.invokevirtual 83, 3) := by decide +kernel
theorem dX6_note_15 : decode cX6_note 15 = .ok (.istore_n 3, 1) := by decide +kernel
theorem dX6_note_16 : decode cX6_note 16 = .ok (.aload_n 0, 1) := by decide +kernel
theorem dX6_note_17 : decode cX6_note 17 = .ok (.getfield 18, 3) := by decide +kernel
theorem dX6_note_20 : decode cX6_note 20 = .ok (.iload_n 3, 1) := by decide +kernel
theorem dX6_note_21 : decode cX6_note 21 = .ok (.iconst 1, 1) := by decide +kernel
theorem dX6_note_22 : decode cX6_note 22 = .ok (.invokestatic 87, 3) := by decide +kernel
theorem dX6_note_25 : decode cX6_note 25 = .ok (.aload_n 2, 1) := by decide +kernel
theorem dX6_note_26 : decode cX6_note 26 = .ok (.aload_n 0, 1) := by decide +kernel
theorem dX6_note_27 : decode cX6_note 27 = .ok (.getfield 12, 3) := by decide +kernel
theorem dX6_note_30 : decode cX6_note 30 = .ok (.aload_n 1, 1) := by decide +kernel
theorem dX6_note_31 : decode cX6_note 31 = .ok (.getfield 91, 3) := by decide +kernel
theorem dX6_note_34 : decode cX6_note 34 = .ok (.invokevirtual 94, 3) := by decide +kernel
theorem dX6_note_37 : decode cX6_note 37 = .ok (.istore 4, 2) := by decide +kernel
theorem dX6_note_39 : decode cX6_note 39 = .ok (.iload 4, 2) := by decide +kernel
theorem dX6_note_41 : decode cX6_note 41 = .ok (.ifCond .eq 13, 3) := by decide +kernel
theorem dX6_note_44 : decode cX6_note 44 = .ok (.aload_n 0, 1) := by decide +kernel
theorem dX6_note_45 : decode cX6_note 45 = .ok (.dup, 1) := by decide +kernel
theorem dX6_note_46 : decode cX6_note 46 = .ok (.getfield 76, 3) := by decide +kernel
theorem dX6_note_49 : decode cX6_note 49 = .ok (.iconst 1, 1) := by decide +kernel
theorem dX6_note_50 : decode cX6_note 50 = .ok (.iadd, 1) := by decide +kernel
theorem dX6_note_51 : decode cX6_note 51 = .ok (.putfield 76, 3) := by decide +kernel
theorem dX6_note_54 : decode cX6_note 54 = .ok (.iload_n 3, 1) := by decide +kernel
theorem dX6_note_55 : decode cX6_note 55 = .ok (.aload_n 0, 1) := by decide +kernel
theorem dX6_note_56 : decode cX6_note 56 = .ok (.getfield 49, 3) := by decide +kernel
theorem dX6_note_59 : decode cX6_note 59 = .ok (.if_icmp .ne 9, 3) := by decide +kernel
theorem dX6_note_62 : decode cX6_note 62 = .ok (.aload_n 0, 1) := by decide +kernel
theorem dX6_note_63 : decode cX6_note 63 = .ok (.iload 4, 2) := by decide +kernel
theorem dX6_note_65 : decode cX6_note 65 = .ok (.invokevirtual 100, 3) := by decide +kernel
theorem dX6_note_68 : decode cX6_note 68 = .ok (.return_, 1) := by decide +kernel
set_option maxRecDepth 20000 in
theorem ggX6_noteGood_X8_copy : GoodIn wsX6_noteGood wsX8_copy := goodIn_r _ [19] (by decide +kernel) (by decide +kernel)
set_option maxRecDepth 20000 in
theorem gX6_noteGood_X8_copy_n107 : GoodIn wsX6_noteGood (wsX8_copy) := ggX6_noteGood_X8_copy
set_option maxRecDepth 20000 in
theorem ggX6_noteGood_X8_at : GoodIn wsX6_noteGood wsX8_at := goodIn_r _ [21] (by decide +kernel) (by decide +kernel)
set_option maxRecDepth 20000 in
theorem gX6_noteGood_X8_at_n120 : GoodIn wsX6_noteGood (wsX8_at) := ggX6_noteGood_X8_at
set_option maxRecDepth 20000 in
theorem ggX6_noteGood_X8_put : GoodIn wsX6_noteGood wsX8_put := goodIn_r _ [23] (by decide +kernel) (by decide +kernel)
set_option maxRecDepth 20000 in
theorem gX6_noteGood_X8_put_n87 : GoodIn wsX6_noteGood (wsX8_put) := ggX6_noteGood_X8_put
theorem dX6_noteGood_0 : decode cX6_noteGood 0 = .ok (.aload_n 0, 1) := by decide +kernel
theorem dX6_noteGood_1 : decode cX6_noteGood 1 = .ok (.dup, 1) := by decide +kernel
theorem dX6_noteGood_2 : decode cX6_noteGood 2 = .ok (.getfield 73, 3) := by decide +kernel
theorem dX6_noteGood_5 : decode cX6_noteGood 5 = .ok (.iconst 1, 1) := by decide +kernel
theorem dX6_noteGood_6 : decode cX6_noteGood 6 = .ok (.iadd, 1) := by decide +kernel
theorem dX6_noteGood_7 : decode cX6_noteGood 7 = .ok (.putfield 73, 3) := by decide +kernel
theorem dX6_noteGood_10 : decode cX6_noteGood 10 = .ok (.aload_n 0, 1) := by decide +kernel
theorem dX6_noteGood_11 : decode cX6_noteGood 11 = .ok (.getfield 73, 3) := by decide +kernel
theorem dX6_noteGood_14 : decode cX6_noteGood 14 = .ok (.iconst 1, 1) := by decide +kernel
theorem dX6_noteGood_15 : decode cX6_noteGood 15 = .ok (.if_icmp .ne 7, 3) := by decide +kernel
theorem dX6_noteGood_18 : decode cX6_noteGood 18 = .ok (.iconst 1, 1) := by decide +kernel
theorem dX6_noteGood_19 : decode cX6_noteGood 19 = .ok (.goto 4, 3) := by decide +kernel
theorem dX6_noteGood_22 : decode cX6_noteGood 22 = .ok (.iconst 0, 1) := by decide +kernel
theorem dX6_noteGood_23 : decode cX6_noteGood 23 = .ok (.istore_n 2, 1) := by decide +kernel
theorem dX6_noteGood_24 : decode cX6_noteGood 24 = .ok (.iload_n 2, 1) := by decide +kernel
theorem dX6_noteGood_25 : decode cX6_noteGood 25 = .ok (.ifCond .eq 17, 3) := by decide +kernel
theorem dX6_noteGood_28 : decode cX6_noteGood 28 = .ok (.aload_n 0, 1) := by decide +kernel
theorem dX6_noteGood_29 : decode cX6_noteGood 29 = .ok (.getfield 12, 3) := by decide +kernel
theorem dX6_noteGood_32 : decode cX6_noteGood 32 = .ok (.getfield 104, 3) := by decide +kernel
theorem dX6_noteGood_35 : decode cX6_noteGood 35 = .ok (.aload_n 0, 1) := by decide +kernel
theorem dX6_noteGood_36 : decode cX6_noteGood 36 = .ok (.getfield 22, 3) := by decide +kernel
theorem dX6_noteGood_39 : decode cX6_noteGood 39 = .ok (.invokestatic 107, 3) := by decide +kernel
theorem dX6_noteGood_42 : decode cX6_noteGood 42 = .ok (.iload_n 2, 1) := by decide +kernel
theorem dX6_noteGood_43 : decode cX6_noteGood 43 = .ok (.ifCond .ne 17, 3) := by decide +kernel
theorem dX6_noteGood_46 : decode cX6_noteGood 46 = .ok (.aload_n 0, 1) := by decide +kernel
theorem dX6_noteGood_47 : decode cX6_noteGood 47 = .ok (.getfield 12, 3) := by decide +kernel
theorem dX6_noteGood_50 : decode cX6_noteGood 50 = .ok (.getfield 111, 3) := by decide +kernel
theorem dX6_noteGood_53 : decode cX6_noteGood 53 = .ok (.aload_n 0, 1) := by decide +kernel
theorem dX6_noteGood_54 : decode cX6_noteGood 54 = .ok (.getfield 114, 3) := by decide +kernel
theorem dX6_noteGood_57 : decode cX6_noteGood 57 = .ok (.if_icmp .ge 28, 3) := by decide +kernel
theorem dX6_noteGood_60 : decode cX6_noteGood 60 = .ok (.aload_n 0, 1) := by decide +kernel
theorem dX6_noteGood_61 : decode cX6_noteGood 61 = .ok (.aload_n 0, 1) := by decide +kernel
theorem dX6_noteGood_62 : decode cX6_noteGood 62 = .ok (.getfield 12, 3) := by decide +kernel
theorem dX6_noteGood_65 : decode cX6_noteGood 65 = .ok (.getfield 111, 3) := by decide +kernel
theorem dX6_noteGood_68 : decode cX6_noteGood 68 = .ok (.putfield 114, 3) := by decide +kernel
theorem dX6_noteGood_71 : decode cX6_noteGood 71 = .ok (.aload_n 0, 1) := by decide +kernel
theorem dX6_noteGood_72 : decode cX6_noteGood 72 = .ok (.getfield 12, 3) := by decide +kernel
theorem dX6_noteGood_75 : decode cX6_noteGood 75 = .ok (.getfield 104, 3) := by decide +kernel
theorem dX6_noteGood_78 : decode cX6_noteGood 78 = .ok (.aload_n 0, 1) := by decide +kernel
theorem dX6_noteGood_79 : decode cX6_noteGood 79 = .ok (.getfield 25, 3) := by decide +kernel
theorem dX6_noteGood_82 : decode cX6_noteGood 82 = .ok (.invokestatic 107, 3) := by decide +kernel
theorem dX6_noteGood_85 : decode cX6_noteGood 85 = .ok (.iconst 0, 1) := by decide +kernel
theorem dX6_noteGood_86 : decode cX6_noteGood 86 = .ok (.istore_n 3, 1) := by decide +kernel
theorem dX6_noteGood_87 : decode cX6_noteGood 87 = .ok (.aload_n 0, 1) := by decide +kernel
theorem dX6_noteGood_88 : decode cX6_noteGood 88 = .ok (.getfield 12, 3) := by decide +kernel
theorem dX6_noteGood_91 : decode cX6_noteGood 91 = .ok (.getfield 117, 3) := by decide +kernel
theorem dX6_noteGood_94 : decode cX6_noteGood 94 = .ok (.iconst 1, 1) := by decide +kernel
theorem dX6_noteGood_95 : decode cX6_noteGood 95 = .ok (.isub, 1) := by decide +kernel
theorem dX6_noteGood_96 : decode cX6_noteGood 96 = .ok (.istore 4, 2) := by decide +kernel
theorem dX6_noteGood_98 : decode cX6_noteGood 98 = .ok (.iload 4, 2) := by decide +kernel
theorem dX6_noteGood_100 : decode cX6_noteGood 100 = .ok (.ifCond .lt 146, 3) := by decide +kernel
theorem dX6_noteGood_103 : decode cX6_noteGood 103 = .ok (.aload_n 0, 1) := by decide +kernel
theorem dX6_noteGood_104 : decode cX6_noteGood 104 = .ok (.getfield 12, 3) := by decide +kernel
theorem dX6_noteGood_107 : decode cX6_noteGood 107 = .ok (.getfield 104, 3) := by decide +kernel
theorem dX6_noteGood_110 : decode cX6_noteGood 110 = .ok (.iload 4, 2) := by decide +kernel
theorem dX6_noteGood_112 : decode cX6_noteGood 112 = .ok (.invokestatic 120, 3) := by decide +kernel
theorem dX6_noteGood_115 : decode cX6_noteGood 115 = .ok (.istore 5, 2) := by decide +kernel
theorem dX6_noteGood_117 : decode cX6_noteGood 117 = .ok (.aload_n 0, 1) := by decide +kernel
theorem dX6_noteGood_118 : decode cX6_noteGood 118 = .ok (.getfield 28, 3) := by decide +kernel
theorem dX6_noteGood_121 : decode cX6_noteGood 121 = .ok (.iload 5, 2) := by decide +kernel
theorem dX6_noteGood_123 : decode cX6_noteGood 123 = .ok (.iload_n 2, 1) := by decide +kernel
theorem dX6_noteGood_124 : decode cX6_noteGood 124 = .ok (.ifCond .eq 10, 3) := by decide +kernel
theorem dX6_noteGood_127 : decode cX6_noteGood 127 = .ok (.iload 4, 2) := by decide +kernel
theorem dX6_noteGood_129 : decode cX6_noteGood 129 = .ok (.iconst 1, 1) := by decide +kernel
theorem dX6_noteGood_130 : decode cX6_noteGood 130 = .ok (.iadd, 1) := by decide +kernel
theorem dX6_noteGood_131 : decode cX6_noteGood 131 = .ok (.goto 19, 3) := by decide +kernel
theorem dX6_noteGood_134 : decode cX6_noteGood 134 = .ok (.aload_n 0, 1) := by decide +kernel
theorem dX6_noteGood_135 : decode cX6_noteGood 135 = .ok (.getfield 28, 3) := by decide +kernel
theorem dX6_noteGood_138 : decode cX6_noteGood 138 = .ok (.iload 5, 2) := by decide +kernel
theorem dX6_noteGood_140 : decode cX6_noteGood 140 = .ok (.invokestatic 120, 3) := by decide +kernel
theorem dX6_noteGood_143 : decode cX6_noteGood 143 = .ok (.iload 4, 2) := by decide +kernel
theorem dX6_noteGood_145 : decode cX6_noteGood 145 = .ok (.iconst 1, 1) := by decide +kernel
theorem dX6_noteGood_146 : decode cX6_noteGood 146 = .ok (.iadd, 1) := by decide +kernel
theorem dX6_noteGood_147 : decode cX6_noteGood 147 = .ok (.invokestatic 124, 3) := by decide +kernel
theorem dX6_noteGood_150 : decode cX6_noteGood 150 = .ok (.invokestatic 87, 3) := by decide +kernel
theorem dX6_noteGood_153 : decode cX6_noteGood 153 = .ok (.aload_n 0, 1) := by decide +kernel
theorem dX6_noteGood_154 : decode cX6_noteGood 154 = .ok (.getfield 31, 3) := by decide +kernel
theorem dX6_noteGood_157 : decode cX6_noteGood 157 = .ok (.iload 5, 2) := by decide +kernel
theorem dX6_noteGood_159 : decode cX6_noteGood 159 = .ok (.iload_n 2, 1) := by decide +kernel
theorem dX6_noteGood_160 : decode cX6_noteGood 160 = .ok (.ifCond .eq 10, 3) := by decide +kernel
theorem dX6_noteGood_163 : decode cX6_noteGood 163 = .ok (.iload 4, 2) := by decide +kernel
theorem dX6_noteGood_165 : decode cX6_noteGood 165 = .ok (.iconst 1, 1) := by decide +kernel
theorem dX6_noteGood_166 : decode cX6_noteGood 166 = .ok (.iadd, 1) := by decide +kernel
theorem dX6_noteGood_167 : decode cX6_noteGood 167 = .ok (.goto 19, 3) := by decide +kernel
theorem dX6_noteGood_170 : decode cX6_noteGood 170 = .ok (.aload_n 0, 1) := by decide +kernel
theorem dX6_noteGood_171 : decode cX6_noteGood 171 = .ok (.getfield 31, 3) := by decide +kernel
theorem dX6_noteGood_174 : decode cX6_noteGood 174 = .ok (.iload 5, 2) := by decide +kernel
theorem dX6_noteGood_176 : decode cX6_noteGood 176 = .ok (.invokestatic 120, 3) := by decide +kernel
theorem dX6_noteGood_179 : decode cX6_noteGood 179 = .ok (.iload 4, 2) := by decide +kernel
theorem dX6_noteGood_181 : decode cX6_noteGood 181 = .ok (.iconst 1, 1) := by decide +kernel
theorem dX6_noteGood_182 : decode cX6_noteGood 182 = .ok (.iadd, 1) := by decide +kernel
theorem dX6_noteGood_183 : decode cX6_noteGood 183 = .ok (.invokestatic 130, 3) := by decide +kernel
theorem dX6_noteGood_186 : decode cX6_noteGood 186 = .ok (.invokestatic 87, 3) := by decide +kernel
theorem dX6_noteGood_189 : decode cX6_noteGood 189 = .ok (.aload_n 0, 1) := by decide +kernel
theorem dX6_noteGood_190 : decode cX6_noteGood 190 = .ok (.getfield 34, 3) := by decide +kernel
theorem dX6_noteGood_193 : decode cX6_noteGood 193 = .ok (.iload 5, 2) := by decide +kernel
theorem dX6_noteGood_195 : decode cX6_noteGood 195 = .ok (.aload_n 0, 1) := by decide +kernel
theorem dX6_noteGood_196 : decode cX6_noteGood 196 = .ok (.getfield 34, 3) := by decide +kernel
theorem dX6_noteGood_199 : decode cX6_noteGood 199 = .ok (.iload 5, 2) := by decide +kernel
theorem dX6_noteGood_201 : decode cX6_noteGood 201 = .ok (.invokestatic 120, 3) := by decide +kernel
theorem dX6_noteGood_204 : decode cX6_noteGood 204 = .ok (.iload_n 3, 1) := by decide +kernel
theorem dX6_noteGood_205 : decode cX6_noteGood 205 = .ok (.ior, 1) := by decide +kernel
theorem dX6_noteGood_206 : decode cX6_noteGood 206 = .ok (.invokestatic 87, 3) := by decide +kernel
theorem dX6_noteGood_209 : decode cX6_noteGood 209 = .ok (.iload_n 1, 1) := by decide +kernel
theorem dX6_noteGood_210 : decode cX6_noteGood 210 = .ok (.ifCond .eq 23, 3) := by decide +kernel
theorem dX6_noteGood_213 : decode cX6_noteGood 213 = .ok (.aload_n 0, 1) := by decide +kernel
theorem dX6_noteGood_214 : decode cX6_noteGood 214 = .ok (.getfield 37, 3) := by decide +kernel
theorem dX6_noteGood_217 : decode cX6_noteGood 217 = .ok (.iload 5, 2) := by decide +kernel
theorem dX6_noteGood_219 : decode cX6_noteGood 219 = .ok (.aload_n 0, 1) := by decide +kernel
theorem dX6_noteGood_220 : decode cX6_noteGood 220 = .ok (.getfield 37, 3) := by decide +kernel
theorem dX6_noteGood_223 : decode cX6_noteGood 223 = .ok (.iload 5, 2) := by decide +kernel
theorem dX6_noteGood_225 : decode cX6_noteGood 225 = .ok (.invokestatic 120, 3) := by decide +kernel
theorem dX6_noteGood_228 : decode cX6_noteGood 228 = .ok (.iload_n 3, 1) := by decide +kernel
theorem dX6_noteGood_229 : decode cX6_noteGood 229 = .ok (.ior, 1) := by decide +kernel
theorem dX6_noteGood_230 : decode cX6_noteGood 230 = .ok (.invokestatic 87, 3) := by decide +kernel
theorem dX6_noteGood_233 : decode cX6_noteGood 233 = .ok (.iload_n 3, 1) := by decide +kernel
theorem dX6_noteGood_234 : decode cX6_noteGood 234 = .ok (.iconst 1, 1) := by decide +kernel
theorem dX6_noteGood_235 : decode cX6_noteGood 235 = .ok (.iload 5, 2) := by decide +kernel
theorem dX6_noteGood_237 : decode cX6_noteGood 237 = .ok (.ishl, 1) := by decide +kernel
theorem dX6_noteGood_238 : decode cX6_noteGood 238 = .ok (.ior, 1) := by decide +kernel
theorem dX6_noteGood_239 : decode cX6_noteGood 239 = .ok (.istore_n 3, 1) := by decide +kernel
theorem dX6_noteGood_240 : decode cX6_noteGood 240 = .ok (.iinc 4 (-1), 3) := by decide +kernel
theorem dX6_noteGood_243 : decode cX6_noteGood 243 = .ok (.goto (-145), 3) := by decide +kernel
theorem dX6_noteGood_246 : decode cX6_noteGood 246 = .ok (.return_, 1) := by decide +kernel
theorem dX6_endOrNone_0 : decode cX6_endOrNone 0 = .ok (.aload_n 0, 1) := by decide +kernel
theorem dX6_endOrNone_1 : decode cX6_endOrNone 1 = .ok (.getfield 73, 3) := by decide +kernel
theorem dX6_endOrNone_4 : decode cX6_endOrNone 4 = .ok (.ifCond .le 10, 3) := by decide +kernel
theorem dX6_endOrNone_7 : decode cX6_endOrNone 7 = .ok (.aload_n 0, 1) := by decide +kernel
theorem dX6_endOrNone_8 : decode cX6_endOrNone 8 = .ok (.getfield 114, 3) := by decide +kernel
theorem dX6_endOrNone_11 : decode cX6_endOrNone 11 = .ok (.goto 5, 3) := by decide +kernel
theorem dX6_endOrNone_14 : decode cX6_endOrNone 14 = .ok (.bipush (-4), 2) := by decide +kernel
theorem dX6_endOrNone_16 : decode cX6_endOrNone 16 = .ok (.ireturn, 1) := by decide +kernel
set_option maxRecDepth 20000 in
theorem ggX6_largestKept_J6_bitCount_0f7a4 : GoodIn wsX6_largestKept wsJ6_bitCount_0f7a4 := goodIn_r _ [5, 6, 7, 8] (by decide +kernel) (by decide +kernel)
set_option maxRecDepth 20000 in
theorem gX6_largestKept_J6_bitCount_0f7a4 : GoodIn wsX6_largestKept (va_wsS RX6 133 yJ6_bitCount_0f7a4 wsJ6_bitCount_0f7a4) := goodIn_app (goodIn_of _ (by decide +kernel)) ggX6_largestKept_J6_bitCount_0f7a4
theorem dX6_largestKept_0 : decode cX6_largestKept 0 = .ok (.iconst 0, 1) := by decide +kernel
theorem dX6_largestKept_1 : decode cX6_largestKept 1 = .ok (.istore_n 1, 1) := by decide +kernel
theorem dX6_largestKept_2 : decode cX6_largestKept 2 = .ok (.iconst 0, 1) := by decide +kernel
theorem dX6_largestKept_3 : decode cX6_largestKept 3 = .ok (.istore_n 2, 1) := by decide +kernel
theorem dX6_largestKept_4 : decode cX6_largestKept 4 = .ok (.iload_n 2, 1) := by decide +kernel
theorem dX6_largestKept_5 : decode cX6_largestKept 5 = .ok (.aload_n 0, 1) := by decide +kernel
theorem dX6_largestKept_6 : decode cX6_largestKept 6 = .ok (.getfield 18, 3) := by decide +kernel
theorem dX6_largestKept_9 : decode cX6_largestKept 9 = .ok (.arraylength, 1) := by decide +kernel
theorem dX6_largestKept_10 : decode cX6_largestKept 10 = .ok (.if_icmp .ge 32, 3) := by decide +kernel
theorem dX6_largestKept_13 : decode cX6_largestKept 13 = .ok (.aload_n 0, 1) := by decide +kernel
theorem dX6_largestKept_14 : decode cX6_largestKept 14 = .ok (.getfield 18, 3) := by decide +kernel
theorem dX6_largestKept_17 : decode cX6_largestKept 17 = .ok (.iload_n 2, 1) := by decide +kernel
theorem dX6_largestKept_18 : decode cX6_largestKept 18 = .ok (.iaload, 1) := by decide +kernel
theorem dX6_largestKept_19 : decode cX6_largestKept 19 = .ok (.iconst 1, 1) := by decide +kernel
theorem dX6_largestKept_20 : decode cX6_largestKept 20 = .ok (.if_icmp .ne 16, 3) := by decide +kernel
theorem dX6_largestKept_23 : decode cX6_largestKept 23 = .ok (.iload_n 2, 1) := by decide +kernel
theorem dX6_largestKept_24 : decode cX6_largestKept 24 = .ok (.invokestatic 133, 3) := by decide +kernel
theorem dX6_largestKept_27 : decode cX6_largestKept 27 = .ok (.iload_n 1, 1) := by decide +kernel
theorem dX6_largestKept_28 : decode cX6_largestKept 28 = .ok (.invokestatic 133, 3) := by decide +kernel
theorem dX6_largestKept_31 : decode cX6_largestKept 31 = .ok (.if_icmp .le 5, 3) := by decide +kernel
theorem dX6_largestKept_34 : decode cX6_largestKept 34 = .ok (.iload_n 2, 1) := by decide +kernel
theorem dX6_largestKept_35 : decode cX6_largestKept 35 = .ok (.istore_n 1, 1) := by decide +kernel
theorem dX6_largestKept_36 : decode cX6_largestKept 36 = .ok (.iinc 2 1, 3) := by decide +kernel
theorem dX6_largestKept_39 : decode cX6_largestKept 39 = .ok (.goto (-35), 3) := by decide +kernel
theorem dX6_largestKept_42 : decode cX6_largestKept 42 = .ok (.iload_n 1, 1) := by decide +kernel
theorem dX6_largestKept_43 : decode cX6_largestKept 43 = .ok (.ireturn, 1) := by decide +kernel
set_option maxRecDepth 20000 in
theorem ggX6_smallestNeverKept_J6_bitCount_0f7a4 : GoodIn wsX6_smallestNeverKept wsJ6_bitCount_0f7a4 := goodIn_r _ [5, 6, 7, 8] (by decide +kernel) (by decide +kernel)
set_option maxRecDepth 20000 in
theorem gX6_smallestNeverKept_J6_bitCount_0f7a4 : GoodIn wsX6_smallestNeverKept (va_wsS RX6 133 yJ6_bitCount_0f7a4 wsJ6_bitCount_0f7a4) := goodIn_app (goodIn_of _ (by decide +kernel)) ggX6_smallestNeverKept_J6_bitCount_0f7a4
set_option maxRecDepth 20000 in
theorem ggX6_smallestNeverKept_X6_isKeptByOne : GoodIn wsX6_smallestNeverKept wsX6_isKeptByOne := goodIn_r _ [13, 14, 15, 16, 17, 18, 19, 20, 21, 22, 23, 24, 25, 26] (by decide +kernel) (by decide +kernel)
set_option maxRecDepth 20000 in
theorem gX6_smallestNeverKept_X6_isKeptByOne : GoodIn wsX6_smallestNeverKept (wsV RX6 139 RX6 yX6_isKeptByOne wsX6_isKeptByOne) := goodIn_app (goodIn_of _ (by decide +kernel)) ggX6_smallestNeverKept_X6_isKeptByOne
theorem dX6_smallestNeverKept_0 : decode cX6_smallestNeverKept 0 = .ok (.aload_n 0, 1) := by decide +kernel
theorem dX6_smallestNeverKept_1 : decode cX6_smallestNeverKept 1 = .ok (.getfield 49, 3) := by decide +kernel
theorem dX6_smallestNeverKept_4 : decode cX6_smallestNeverKept 4 = .ok (.istore_n 1, 1) := by decide +kernel
theorem dX6_smallestNeverKept_5 : decode cX6_smallestNeverKept 5 = .ok (.iconst 0, 1) := by decide +kernel
theorem dX6_smallestNeverKept_6 : decode cX6_smallestNeverKept 6 = .ok (.istore_n 2, 1) := by decide +kernel
theorem dX6_smallestNeverKept_7 : decode cX6_smallestNeverKept 7 = .ok (.iload_n 2, 1) := by decide +kernel
theorem dX6_smallestNeverKept_8 : decode cX6_smallestNeverKept 8 = .ok (.aload_n 0, 1) := by decide +kernel
theorem dX6_smallestNeverKept_9 : decode cX6_smallestNeverKept 9 = .ok (.getfield 49, 3) := by decide +kernel
theorem dX6_smallestNeverKept_12 : decode cX6_smallestNeverKept 12 = .ok (.if_icmp .ge 51, 3) := by decide +kernel
theorem dX6_smallestNeverKept_15 : decode cX6_smallestNeverKept 15 = .ok (.iload_n 2, 1) := by decide +kernel
theorem dX6_smallestNeverKept_16 : decode cX6_smallestNeverKept 16 = .ok (.aload_n 0, 1) := by decide +kernel
theorem dX6_smallestNeverKept_17 : decode cX6_smallestNeverKept 17 = .ok (.getfield 49, 3) := by decide +kernel
theorem dX6_smallestNeverKept_20 : decode cX6_smallestNeverKept 20 = .ok (.iconst (-1), 1) := by decide +kernel
theorem dX6_smallestNeverKept_21 : decode cX6_smallestNeverKept 21 = .ok (.ixor, 1) := by decide +kernel
theorem dX6_smallestNeverKept_22 : decode cX6_smallestNeverKept 22 = .ok (.iand, 1) := by decide +kernel
theorem dX6_smallestNeverKept_23 : decode cX6_smallestNeverKept 23 = .ok (.ifCond .ne 7, 3) := by decide +kernel
theorem dX6_smallestNeverKept_26 : decode cX6_smallestNeverKept 26 = .ok (.iconst 1, 1) := by decide +kernel
theorem dX6_smallestNeverKept_27 : decode cX6_smallestNeverKept 27 = .ok (.goto 4, 3) := by decide +kernel
theorem dX6_smallestNeverKept_30 : decode cX6_smallestNeverKept 30 = .ok (.iconst 0, 1) := by decide +kernel
theorem dX6_smallestNeverKept_31 : decode cX6_smallestNeverKept 31 = .ok (.istore_n 3, 1) := by decide +kernel
theorem dX6_smallestNeverKept_32 : decode cX6_smallestNeverKept 32 = .ok (.iload_n 3, 1) := by decide +kernel
theorem dX6_smallestNeverKept_33 : decode cX6_smallestNeverKept 33 = .ok (.ifCond .eq 24, 3) := by decide +kernel
theorem dX6_smallestNeverKept_36 : decode cX6_smallestNeverKept 36 = .ok (.iload_n 2, 1) := by decide +kernel
theorem dX6_smallestNeverKept_37 : decode cX6_smallestNeverKept 37 = .ok (.invokestatic 133, 3) := by decide +kernel
theorem dX6_smallestNeverKept_40 : decode cX6_smallestNeverKept 40 = .ok (.iload_n 1, 1) := by decide +kernel
theorem dX6_smallestNeverKept_41 : decode cX6_smallestNeverKept 41 = .ok (.invokestatic 133, 3) := by decide +kernel
theorem dX6_smallestNeverKept_44 : decode cX6_smallestNeverKept 44 = .ok (.if_icmp .ge 13, 3) := by decide +kernel
theorem dX6_smallestNeverKept_47 : decode cX6_smallestNeverKept 47 = .ok (.aload_n 0, 1) := by decide +kernel
theorem dX6_smallestNeverKept_48 : decode cX6_smallestNeverKept 48 = .ok (.iload_n 2, 1) := by decide +kernel
theorem dX6_smallestNeverKept_49 : decode cX6_smallestNeverKept 49 = .ok (.invokevirtual 139, 3) := by decide +kernel
theorem dX6_smallestNeverKept_52 : decode cX6_smallestNeverKept 52 = .ok (.ifCond .ne 5, 3) := by decide +kernel
theorem dX6_smallestNeverKept_55 : decode cX6_smallestNeverKept 55 = .ok (.iload_n 2, 1) := by decide +kernel
theorem dX6_smallestNeverKept_56 : decode cX6_smallestNeverKept 56 = .ok (.istore_n 1, 1) := by decide +kernel
theorem dX6_smallestNeverKept_57 : decode cX6_smallestNeverKept 57 = .ok (.iinc 2 1, 3) := by decide +kernel
theorem dX6_smallestNeverKept_60 : decode cX6_smallestNeverKept 60 = .ok (.goto (-53), 3) := by decide +kernel
theorem dX6_smallestNeverKept_63 : decode cX6_smallestNeverKept 63 = .ok (.iload_n 1, 1) := by decide +kernel
theorem dX6_smallestNeverKept_64 : decode cX6_smallestNeverKept 64 = .ok (.ireturn, 1) := by decide +kernel
theorem dX6_isKeptByOne_0 : decode cX6_isKeptByOne 0 = .ok (.iload_n 1, 1) := by decide +kernel
theorem dX6_isKeptByOne_1 : decode cX6_isKeptByOne 1 = .ok (.istore_n 2, 1) := by decide +kernel
theorem dX6_isKeptByOne_2 : decode cX6_isKeptByOne 2 = .ok (.iload_n 2, 1) := by decide +kernel
theorem dX6_isKeptByOne_3 : decode cX6_isKeptByOne 3 = .ok (.ifCond .lt 38, 3) := by decide +kernel
theorem dX6_isKeptByOne_6 : decode cX6_isKeptByOne 6 = .ok (.iload_n 2, 1) := by decide +kernel
theorem dX6_isKeptByOne_7 : decode cX6_isKeptByOne 7 = .ok (.aload_n 0, 1) := by decide +kernel
theorem dX6_isKeptByOne_8 : decode cX6_isKeptByOne 8 = .ok (.getfield 18, 3) := by decide +kernel
theorem dX6_isKeptByOne_11 : decode cX6_isKeptByOne 11 = .ok (.arraylength, 1) := by decide +kernel
theorem dX6_isKeptByOne_12 : decode cX6_isKeptByOne 12 = .ok (.if_icmp .ge 29, 3) := by decide +kernel
theorem dX6_isKeptByOne_15 : decode cX6_isKeptByOne 15 = .ok (.aload_n 0, 1) := by decide +kernel
theorem dX6_isKeptByOne_16 : decode cX6_isKeptByOne 16 = .ok (.getfield 18, 3) := by decide +kernel
theorem dX6_isKeptByOne_19 : decode cX6_isKeptByOne 19 = .ok (.iload_n 2, 1) := by decide +kernel
theorem dX6_isKeptByOne_20 : decode cX6_isKeptByOne 20 = .ok (.iaload, 1) := by decide +kernel
theorem dX6_isKeptByOne_21 : decode cX6_isKeptByOne 21 = .ok (.iconst 1, 1) := by decide +kernel
theorem dX6_isKeptByOne_22 : decode cX6_isKeptByOne 22 = .ok (.if_icmp .ne 13, 3) := by decide +kernel
theorem dX6_isKeptByOne_25 : decode cX6_isKeptByOne 25 = .ok (.iload_n 1, 1) := by decide +kernel
theorem dX6_isKeptByOne_26 : decode cX6_isKeptByOne 26 = .ok (.iload_n 2, 1) := by decide +kernel
theorem dX6_isKeptByOne_27 : decode cX6_isKeptByOne 27 = .ok (.iconst (-1), 1) := by decide +kernel
theorem dX6_isKeptByOne_28 : decode cX6_isKeptByOne 28 = .ok (.ixor, 1) := by decide +kernel
theorem dX6_isKeptByOne_29 : decode cX6_isKeptByOne 29 = .ok (.iand, 1) := by decide +kernel
theorem dX6_isKeptByOne_30 : decode cX6_isKeptByOne 30 = .ok (.ifCond .ne 5, 3) := by decide +kernel
theorem dX6_isKeptByOne_33 : decode cX6_isKeptByOne 33 = .ok (.iconst 1, 1) := by decide +kernel
theorem dX6_isKeptByOne_34 : decode cX6_isKeptByOne 34 = .ok (.ireturn, 1) := by decide +kernel
theorem dX6_isKeptByOne_35 : decode cX6_isKeptByOne 35 = .ok (.iinc 2 1, 3) := by decide +kernel
theorem dX6_isKeptByOne_38 : decode cX6_isKeptByOne 38 = .ok (.goto (-36), 3) := by decide +kernel
theorem dX6_isKeptByOne_41 : decode cX6_isKeptByOne 41 = .ok (.iconst 0, 1) := by decide +kernel
theorem dX6_isKeptByOne_42 : decode cX6_isKeptByOne 42 = .ok (.ireturn, 1) := by decide +kernel
set_option maxRecDepth 20000 in
theorem ggX6_twosAsWoken_J6_bitCount_0f7a4 : GoodIn wsX6_twosAsWoken wsJ6_bitCount_0f7a4 := goodIn_r _ [5, 6, 7, 8] (by decide +kernel) (by decide +kernel)
set_option maxRecDepth 20000 in
theorem gX6_twosAsWoken_J6_bitCount_0f7a4 : GoodIn wsX6_twosAsWoken (va_wsS RX6 133 yJ6_bitCount_0f7a4 wsJ6_bitCount_0f7a4) := goodIn_app (goodIn_of _ (by decide +kernel)) ggX6_twosAsWoken_J6_bitCount_0f7a4
theorem dX6_twosAsWoken_0 : decode cX6_twosAsWoken 0 = .ok (.iconst 0, 1) := by decide +kernel
theorem dX6_twosAsWoken_1 : decode cX6_twosAsWoken 1 = .ok (.istore_n 1, 1) := by decide +kernel
theorem dX6_twosAsWoken_2 : decode cX6_twosAsWoken 2 = .ok (.iconst 0, 1) := by decide +kernel
theorem dX6_twosAsWoken_3 : decode cX6_twosAsWoken 3 = .ok (.istore_n 2, 1) := by decide +kernel
theorem dX6_twosAsWoken_4 : decode cX6_twosAsWoken 4 = .ok (.iload_n 2, 1) := by decide +kernel
theorem dX6_twosAsWoken_5 : decode cX6_twosAsWoken 5 = .ok (.aload_n 0, 1) := by decide +kernel
theorem dX6_twosAsWoken_6 : decode cX6_twosAsWoken 6 = .ok (.getfield 37, 3) := by decide +kernel
theorem dX6_twosAsWoken_9 : decode cX6_twosAsWoken 9 = .ok (.arraylength, 1) := by decide +kernel
theorem dX6_twosAsWoken_10 : decode cX6_twosAsWoken 10 = .ok (.if_icmp .ge 21, 3) := by decide +kernel
theorem dX6_twosAsWoken_13 : decode cX6_twosAsWoken 13 = .ok (.iload_n 1, 1) := by decide +kernel
theorem dX6_twosAsWoken_14 : decode cX6_twosAsWoken 14 = .ok (.aload_n 0, 1) := by decide +kernel
theorem dX6_twosAsWoken_15 : decode cX6_twosAsWoken 15 = .ok (.getfield 37, 3) := by decide +kernel
theorem dX6_twosAsWoken_18 : decode cX6_twosAsWoken 18 = .ok (.iload_n 2, 1) := by decide +kernel
theorem dX6_twosAsWoken_19 : decode cX6_twosAsWoken 19 = .ok (.iaload, 1) := by decide +kernel
theorem dX6_twosAsWoken_20 : decode cX6_twosAsWoken 20 = .ok (.invokestatic 133, 3) := by decide +kernel
theorem dX6_twosAsWoken_23 : decode cX6_twosAsWoken 23 = .ok (.iadd, 1) := by decide +kernel
theorem dX6_twosAsWoken_24 : decode cX6_twosAsWoken 24 = .ok (.istore_n 1, 1) := by decide +kernel
theorem dX6_twosAsWoken_25 : decode cX6_twosAsWoken 25 = .ok (.iinc 2 1, 3) := by decide +kernel
theorem dX6_twosAsWoken_28 : decode cX6_twosAsWoken 28 = .ok (.goto (-24), 3) := by decide +kernel
theorem dX6_twosAsWoken_31 : decode cX6_twosAsWoken 31 = .ok (.iload_n 1, 1) := by decide +kernel
theorem dX6_twosAsWoken_32 : decode cX6_twosAsWoken 32 = .ok (.ireturn, 1) := by decide +kernel
set_option maxRecDepth 20000 in
theorem ggX6_firstTwoAsWoken_X8_has : GoodIn wsX6_firstTwoAsWoken wsX8_has := goodIn_r _ [4] (by decide +kernel) (by decide +kernel)
set_option maxRecDepth 20000 in
theorem gX6_firstTwoAsWoken_X8_has_n143 : GoodIn wsX6_firstTwoAsWoken (wsX8_has) := ggX6_firstTwoAsWoken_X8_has
theorem dX6_firstTwoAsWoken_0 : decode cX6_firstTwoAsWoken 0 = .ok (.iconst 0, 1) := by decide +kernel
theorem dX6_firstTwoAsWoken_1 : decode cX6_firstTwoAsWoken 1 = .ok (.istore_n 1, 1) := by decide +kernel
theorem dX6_firstTwoAsWoken_2 : decode cX6_firstTwoAsWoken 2 = .ok (.iload_n 1, 1) := by decide +kernel
theorem dX6_firstTwoAsWoken_3 : decode cX6_firstTwoAsWoken 3 = .ok (.aload_n 0, 1) := by decide +kernel
theorem dX6_firstTwoAsWoken_4 : decode cX6_firstTwoAsWoken 4 = .ok (.getfield 37, 3) := by decide +kernel
theorem dX6_firstTwoAsWoken_7 : decode cX6_firstTwoAsWoken 7 = .ok (.arraylength, 1) := by decide +kernel
theorem dX6_firstTwoAsWoken_8 : decode cX6_firstTwoAsWoken 8 = .ok (.if_icmp .ge 43, 3) := by decide +kernel
theorem dX6_firstTwoAsWoken_11 : decode cX6_firstTwoAsWoken 11 = .ok (.iconst 0, 1) := by decide +kernel
theorem dX6_firstTwoAsWoken_12 : decode cX6_firstTwoAsWoken 12 = .ok (.istore_n 2, 1) := by decide +kernel
theorem dX6_firstTwoAsWoken_13 : decode cX6_firstTwoAsWoken 13 = .ok (.iload_n 2, 1) := by decide +kernel
theorem dX6_firstTwoAsWoken_14 : decode cX6_firstTwoAsWoken 14 = .ok (.bipush 6, 2) := by decide +kernel
theorem dX6_firstTwoAsWoken_16 : decode cX6_firstTwoAsWoken 16 = .ok (.if_icmp .ge 29, 3) := by decide +kernel
theorem dX6_firstTwoAsWoken_19 : decode cX6_firstTwoAsWoken 19 = .ok (.aload_n 0, 1) := by decide +kernel
theorem dX6_firstTwoAsWoken_20 : decode cX6_firstTwoAsWoken 20 = .ok (.getfield 37, 3) := by decide +kernel
theorem dX6_firstTwoAsWoken_23 : decode cX6_firstTwoAsWoken 23 = .ok (.iload_n 1, 1) := by decide +kernel
theorem dX6_firstTwoAsWoken_24 : decode cX6_firstTwoAsWoken 24 = .ok (.iaload, 1) := by decide +kernel
theorem dX6_firstTwoAsWoken_25 : decode cX6_firstTwoAsWoken 25 = .ok (.iload_n 2, 1) := by decide +kernel
theorem dX6_firstTwoAsWoken_26 : decode cX6_firstTwoAsWoken 26 = .ok (.invokestatic 143, 3) := by decide +kernel
theorem dX6_firstTwoAsWoken_29 : decode cX6_firstTwoAsWoken 29 = .ok (.ifCond .eq 10, 3) := by decide +kernel
theorem dX6_firstTwoAsWoken_32 : decode cX6_firstTwoAsWoken 32 = .ok (.bipush 10, 2) := by decide +kernel
theorem dX6_firstTwoAsWoken_34 : decode cX6_firstTwoAsWoken 34 = .ok (.iload_n 1, 1) := by decide +kernel
theorem dX6_firstTwoAsWoken_35 : decode cX6_firstTwoAsWoken 35 = .ok (.imul, 1) := by decide +kernel
theorem dX6_firstTwoAsWoken_36 : decode cX6_firstTwoAsWoken 36 = .ok (.iload_n 2, 1) := by decide +kernel
theorem dX6_firstTwoAsWoken_37 : decode cX6_firstTwoAsWoken 37 = .ok (.iadd, 1) := by decide +kernel
theorem dX6_firstTwoAsWoken_38 : decode cX6_firstTwoAsWoken 38 = .ok (.ireturn, 1) := by decide +kernel
theorem dX6_firstTwoAsWoken_39 : decode cX6_firstTwoAsWoken 39 = .ok (.iinc 2 1, 3) := by decide +kernel
theorem dX6_firstTwoAsWoken_42 : decode cX6_firstTwoAsWoken 42 = .ok (.goto (-29), 3) := by decide +kernel
theorem dX6_firstTwoAsWoken_45 : decode cX6_firstTwoAsWoken 45 = .ok (.iinc 1 1, 3) := by decide +kernel
theorem dX6_firstTwoAsWoken_48 : decode cX6_firstTwoAsWoken 48 = .ok (.goto (-46), 3) := by decide +kernel
theorem dX6_firstTwoAsWoken_51 : decode cX6_firstTwoAsWoken 51 = .ok (.bipush (-4), 2) := by decide +kernel
theorem dX6_firstTwoAsWoken_53 : decode cX6_firstTwoAsWoken 53 = .ok (.ireturn, 1) := by decide +kernel
theorem dX7_init_0 : decode cX7_init 0 = .ok (.aload_n 0, 1) := by decide +kernel
theorem dX7_init_1 : decode cX7_init 1 = .ok (.invokespecial 3, 3) := by decide +kernel
theorem dX7_init_4 : decode cX7_init 4 = .ok (.aload_n 0, 1) := by decide +kernel
theorem dX7_init_5 : decode cX7_init 5 = .ok (.sipush 200, 3) := by decide +kernel
theorem dX7_init_8 : decode cX7_init 8 = .ok (.newarray .char, 2) := by decide +kernel
theorem dX7_init_10 : decode cX7_init 10 = .ok (.putfield 9, 3) := by decide +kernel
theorem dX7_init_13 : decode cX7_init 13 = .ok (.return_, 1) := by decide +kernel
theorem dX7_isFull_0 : decode cX7_isFull 0 = .ok (.aload_n 0, 1) := by decide +kernel
theorem dX7_isFull_1 : decode cX7_isFull 1 = .ok (.getfield 15, 3) := by decide +kernel
theorem dX7_isFull_4 : decode cX7_isFull 4 = .ok (.aload_n 0, 1) := by decide +kernel
theorem dX7_isFull_5 : decode cX7_isFull 5 = .ok (.getfield 9, 3) := by decide +kernel
theorem dX7_isFull_8 : decode cX7_isFull 8 = .ok (.arraylength, 1) := by decide +kernel
theorem dX7_isFull_9 : decode cX7_isFull 9 = .ok (.if_icmp .lt 7, 3) := by decide +kernel
theorem dX7_isFull_12 : decode cX7_isFull 12 = .ok (.iconst 1, 1) := by decide +kernel
theorem dX7_isFull_13 : decode cX7_isFull 13 = .ok (.goto 4, 3) := by decide +kernel
theorem dX7_isFull_16 : decode cX7_isFull 16 = .ok (.iconst 0, 1) := by decide +kernel
theorem dX7_isFull_17 : decode cX7_isFull 17 = .ok (.ireturn, 1) := by decide +kernel
theorem dX7_add_0 : decode cX7_add 0 = .ok (.aload_n 0, 1) := by decide +kernel
theorem dX7_add_1 : decode cX7_add 1 = .ok (.getfield 15, 3) := by decide +kernel
theorem dX7_add_4 : decode cX7_add 4 = .ok (.ifCond .lt 35, 3) := by decide +kernel
theorem dX7_add_7 : decode cX7_add 7 = .ok (.aload_n 0, 1) := by decide +kernel
theorem dX7_add_8 : decode cX7_add 8 = .ok (.getfield 15, 3) := by decide +kernel
theorem dX7_add_11 : decode cX7_add 11 = .ok (.aload_n 0, 1) := by decide +kernel
theorem dX7_add_12 : decode cX7_add 12 = .ok (.getfield 9, 3) := by decide +kernel
theorem dX7_add_15 : decode cX7_add 15 = .ok (.arraylength, 1) := by decide +kernel
theorem dX7_add_16 : decode cX7_add 16 = .ok (.if_icmp .ge 23, 3) := by decide +kernel
theorem dX7_add_19 : decode cX7_add 19 = .ok (.aload_n 0, 1) := by decide +kernel
theorem dX7_add_20 : decode cX7_add 20 = .ok (.getfield 9, 3) := by decide +kernel
theorem dX7_add_23 : decode cX7_add 23 = .ok (.aload_n 0, 1) := by decide +kernel
theorem dX7_add_24 : decode cX7_add 24 = .ok (.getfield 15, 3) := by decide +kernel
theorem dX7_add_27 : decode cX7_add 27 = .ok (.iload_n 1, 1) := by decide +kernel
theorem dX7_add_28 : decode cX7_add 28 = .ok (.castore, 1) := by decide +kernel
theorem dX7_add_29 : decode cX7_add 29 = .ok (.aload_n 0, 1) := by decide +kernel
theorem dX7_add_30 : decode cX7_add 30 = .ok (.dup, 1) := by decide +kernel
theorem dX7_add_31 : decode cX7_add 31 = .ok (.getfield 15, 3) := by decide +kernel
theorem dX7_add_34 : decode cX7_add 34 = .ok (.iconst 1, 1) := by decide +kernel
theorem dX7_add_35 : decode cX7_add 35 = .ok (.iadd, 1) := by decide +kernel
theorem dX7_add_36 : decode cX7_add 36 = .ok (.putfield 15, 3) := by decide +kernel
theorem dX7_add_39 : decode cX7_add 39 = .ok (.return_, 1) := by decide +kernel
theorem dX7_clear_0 : decode cX7_clear 0 = .ok (.aload_n 0, 1) := by decide +kernel
theorem dX7_clear_1 : decode cX7_clear 1 = .ok (.iconst 0, 1) := by decide +kernel
theorem dX7_clear_2 : decode cX7_clear 2 = .ok (.putfield 15, 3) := by decide +kernel
theorem dX7_clear_5 : decode cX7_clear 5 = .ok (.return_, 1) := by decide +kernel
theorem dX7_letterAt_0 : decode cX7_letterAt 0 = .ok (.iload_n 1, 1) := by decide +kernel
theorem dX7_letterAt_1 : decode cX7_letterAt 1 = .ok (.ifCond .lt 29, 3) := by decide +kernel
theorem dX7_letterAt_4 : decode cX7_letterAt 4 = .ok (.iload_n 1, 1) := by decide +kernel
theorem dX7_letterAt_5 : decode cX7_letterAt 5 = .ok (.aload_n 0, 1) := by decide +kernel
theorem dX7_letterAt_6 : decode cX7_letterAt 6 = .ok (.getfield 15, 3) := by decide +kernel
theorem dX7_letterAt_9 : decode cX7_letterAt 9 = .ok (.if_icmp .ge 21, 3) := by decide +kernel
theorem dX7_letterAt_12 : decode cX7_letterAt 12 = .ok (.iload_n 1, 1) := by decide +kernel
theorem dX7_letterAt_13 : decode cX7_letterAt 13 = .ok (.aload_n 0, 1) := by decide +kernel
theorem dX7_letterAt_14 : decode cX7_letterAt 14 = .ok (.getfield 9, 3) := by decide +kernel
theorem dX7_letterAt_17 : decode cX7_letterAt 17 = .ok (.arraylength, 1) := by decide +kernel
theorem dX7_letterAt_18 : decode cX7_letterAt 18 = .ok (.if_icmp .ge 12, 3) := by decide +kernel
theorem dX7_letterAt_21 : decode cX7_letterAt 21 = .ok (.aload_n 0, 1) := by decide +kernel
theorem dX7_letterAt_22 : decode cX7_letterAt 22 = .ok (.getfield 9, 3) := by decide +kernel
theorem dX7_letterAt_25 : decode cX7_letterAt 25 = .ok (.iload_n 1, 1) := by decide +kernel
theorem dX7_letterAt_26 : decode cX7_letterAt 26 = .ok (.caload, 1) := by decide +kernel
theorem dX7_letterAt_27 : decode cX7_letterAt 27 = .ok (.goto 4, 3) := by decide +kernel
theorem dX7_letterAt_30 : decode cX7_letterAt 30 = .ok (.iconst 0, 1) := by decide +kernel
theorem dX7_letterAt_31 : decode cX7_letterAt 31 = .ok (.ireturn, 1) := by decide +kernel

