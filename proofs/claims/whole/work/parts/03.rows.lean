theorem dX3_init_0 : decode cX3_init 0 = .ok (.aload_n 0, 1) := by decide +kernel
theorem dX3_init_1 : decode cX3_init 1 = .ok (.invokespecial 3, 3) := by decide +kernel
theorem dX3_init_4 : decode cX3_init 4 = .ok (.aload_n 0, 1) := by decide +kernel
theorem dX3_init_5 : decode cX3_init 5 = .ok (.iload_n 1, 1) := by decide +kernel
theorem dX3_init_6 : decode cX3_init 6 = .ok (.iconst 0, 1) := by decide +kernel
theorem dX3_init_7 : decode cX3_init 7 = .ok (.invokestatic 9, 3) := by decide +kernel
theorem dX3_init_10 : decode cX3_init 10 = .ok (.newarray .int, 2) := by decide +kernel
theorem dX3_init_12 : decode cX3_init 12 = .ok (.putfield 15, 3) := by decide +kernel
theorem dX3_init_15 : decode cX3_init 15 = .ok (.return_, 1) := by decide +kernel
theorem dX3_size_0 : decode cX3_size 0 = .ok (.aload_n 0, 1) := by decide +kernel
theorem dX3_size_1 : decode cX3_size 1 = .ok (.getfield 21, 3) := by decide +kernel
theorem dX3_size_4 : decode cX3_size 4 = .ok (.ireturn, 1) := by decide +kernel
theorem dX3_isFull_0 : decode cX3_isFull 0 = .ok (.aload_n 0, 1) := by decide +kernel
theorem dX3_isFull_1 : decode cX3_isFull 1 = .ok (.getfield 21, 3) := by decide +kernel
theorem dX3_isFull_4 : decode cX3_isFull 4 = .ok (.aload_n 0, 1) := by decide +kernel
theorem dX3_isFull_5 : decode cX3_isFull 5 = .ok (.getfield 15, 3) := by decide +kernel
theorem dX3_isFull_8 : decode cX3_isFull 8 = .ok (.arraylength, 1) := by decide +kernel
theorem dX3_isFull_9 : decode cX3_isFull 9 = .ok (.if_icmp .lt 7, 3) := by decide +kernel
theorem dX3_isFull_12 : decode cX3_isFull 12 = .ok (.iconst 1, 1) := by decide +kernel
theorem dX3_isFull_13 : decode cX3_isFull 13 = .ok (.goto 4, 3) := by decide +kernel
theorem dX3_isFull_16 : decode cX3_isFull 16 = .ok (.iconst 0, 1) := by decide +kernel
theorem dX3_isFull_17 : decode cX3_isFull 17 = .ok (.ireturn, 1) := by decide +kernel
theorem dX3_get_0 : decode cX3_get 0 = .ok (.iload_n 1, 1) := by decide +kernel
theorem dX3_get_1 : decode cX3_get 1 = .ok (.ifCond .lt 29, 3) := by decide +kernel
theorem dX3_get_4 : decode cX3_get 4 = .ok (.iload_n 1, 1) := by decide +kernel
theorem dX3_get_5 : decode cX3_get 5 = .ok (.aload_n 0, 1) := by decide +kernel
theorem dX3_get_6 : decode cX3_get 6 = .ok (.getfield 21, 3) := by decide +kernel
theorem dX3_get_9 : decode cX3_get 9 = .ok (.if_icmp .ge 21, 3) := by decide +kernel
theorem dX3_get_12 : decode cX3_get 12 = .ok (.iload_n 1, 1) := by decide +kernel
theorem dX3_get_13 : decode cX3_get 13 = .ok (.aload_n 0, 1) := by decide +kernel
theorem dX3_get_14 : decode cX3_get 14 = .ok (.getfield 15, 3) := by decide +kernel
theorem dX3_get_17 : decode cX3_get 17 = .ok (.arraylength, 1) := by decide +kernel
theorem dX3_get_18 : decode cX3_get 18 = .ok (.if_icmp .ge 12, 3) := by decide +kernel
theorem dX3_get_21 : decode cX3_get 21 = .ok (.aload_n 0, 1) := by decide +kernel
theorem dX3_get_22 : decode cX3_get 22 = .ok (.getfield 15, 3) := by decide +kernel
theorem dX3_get_25 : decode cX3_get 25 = .ok (.iload_n 1, 1) := by decide +kernel
theorem dX3_get_26 : decode cX3_get 26 = .ok (.iaload, 1) := by decide +kernel
theorem dX3_get_27 : decode cX3_get 27 = .ok (.goto 5, 3) := by decide +kernel
theorem dX3_get_30 : decode cX3_get 30 = .ok (.bipush (-5), 2) := by decide +kernel
theorem dX3_get_32 : decode cX3_get 32 = .ok (.ireturn, 1) := by decide +kernel
theorem dX3_set_0 : decode cX3_set 0 = .ok (.iload_n 1, 1) := by decide +kernel
theorem dX3_set_1 : decode cX3_set 1 = .ok (.ifCond .lt 27, 3) := by decide +kernel
theorem dX3_set_4 : decode cX3_set 4 = .ok (.iload_n 1, 1) := by decide +kernel
theorem dX3_set_5 : decode cX3_set 5 = .ok (.aload_n 0, 1) := by decide +kernel
theorem dX3_set_6 : decode cX3_set 6 = .ok (.getfield 21, 3) := by decide +kernel
theorem dX3_set_9 : decode cX3_set 9 = .ok (.if_icmp .ge 19, 3) := by decide +kernel
theorem dX3_set_12 : decode cX3_set 12 = .ok (.iload_n 1, 1) := by decide +kernel
theorem dX3_set_13 : decode cX3_set 13 = .ok (.aload_n 0, 1) := by decide +kernel
theorem dX3_set_14 : decode cX3_set 14 = .ok (.getfield 15, 3) := by decide +kernel
theorem dX3_set_17 : decode cX3_set 17 = .ok (.arraylength, 1) := by decide +kernel
theorem dX3_set_18 : decode cX3_set 18 = .ok (.if_icmp .ge 10, 3) := by decide +kernel
theorem dX3_set_21 : decode cX3_set 21 = .ok (.aload_n 0, 1) := by decide +kernel
theorem dX3_set_22 : decode cX3_set 22 = .ok (.getfield 15, 3) := by decide +kernel
theorem dX3_set_25 : decode cX3_set 25 = .ok (.iload_n 1, 1) := by decide +kernel
theorem dX3_set_26 : decode cX3_set 26 = .ok (.iload_n 2, 1) := by decide +kernel
theorem dX3_set_27 : decode cX3_set 27 = .ok (.iastore, 1) := by decide +kernel
theorem dX3_set_28 : decode cX3_set 28 = .ok (.return_, 1) := by decide +kernel
theorem dX3_add_0 : decode cX3_add 0 = .ok (.aload_n 0, 1) := by decide +kernel
theorem dX3_add_1 : decode cX3_add 1 = .ok (.getfield 21, 3) := by decide +kernel
theorem dX3_add_4 : decode cX3_add 4 = .ok (.ifCond .lt 35, 3) := by decide +kernel
theorem dX3_add_7 : decode cX3_add 7 = .ok (.aload_n 0, 1) := by decide +kernel
theorem dX3_add_8 : decode cX3_add 8 = .ok (.getfield 21, 3) := by decide +kernel
theorem dX3_add_11 : decode cX3_add 11 = .ok (.aload_n 0, 1) := by decide +kernel
theorem dX3_add_12 : decode cX3_add 12 = .ok (.getfield 15, 3) := by decide +kernel
theorem dX3_add_15 : decode cX3_add 15 = .ok (.arraylength, 1) := by decide +kernel
theorem dX3_add_16 : decode cX3_add 16 = .ok (.if_icmp .ge 23, 3) := by decide +kernel
theorem dX3_add_19 : decode cX3_add 19 = .ok (.aload_n 0, 1) := by decide +kernel
theorem dX3_add_20 : decode cX3_add 20 = .ok (.getfield 15, 3) := by decide +kernel
theorem dX3_add_23 : decode cX3_add 23 = .ok (.aload_n 0, 1) := by decide +kernel
theorem dX3_add_24 : decode cX3_add 24 = .ok (.getfield 21, 3) := by decide +kernel
theorem dX3_add_27 : decode cX3_add 27 = .ok (.iload_n 1, 1) := by decide +kernel
theorem dX3_add_28 : decode cX3_add 28 = .ok (.iastore, 1) := by decide +kernel
theorem dX3_add_29 : decode cX3_add 29 = .ok (.aload_n 0, 1) := by decide +kernel
theorem dX3_add_30 : decode cX3_add 30 = .ok (.dup, 1) := by decide +kernel
theorem dX3_add_31 : decode cX3_add 31 = .ok (.getfield 21, 3) := by decide +kernel
theorem dX3_add_34 : decode cX3_add 34 = .ok (.iconst 1, 1) := by decide +kernel
theorem dX3_add_35 : decode cX3_add 35 = .ok (.iadd, 1) := by decide +kernel
theorem dX3_add_36 : decode cX3_add 36 = .ok (.putfield 21, 3) := by decide +kernel
theorem dX3_add_39 : decode cX3_add 39 = .ok (.return_, 1) := by decide +kernel
set_option maxRecDepth 20000 in
theorem ggX3_addAll_X3_get : GoodIn wsX3_addAll wsX3_get := goodIn_r _ [6, 1, 7, 12, 13] (by decide +kernel) (by decide +kernel)
set_option maxRecDepth 20000 in
theorem gX3_addAll_X3_get : GoodIn wsX3_addAll (wsV RX3 25 RX3 yX3_get wsX3_get) := goodIn_app (goodIn_of _ (by decide +kernel)) ggX3_addAll_X3_get
set_option maxRecDepth 20000 in
theorem ggX3_addAll_X3_add : GoodIn wsX3_addAll wsX3_add := goodIn_r _ [11, 1, 7, 12, 13] (by decide +kernel) (by decide +kernel)
set_option maxRecDepth 20000 in
theorem gX3_addAll_X3_add : GoodIn wsX3_addAll (wsV RX3 29 RX3 yX3_add wsX3_add) := goodIn_app (goodIn_of _ (by decide +kernel)) ggX3_addAll_X3_add
theorem dX3_addAll_0 : decode cX3_addAll 0 = .ok (.iconst 0, 1) := by decide +kernel
theorem dX3_addAll_1 : decode cX3_addAll 1 = .ok (.istore_n 2, 1) := by decide +kernel
theorem dX3_addAll_2 : decode cX3_addAll 2 = .ok (.iload_n 2, 1) := by decide +kernel
theorem dX3_addAll_3 : decode cX3_addAll 3 = .ok (.aload_n 1, 1) := by decide +kernel
theorem dX3_addAll_4 : decode cX3_addAll 4 = .ok (.getfield 21, 3) := by decide +kernel
theorem dX3_addAll_7 : decode cX3_addAll 7 = .ok (.if_icmp .ge 18, 3) := by decide +kernel
theorem dX3_addAll_10 : decode cX3_addAll 10 = .ok (.aload_n 0, 1) := by decide +kernel
theorem dX3_addAll_11 : decode cX3_addAll 11 = .ok (.aload_n 1, 1) := by decide +kernel
theorem dX3_addAll_12 : decode cX3_addAll 12 = .ok (.iload_n 2, 1) := by decide +kernel
theorem dX3_addAll_13 : decode cX3_addAll 13 = .ok (.invokevirtual 25, 3) := by decide +kernel
theorem dX3_addAll_16 : decode cX3_addAll 16 = .ok (.invokevirtual 29, 3) := by decide +kernel
theorem dX3_addAll_19 : decode cX3_addAll 19 = .ok (.iinc 2 1, 3) := by decide +kernel
theorem dX3_addAll_22 : decode cX3_addAll 22 = .ok (.goto (-20), 3) := by decide +kernel
theorem dX3_addAll_25 : decode cX3_addAll 25 = .ok (.return_, 1) := by decide +kernel
set_option maxRecDepth 20000 in
theorem ggX3_addMany_X3_add : GoodIn wsX3_addMany wsX3_add := goodIn_r _ [5, 6, 7, 8, 9] (by decide +kernel) (by decide +kernel)
set_option maxRecDepth 20000 in
theorem gX3_addMany_X3_add : GoodIn wsX3_addMany (wsV RX3 29 RX3 yX3_add wsX3_add) := goodIn_app (goodIn_of _ (by decide +kernel)) ggX3_addMany_X3_add
theorem dX3_addMany_0 : decode cX3_addMany 0 = .ok (.iconst 0, 1) := by decide +kernel
theorem dX3_addMany_1 : decode cX3_addMany 1 = .ok (.istore_n 3, 1) := by decide +kernel
theorem dX3_addMany_2 : decode cX3_addMany 2 = .ok (.iload_n 3, 1) := by decide +kernel
theorem dX3_addMany_3 : decode cX3_addMany 3 = .ok (.iload_n 2, 1) := by decide +kernel
theorem dX3_addMany_4 : decode cX3_addMany 4 = .ok (.if_icmp .ge 14, 3) := by decide +kernel
theorem dX3_addMany_7 : decode cX3_addMany 7 = .ok (.aload_n 0, 1) := by decide +kernel
theorem dX3_addMany_8 : decode cX3_addMany 8 = .ok (.iload_n 1, 1) := by decide +kernel
theorem dX3_addMany_9 : decode cX3_addMany 9 = .ok (.invokevirtual 29, 3) := by decide +kernel
theorem dX3_addMany_12 : decode cX3_addMany 12 = .ok (.iinc 3 1, 3) := by decide +kernel
theorem dX3_addMany_15 : decode cX3_addMany 15 = .ok (.goto (-13), 3) := by decide +kernel
theorem dX3_addMany_18 : decode cX3_addMany 18 = .ok (.return_, 1) := by decide +kernel
set_option maxRecDepth 20000 in
theorem ggX3_increase_X3_get : GoodIn wsX3_increase wsX3_get := goodIn_r _ [5, 6, 7, 12, 13] (by decide +kernel) (by decide +kernel)
set_option maxRecDepth 20000 in
theorem gX3_increase_X3_get : GoodIn wsX3_increase (wsV RX3 25 RX3 yX3_get wsX3_get) := goodIn_app (goodIn_of _ (by decide +kernel)) ggX3_increase_X3_get
set_option maxRecDepth 20000 in
theorem ggX3_increase_X3_set : GoodIn wsX3_increase wsX3_set := goodIn_r _ [11, 6, 7, 12, 13] (by decide +kernel) (by decide +kernel)
set_option maxRecDepth 20000 in
theorem gX3_increase_X3_set : GoodIn wsX3_increase (wsV RX3 33 RX3 yX3_set wsX3_set) := goodIn_app (goodIn_of _ (by decide +kernel)) ggX3_increase_X3_set
theorem dX3_increase_0 : decode cX3_increase 0 = .ok (.aload_n 0, 1) := by decide +kernel
theorem dX3_increase_1 : decode cX3_increase 1 = .ok (.iload_n 1, 1) := by decide +kernel
theorem dX3_increase_2 : decode cX3_increase 2 = .ok (.aload_n 0, 1) := by decide +kernel
theorem dX3_increase_3 : decode cX3_increase 3 = .ok (.iload_n 1, 1) := by decide +kernel
theorem dX3_increase_4 : decode cX3_increase 4 = .ok (.invokevirtual 25, 3) := by decide +kernel
theorem dX3_increase_7 : decode cX3_increase 7 = .ok (.iconst 1, 1) := by decide +kernel
theorem dX3_increase_8 : decode cX3_increase 8 = .ok (.iadd, 1) := by decide +kernel
theorem dX3_increase_9 : decode cX3_increase 9 = .ok (.invokevirtual 33, 3) := by decide +kernel
theorem dX3_increase_12 : decode cX3_increase 12 = .ok (.return_, 1) := by decide +kernel
theorem dX3_clear_0 : decode cX3_clear 0 = .ok (.aload_n 0, 1) := by decide +kernel
theorem dX3_clear_1 : decode cX3_clear 1 = .ok (.iconst 0, 1) := by decide +kernel
theorem dX3_clear_2 : decode cX3_clear 2 = .ok (.putfield 21, 3) := by decide +kernel
theorem dX3_clear_5 : decode cX3_clear 5 = .ok (.return_, 1) := by decide +kernel
theorem dX3_dropLast_0 : decode cX3_dropLast 0 = .ok (.aload_n 0, 1) := by decide +kernel
theorem dX3_dropLast_1 : decode cX3_dropLast 1 = .ok (.aload_n 0, 1) := by decide +kernel
theorem dX3_dropLast_2 : decode cX3_dropLast 2 = .ok (.getfield 21, 3) := by decide +kernel
theorem dX3_dropLast_5 : decode cX3_dropLast 5 = .ok (.iconst 1, 1) := by decide +kernel
theorem dX3_dropLast_6 : decode cX3_dropLast 6 = .ok (.isub, 1) := by decide +kernel
theorem dX3_dropLast_7 : decode cX3_dropLast 7 = .ok (.iconst 0, 1) := by decide +kernel
theorem dX3_dropLast_8 : decode cX3_dropLast 8 = .ok (.invokestatic 9, 3) := by decide +kernel
theorem dX3_dropLast_11 : decode cX3_dropLast 11 = .ok (.putfield 21, 3) := by decide +kernel
theorem dX3_dropLast_14 : decode cX3_dropLast 14 = .ok (.return_, 1) := by decide +kernel
set_option maxRecDepth 20000 in
theorem ggX3_copyFrom_X3_clear : GoodIn wsX3_copyFrom wsX3_clear := goodIn_r _ [5, 6, 20, 21] (by decide +kernel) (by decide +kernel)
set_option maxRecDepth 20000 in
theorem gX3_copyFrom_X3_clear : GoodIn wsX3_copyFrom (wsV RX3 37 RX3 yX3_clear wsX3_clear) := goodIn_app (goodIn_of _ (by decide +kernel)) ggX3_copyFrom_X3_clear
set_option maxRecDepth 20000 in
theorem ggX3_copyFrom_X3_addAll : GoodIn wsX3_copyFrom wsX3_addAll := goodIn_r _ [10, 6, 11, 12, 13, 4, 14, 15, 16, 17, 18, 19, 20, 21] (by decide +kernel) (by decide +kernel)
set_option maxRecDepth 20000 in
theorem gX3_copyFrom_X3_addAll : GoodIn wsX3_copyFrom (wsV RX3 40 RX3 yX3_addAll wsX3_addAll) := goodIn_app (goodIn_of _ (by decide +kernel)) ggX3_copyFrom_X3_addAll
theorem dX3_copyFrom_0 : decode cX3_copyFrom 0 = .ok (.aload_n 0, 1) := by decide +kernel
theorem dX3_copyFrom_1 : decode cX3_copyFrom 1 = .ok (.invokevirtual 37, 3) := by decide +kernel
theorem dX3_copyFrom_4 : decode cX3_copyFrom 4 = .ok (.aload_n 0, 1) := by decide +kernel
theorem dX3_copyFrom_5 : decode cX3_copyFrom 5 = .ok (.aload_n 1, 1) := by decide +kernel
theorem dX3_copyFrom_6 : decode cX3_copyFrom 6 = .ok (.invokevirtual 40, 3) := by decide +kernel
theorem dX3_copyFrom_9 : decode cX3_copyFrom 9 = .ok (.return_, 1) := by decide +kernel
set_option maxRecDepth 20000 in
theorem ggX3_swap_X3_get : GoodIn wsX3_swap wsX3_get := goodIn_r _ [5, 6, 7, 12, 13] (by decide +kernel) (by decide +kernel)
set_option maxRecDepth 20000 in
theorem gX3_swap_X3_get : GoodIn wsX3_swap (wsV RX3 25 RX3 yX3_get wsX3_get) := goodIn_app (goodIn_of _ (by decide +kernel)) ggX3_swap_X3_get
set_option maxRecDepth 20000 in
theorem ggX3_swap_X3_set : GoodIn wsX3_swap wsX3_set := goodIn_r _ [11, 6, 7, 12, 13] (by decide +kernel) (by decide +kernel)
set_option maxRecDepth 20000 in
theorem gX3_swap_X3_set : GoodIn wsX3_swap (wsV RX3 33 RX3 yX3_set wsX3_set) := goodIn_app (goodIn_of _ (by decide +kernel)) ggX3_swap_X3_set
theorem dX3_swap_0 : decode cX3_swap 0 = .ok (.aload_n 0, 1) := by decide +kernel
theorem dX3_swap_1 : decode cX3_swap 1 = .ok (.iload_n 1, 1) := by decide +kernel
theorem dX3_swap_2 : decode cX3_swap 2 = .ok (.invokevirtual 25, 3) := by decide +kernel
theorem dX3_swap_5 : decode cX3_swap 5 = .ok (.istore_n 3, 1) := by decide +kernel
theorem dX3_swap_6 : decode cX3_swap 6 = .ok (.aload_n 0, 1) := by decide +kernel
theorem dX3_swap_7 : decode cX3_swap 7 = .ok (.iload_n 1, 1) := by decide +kernel
theorem dX3_swap_8 : decode cX3_swap 8 = .ok (.aload_n 0, 1) := by decide +kernel
theorem dX3_swap_9 : decode cX3_swap 9 = .ok (.iload_n 2, 1) := by decide +kernel
theorem dX3_swap_10 : decode cX3_swap 10 = .ok (.invokevirtual 25, 3) := by decide +kernel
theorem dX3_swap_13 : decode cX3_swap 13 = .ok (.invokevirtual 33, 3) := by decide +kernel
theorem dX3_swap_16 : decode cX3_swap 16 = .ok (.aload_n 0, 1) := by decide +kernel
theorem dX3_swap_17 : decode cX3_swap 17 = .ok (.iload_n 2, 1) := by decide +kernel
theorem dX3_swap_18 : decode cX3_swap 18 = .ok (.iload_n 3, 1) := by decide +kernel
theorem dX3_swap_19 : decode cX3_swap 19 = .ok (.invokevirtual 33, 3) := by decide +kernel
theorem dX3_swap_22 : decode cX3_swap 22 = .ok (.return_, 1) := by decide +kernel
set_option maxRecDepth 20000 in
theorem ggX3_move_X3_swap : GoodIn wsX3_move wsX3_swap := goodIn_r _ [5, 6, 7, 8, 4, 9, 10, 11, 12, 13, 14, 15, 16, 17] (by decide +kernel) (by decide +kernel)
set_option maxRecDepth 20000 in
theorem gX3_move_X3_swap : GoodIn wsX3_move (wsV RX3 44 RX3 yX3_swap wsX3_swap) := goodIn_app (goodIn_of _ (by decide +kernel)) ggX3_move_X3_swap
theorem dX3_move_0 : decode cX3_move 0 = .ok (.iload_n 1, 1) := by decide +kernel
theorem dX3_move_1 : decode cX3_move 1 = .ok (.istore_n 3, 1) := by decide +kernel
theorem dX3_move_2 : decode cX3_move 2 = .ok (.iload_n 3, 1) := by decide +kernel
theorem dX3_move_3 : decode cX3_move 3 = .ok (.iload_n 2, 1) := by decide +kernel
theorem dX3_move_4 : decode cX3_move 4 = .ok (.if_icmp .ge 17, 3) := by decide +kernel
theorem dX3_move_7 : decode cX3_move 7 = .ok (.aload_n 0, 1) := by decide +kernel
theorem dX3_move_8 : decode cX3_move 8 = .ok (.iload_n 3, 1) := by decide +kernel
theorem dX3_move_9 : decode cX3_move 9 = .ok (.iload_n 3, 1) := by decide +kernel
theorem dX3_move_10 : decode cX3_move 10 = .ok (.iconst 1, 1) := by decide +kernel
theorem dX3_move_11 : decode cX3_move 11 = .ok (.iadd, 1) := by decide +kernel
theorem dX3_move_12 : decode cX3_move 12 = .ok (.invokevirtual 44, 3) := by decide +kernel
theorem dX3_move_15 : decode cX3_move 15 = .ok (.iinc 3 1, 3) := by decide +kernel
theorem dX3_move_18 : decode cX3_move 18 = .ok (.goto (-16), 3) := by decide +kernel
theorem dX3_move_21 : decode cX3_move 21 = .ok (.iload_n 1, 1) := by decide +kernel
theorem dX3_move_22 : decode cX3_move 22 = .ok (.istore_n 3, 1) := by decide +kernel
theorem dX3_move_23 : decode cX3_move 23 = .ok (.iload_n 3, 1) := by decide +kernel
theorem dX3_move_24 : decode cX3_move 24 = .ok (.iload_n 2, 1) := by decide +kernel
theorem dX3_move_25 : decode cX3_move 25 = .ok (.if_icmp .le 17, 3) := by decide +kernel
theorem dX3_move_28 : decode cX3_move 28 = .ok (.aload_n 0, 1) := by decide +kernel
theorem dX3_move_29 : decode cX3_move 29 = .ok (.iload_n 3, 1) := by decide +kernel
theorem dX3_move_30 : decode cX3_move 30 = .ok (.iload_n 3, 1) := by decide +kernel
theorem dX3_move_31 : decode cX3_move 31 = .ok (.iconst 1, 1) := by decide +kernel
theorem dX3_move_32 : decode cX3_move 32 = .ok (.isub, 1) := by decide +kernel
theorem dX3_move_33 : decode cX3_move 33 = .ok (.invokevirtual 44, 3) := by decide +kernel
theorem dX3_move_36 : decode cX3_move 36 = .ok (.iinc 3 (-1), 3) := by decide +kernel
theorem dX3_move_39 : decode cX3_move 39 = .ok (.goto (-16), 3) := by decide +kernel
theorem dX3_move_42 : decode cX3_move 42 = .ok (.return_, 1) := by decide +kernel
set_option maxRecDepth 20000 in
theorem ggX3_remove_X3_move : GoodIn wsX3_remove wsX3_move := goodIn_r _ [6, 7, 8, 9, 5, 10, 11, 12, 13, 14, 1, 15, 16, 17, 18, 19, 28, 29] (by decide +kernel) (by decide +kernel)
set_option maxRecDepth 20000 in
theorem gX3_remove_X3_move : GoodIn wsX3_remove (wsV RX3 47 RX3 yX3_move wsX3_move) := goodIn_app (goodIn_of _ (by decide +kernel)) ggX3_remove_X3_move
set_option maxRecDepth 20000 in
theorem ggX3_remove_X3_dropLast : GoodIn wsX3_remove wsX3_dropLast := goodIn_r _ [23, 1, 24, 25, 26, 27, 28, 29] (by decide +kernel) (by decide +kernel)
set_option maxRecDepth 20000 in
theorem gX3_remove_X3_dropLast : GoodIn wsX3_remove (wsV RX3 50 RX3 yX3_dropLast wsX3_dropLast) := goodIn_app (goodIn_of _ (by decide +kernel)) ggX3_remove_X3_dropLast
theorem dX3_remove_0 : decode cX3_remove 0 = .ok (.iload_n 1, 1) := by decide +kernel
theorem dX3_remove_1 : decode cX3_remove 1 = .ok (.ifCond .lt 26, 3) := by decide +kernel
theorem dX3_remove_4 : decode cX3_remove 4 = .ok (.iload_n 1, 1) := by decide +kernel
theorem dX3_remove_5 : decode cX3_remove 5 = .ok (.aload_n 0, 1) := by decide +kernel
theorem dX3_remove_6 : decode cX3_remove 6 = .ok (.getfield 21, 3) := by decide +kernel
theorem dX3_remove_9 : decode cX3_remove 9 = .ok (.if_icmp .ge 18, 3) := by decide +kernel
theorem dX3_remove_12 : decode cX3_remove 12 = .ok (.aload_n 0, 1) := by decide +kernel
theorem dX3_remove_13 : decode cX3_remove 13 = .ok (.iload_n 1, 1) := by decide +kernel
theorem dX3_remove_14 : decode cX3_remove 14 = .ok (.aload_n 0, 1) := by decide +kernel
theorem dX3_remove_15 : decode cX3_remove 15 = .ok (.getfield 21, 3) := by decide +kernel
theorem dX3_remove_18 : decode cX3_remove 18 = .ok (.iconst 1, 1) := by decide +kernel
theorem dX3_remove_19 : decode cX3_remove 19 = .ok (.isub, 1) := by decide +kernel
theorem dX3_remove_20 : decode cX3_remove 20 = .ok (.invokevirtual 47, 3) := by decide +kernel
theorem dX3_remove_23 : decode cX3_remove 23 = .ok (.aload_n 0, 1) := by decide +kernel
theorem dX3_remove_24 : decode cX3_remove 24 = .ok (.invokevirtual 50, 3) := by decide +kernel
theorem dX3_remove_27 : decode cX3_remove 27 = .ok (.return_, 1) := by decide +kernel
set_option maxRecDepth 20000 in
theorem ggX4_init_X3_init : GoodIn wsX4_init wsX3_init := goodIn_r _ [12, 13, 2, 3, 14, 15, 16, 17, 18, 19, 32, 33] (by decide +kernel) (by decide +kernel)
set_option maxRecDepth 20000 in
theorem gX4_init_X3_init : GoodIn wsX4_init (wsX3_init) := ggX4_init_X3_init
set_option maxRecDepth 20000 in
theorem ggX4_init_X3_addMany : GoodIn wsX4_init wsX3_addMany := goodIn_r _ [23, 24, 25, 26, 7, 27, 28, 19, 32, 33] (by decide +kernel) (by decide +kernel)
set_option maxRecDepth 20000 in
theorem gX4_init_X3_addMany : GoodIn wsX4_init (wsV RX4 24 RX3 yX3_addMany wsX3_addMany) := goodIn_app (goodIn_of _ (by decide +kernel)) ggX4_init_X3_addMany
theorem dX4_init_0 : decode cX4_init 0 = .ok (.aload_n 0, 1) := by decide +kernel
theorem dX4_init_1 : decode cX4_init 1 = .ok (.invokespecial 3, 3) := by decide +kernel
theorem dX4_init_4 : decode cX4_init 4 = .ok (.aload_n 0, 1) := by decide +kernel
theorem dX4_init_5 : decode cX4_init 5 = .ok (.iload_n 2, 1) := by decide +kernel
theorem dX4_init_6 : decode cX4_init 6 = .ok (.putfield 9, 3) := by decide +kernel
theorem dX4_init_9 : decode cX4_init 9 = .ok (.aload_n 0, 1) := by decide +kernel
theorem dX4_init_10 : decode cX4_init 10 = .ok (.new 15, 3) := by decide +kernel
theorem dX4_init_13 : decode cX4_init 13 = .ok (.dup, 1) := by decide +kernel
theorem dX4_init_14 : decode cX4_init 14 = .ok (.iload_n 1, 1) := by decide +kernel
theorem dX4_init_15 : decode cX4_init 15 = .ok (.iload_n 2, 1) := by decide +kernel
theorem dX4_init_16 : decode cX4_init 16 = .ok (.imul, 1) := by decide +kernel
theorem dX4_init_17 : decode cX4_init 17 = .ok (.invokespecial 17, 3) := by decide +kernel
theorem dX4_init_20 : decode cX4_init 20 = .ok (.putfield 20, 3) := by decide +kernel
theorem dX4_init_23 : decode cX4_init 23 = .ok (.aload_n 0, 1) := by decide +kernel
theorem dX4_init_24 : decode cX4_init 24 = .ok (.getfield 20, 3) := by decide +kernel
theorem dX4_init_27 : decode cX4_init 27 = .ok (.iconst 0, 1) := by decide +kernel
theorem dX4_init_28 : decode cX4_init 28 = .ok (.iload_n 1, 1) := by decide +kernel
theorem dX4_init_29 : decode cX4_init 29 = .ok (.iload_n 2, 1) := by decide +kernel
theorem dX4_init_30 : decode cX4_init 30 = .ok (.imul, 1) := by decide +kernel
theorem dX4_init_31 : decode cX4_init 31 = .ok (.invokevirtual 24, 3) := by decide +kernel
theorem dX4_init_34 : decode cX4_init 34 = .ok (.aload_n 0, 1) := by decide +kernel
theorem dX4_init_35 : decode cX4_init 35 = .ok (.new 15, 3) := by decide +kernel
theorem dX4_init_38 : decode cX4_init 38 = .ok (.dup, 1) := by decide +kernel
theorem dX4_init_39 : decode cX4_init 39 = .ok (.iload_n 1, 1) := by decide +kernel
theorem dX4_init_40 : decode cX4_init 40 = .ok (.invokespecial 17, 3) := by decide +kernel
theorem dX4_init_43 : decode cX4_init 43 = .ok (.putfield 28, 3) := by decide +kernel
theorem dX4_init_46 : decode cX4_init 46 = .ok (.return_, 1) := by decide +kernel
set_option maxRecDepth 20000 in
theorem ggX4_lines_X3_size : GoodIn wsX4_lines wsX3_size := goodIn_r _ [6, 7, 11, 12] (by decide +kernel) (by decide +kernel)
set_option maxRecDepth 20000 in
theorem gX4_lines_X3_size : GoodIn wsX4_lines (wsV RX4 31 RX3 yX3_size wsX3_size) := goodIn_app (goodIn_of _ (by decide +kernel)) ggX4_lines_X3_size
theorem dX4_lines_0 : decode cX4_lines 0 = .ok (.aload_n 0, 1) := by decide +kernel
theorem dX4_lines_1 : decode cX4_lines 1 = .ok (.getfield 28, 3) := by decide +kernel
theorem dX4_lines_4 : decode cX4_lines 4 = .ok (.invokevirtual 31, 3) := by decide +kernel
theorem dX4_lines_7 : decode cX4_lines 7 = .ok (.ireturn, 1) := by decide +kernel
set_option maxRecDepth 20000 in
theorem ggX4_has_X3_size : GoodIn wsX4_has wsX3_size := goodIn_r _ [6, 7, 11, 12] (by decide +kernel) (by decide +kernel)
set_option maxRecDepth 20000 in
theorem gX4_has_X3_size : GoodIn wsX4_has (wsV RX4 31 RX3 yX3_size wsX3_size) := goodIn_app (goodIn_of _ (by decide +kernel)) ggX4_has_X3_size
theorem dX4_has_0 : decode cX4_has 0 = .ok (.iload_n 1, 1) := by decide +kernel
theorem dX4_has_1 : decode cX4_has 1 = .ok (.ifCond .lt 18, 3) := by decide +kernel
theorem dX4_has_4 : decode cX4_has 4 = .ok (.iload_n 1, 1) := by decide +kernel
theorem dX4_has_5 : decode cX4_has 5 = .ok (.aload_n 0, 1) := by decide +kernel
theorem dX4_has_6 : decode cX4_has 6 = .ok (.getfield 28, 3) := by decide +kernel
theorem dX4_has_9 : decode cX4_has 9 = .ok (.invokevirtual 31, 3) := by decide +kernel
theorem dX4_has_12 : decode cX4_has 12 = .ok (.if_icmp .ge 7, 3) := by decide +kernel
theorem dX4_has_15 : decode cX4_has 15 = .ok (.iconst 1, 1) := by decide +kernel
theorem dX4_has_16 : decode cX4_has 16 = .ok (.goto 4, 3) := by decide +kernel
theorem dX4_has_19 : decode cX4_has 19 = .ok (.iconst 0, 1) := by decide +kernel
theorem dX4_has_20 : decode cX4_has 20 = .ok (.ireturn, 1) := by decide +kernel
set_option maxRecDepth 20000 in
theorem ggX4_length_X3_get : GoodIn wsX4_length wsX3_get := goodIn_r _ [6, 7, 8, 12, 13] (by decide +kernel) (by decide +kernel)
set_option maxRecDepth 20000 in
theorem gX4_length_X3_get : GoodIn wsX4_length (wsV RX4 35 RX3 yX3_get wsX3_get) := goodIn_app (goodIn_of _ (by decide +kernel)) ggX4_length_X3_get
theorem dX4_length_0 : decode cX4_length 0 = .ok (.aload_n 0, 1) := by decide +kernel
theorem dX4_length_1 : decode cX4_length 1 = .ok (.getfield 28, 3) := by decide +kernel
theorem dX4_length_4 : decode cX4_length 4 = .ok (.iload_n 1, 1) := by decide +kernel
theorem dX4_length_5 : decode cX4_length 5 = .ok (.invokevirtual 35, 3) := by decide +kernel
theorem dX4_length_8 : decode cX4_length 8 = .ok (.ireturn, 1) := by decide +kernel
set_option maxRecDepth 20000 in
theorem ggX4_wholeLength_X3_size : GoodIn wsX4_wholeLength wsX3_size := goodIn_r _ [6, 7, 16, 17] (by decide +kernel) (by decide +kernel)
set_option maxRecDepth 20000 in
theorem gX4_wholeLength_X3_size : GoodIn wsX4_wholeLength (wsV RX4 31 RX3 yX3_size wsX3_size) := goodIn_app (goodIn_of _ (by decide +kernel)) ggX4_wholeLength_X3_size
set_option maxRecDepth 20000 in
theorem ggX4_wholeLength_X3_get : GoodIn wsX4_wholeLength wsX3_get := goodIn_r _ [11, 7, 12, 16, 17] (by decide +kernel) (by decide +kernel)
set_option maxRecDepth 20000 in
theorem gX4_wholeLength_X3_get : GoodIn wsX4_wholeLength (wsV RX4 35 RX3 yX3_get wsX3_get) := goodIn_app (goodIn_of _ (by decide +kernel)) ggX4_wholeLength_X3_get
theorem dX4_wholeLength_0 : decode cX4_wholeLength 0 = .ok (.iconst 0, 1) := by decide +kernel
theorem dX4_wholeLength_1 : decode cX4_wholeLength 1 = .ok (.istore_n 1, 1) := by decide +kernel
theorem dX4_wholeLength_2 : decode cX4_wholeLength 2 = .ok (.iconst 0, 1) := by decide +kernel
theorem dX4_wholeLength_3 : decode cX4_wholeLength 3 = .ok (.istore_n 2, 1) := by decide +kernel
theorem dX4_wholeLength_4 : decode cX4_wholeLength 4 = .ok (.iload_n 2, 1) := by decide +kernel
theorem dX4_wholeLength_5 : decode cX4_wholeLength 5 = .ok (.aload_n 0, 1) := by decide +kernel
theorem dX4_wholeLength_6 : decode cX4_wholeLength 6 = .ok (.getfield 28, 3) := by decide +kernel
theorem dX4_wholeLength_9 : decode cX4_wholeLength 9 = .ok (.invokevirtual 31, 3) := by decide +kernel
theorem dX4_wholeLength_12 : decode cX4_wholeLength 12 = .ok (.if_icmp .ge 20, 3) := by decide +kernel
theorem dX4_wholeLength_15 : decode cX4_wholeLength 15 = .ok (.iload_n 1, 1) := by decide +kernel
theorem dX4_wholeLength_16 : decode cX4_wholeLength 16 = .ok (.aload_n 0, 1) := by decide +kernel
theorem dX4_wholeLength_17 : decode cX4_wholeLength 17 = .ok (.getfield 28, 3) := by decide +kernel
theorem dX4_wholeLength_20 : decode cX4_wholeLength 20 = .ok (.iload_n 2, 1) := by decide +kernel
theorem dX4_wholeLength_21 : decode cX4_wholeLength 21 = .ok (.invokevirtual 35, 3) := by decide +kernel
theorem dX4_wholeLength_24 : decode cX4_wholeLength 24 = .ok (.iadd, 1) := by decide +kernel
theorem dX4_wholeLength_25 : decode cX4_wholeLength 25 = .ok (.istore_n 1, 1) := by decide +kernel
theorem dX4_wholeLength_26 : decode cX4_wholeLength 26 = .ok (.iinc 2 1, 3) := by decide +kernel
theorem dX4_wholeLength_29 : decode cX4_wholeLength 29 = .ok (.goto (-25), 3) := by decide +kernel
theorem dX4_wholeLength_32 : decode cX4_wholeLength 32 = .ok (.iload_n 1, 1) := by decide +kernel
theorem dX4_wholeLength_33 : decode cX4_wholeLength 33 = .ok (.ireturn, 1) := by decide +kernel
set_option maxRecDepth 20000 in
theorem ggX4_get_X3_get : GoodIn wsX4_get wsX3_get := goodIn_r _ [8, 9, 10, 14, 15] (by decide +kernel) (by decide +kernel)
set_option maxRecDepth 20000 in
theorem gX4_get_X3_get : GoodIn wsX4_get (wsV RX4 35 RX3 yX3_get wsX3_get) := goodIn_app (goodIn_of _ (by decide +kernel)) ggX4_get_X3_get
theorem dX4_get_0 : decode cX4_get 0 = .ok (.iload_n 2, 1) := by decide +kernel
theorem dX4_get_1 : decode cX4_get 1 = .ok (.ifCond .lt 19, 3) := by decide +kernel
theorem dX4_get_4 : decode cX4_get 4 = .ok (.iload_n 2, 1) := by decide +kernel
theorem dX4_get_5 : decode cX4_get 5 = .ok (.aload_n 0, 1) := by decide +kernel
theorem dX4_get_6 : decode cX4_get 6 = .ok (.getfield 28, 3) := by decide +kernel
theorem dX4_get_9 : decode cX4_get 9 = .ok (.iload_n 1, 1) := by decide +kernel
theorem dX4_get_10 : decode cX4_get 10 = .ok (.invokevirtual 35, 3) := by decide +kernel
theorem dX4_get_13 : decode cX4_get 13 = .ok (.if_icmp .ge 7, 3) := by decide +kernel
theorem dX4_get_16 : decode cX4_get 16 = .ok (.iconst 1, 1) := by decide +kernel
theorem dX4_get_17 : decode cX4_get 17 = .ok (.goto 4, 3) := by decide +kernel
theorem dX4_get_20 : decode cX4_get 20 = .ok (.iconst 0, 1) := by decide +kernel
theorem dX4_get_21 : decode cX4_get 21 = .ok (.istore_n 3, 1) := by decide +kernel
theorem dX4_get_22 : decode cX4_get 22 = .ok (.iload_n 3, 1) := by decide +kernel
theorem dX4_get_23 : decode cX4_get 23 = .ok (.ifCond .eq 21, 3) := by decide +kernel
theorem dX4_get_26 : decode cX4_get 26 = .ok (.aload_n 0, 1) := by decide +kernel
theorem dX4_get_27 : decode cX4_get 27 = .ok (.getfield 20, 3) := by decide +kernel
theorem dX4_get_30 : decode cX4_get 30 = .ok (.iload_n 1, 1) := by decide +kernel
theorem dX4_get_31 : decode cX4_get 31 = .ok (.aload_n 0, 1) := by decide +kernel
theorem dX4_get_32 : decode cX4_get 32 = .ok (.getfield 9, 3) := by decide +kernel
theorem dX4_get_35 : decode cX4_get 35 = .ok (.imul, 1) := by decide +kernel
theorem dX4_get_36 : decode cX4_get 36 = .ok (.iload_n 2, 1) := by decide +kernel
theorem dX4_get_37 : decode cX4_get 37 = .ok (.iadd, 1) := by decide +kernel
theorem dX4_get_38 : decode cX4_get 38 = .ok (.invokevirtual 35, 3) := by decide +kernel
theorem dX4_get_41 : decode cX4_get 41 = .ok (.goto 5, 3) := by decide +kernel
theorem dX4_get_44 : decode cX4_get 44 = .ok (.bipush (-5), 2) := by decide +kernel
theorem dX4_get_46 : decode cX4_get 46 = .ok (.ireturn, 1) := by decide +kernel
set_option maxRecDepth 20000 in
theorem ggX4_add_X3_isFull : GoodIn wsX4_add wsX3_isFull := goodIn_r _ [6, 7, 8, 43, 44] (by decide +kernel) (by decide +kernel)
set_option maxRecDepth 20000 in
theorem gX4_add_X3_isFull : GoodIn wsX4_add (wsV RX4 39 RX3 yX3_isFull wsX3_isFull) := goodIn_app (goodIn_of _ (by decide +kernel)) ggX4_add_X3_isFull
set_option maxRecDepth 20000 in
theorem ggX4_add_X3_add : GoodIn wsX4_add wsX3_add := goodIn_r _ [12, 7, 8, 43, 44] (by decide +kernel) (by decide +kernel)
set_option maxRecDepth 20000 in
theorem gX4_add_X3_add : GoodIn wsX4_add (wsV RX4 43 RX3 yX3_add wsX3_add) := goodIn_app (goodIn_of _ (by decide +kernel)) ggX4_add_X3_add
set_option maxRecDepth 20000 in
theorem ggX4_add_X3_size : GoodIn wsX4_add wsX3_size := goodIn_r _ [16, 7, 43, 44] (by decide +kernel) (by decide +kernel)
set_option maxRecDepth 20000 in
theorem gX4_add_X3_size : GoodIn wsX4_add (wsV RX4 31 RX3 yX3_size wsX3_size) := goodIn_app (goodIn_of _ (by decide +kernel)) ggX4_add_X3_size
set_option maxRecDepth 20000 in
theorem ggX4_add_X4_put : GoodIn wsX4_add wsX4_put := goodIn_r _ [21, 22, 23, 24, 25, 26, 1, 27, 28, 29, 30, 20, 31, 13, 14, 15, 5, 16, 7, 32, 33, 34, 35, 8, 36, 37, 38, 39, 40, 41, 42, 43, 44] (by decide +kernel) (by decide +kernel)
set_option maxRecDepth 20000 in
theorem gX4_add_X4_put : GoodIn wsX4_add (wsV RX4 46 RX4 yX4_put wsX4_put) := goodIn_app (goodIn_of _ (by decide +kernel)) ggX4_add_X4_put
theorem dX4_add_0 : decode cX4_add 0 = .ok (.aload_n 0, 1) := by decide +kernel
theorem dX4_add_1 : decode cX4_add 1 = .ok (.getfield 28, 3) := by decide +kernel
theorem dX4_add_4 : decode cX4_add 4 = .ok (.invokevirtual 39, 3) := by decide +kernel
theorem dX4_add_7 : decode cX4_add 7 = .ok (.ifCond .ne 25, 3) := by decide +kernel
theorem dX4_add_10 : decode cX4_add 10 = .ok (.aload_n 0, 1) := by decide +kernel
theorem dX4_add_11 : decode cX4_add 11 = .ok (.getfield 28, 3) := by decide +kernel
theorem dX4_add_14 : decode cX4_add 14 = .ok (.iconst 0, 1) := by decide +kernel
theorem dX4_add_15 : decode cX4_add 15 = .ok (.invokevirtual 43, 3) := by decide +kernel
theorem dX4_add_18 : decode cX4_add 18 = .ok (.aload_n 0, 1) := by decide +kernel
theorem dX4_add_19 : decode cX4_add 19 = .ok (.aload_n 0, 1) := by decide +kernel
theorem dX4_add_20 : decode cX4_add 20 = .ok (.getfield 28, 3) := by decide +kernel
theorem dX4_add_23 : decode cX4_add 23 = .ok (.invokevirtual 31, 3) := by decide +kernel
theorem dX4_add_26 : decode cX4_add 26 = .ok (.iconst 1, 1) := by decide +kernel
theorem dX4_add_27 : decode cX4_add 27 = .ok (.isub, 1) := by decide +kernel
theorem dX4_add_28 : decode cX4_add 28 = .ok (.aload_n 1, 1) := by decide +kernel
theorem dX4_add_29 : decode cX4_add 29 = .ok (.invokevirtual 46, 3) := by decide +kernel
theorem dX4_add_32 : decode cX4_add 32 = .ok (.return_, 1) := by decide +kernel
set_option maxRecDepth 20000 in
theorem ggX4_put_X4_has : GoodIn wsX4_put wsX4_has := goodIn_r _ [12, 6, 13, 14, 15, 16, 17, 18, 28, 29, 30, 31, 32] (by decide +kernel) (by decide +kernel)
set_option maxRecDepth 20000 in
theorem gX4_put_X4_has : GoodIn wsX4_put (wsV RX4 50 RX4 yX4_has wsX4_has) := goodIn_app (goodIn_of _ (by decide +kernel)) ggX4_put_X4_has
set_option maxRecDepth 20000 in
theorem ggX4_put_X3_size : GoodIn wsX4_put wsX3_size := goodIn_r _ [17, 18, 31, 32] (by decide +kernel) (by decide +kernel)
set_option maxRecDepth 20000 in
theorem gX4_put_X3_size : GoodIn wsX4_put (wsV RX4 31 RX3 yX3_size wsX3_size) := goodIn_app (goodIn_of _ (by decide +kernel)) ggX4_put_X3_size
set_option maxRecDepth 20000 in
theorem ggX4_put_X3_set : GoodIn wsX4_put wsX3_set := goodIn_r _ [22, 18, 23, 31, 32] (by decide +kernel) (by decide +kernel)
set_option maxRecDepth 20000 in
theorem gX4_put_X3_set : GoodIn wsX4_put (wsV RX4 60 RX3 yX3_set wsX3_set) := goodIn_app (goodIn_of _ (by decide +kernel)) ggX4_put_X3_set
set_option maxRecDepth 20000 in
theorem ggX4_put_X3_get : GoodIn wsX4_put wsX3_get := goodIn_r _ [27, 18, 23, 31, 32] (by decide +kernel) (by decide +kernel)
set_option maxRecDepth 20000 in
theorem gX4_put_X3_get : GoodIn wsX4_put (wsV RX4 35 RX3 yX3_get wsX3_get) := goodIn_app (goodIn_of _ (by decide +kernel)) ggX4_put_X3_get
theorem dX4_put_0 : decode cX4_put 0 = .ok (.aload_n 0, 1) := by decide +kernel
theorem dX4_put_1 : decode cX4_put 1 = .ok (.iload_n 1, 1) := by decide +kernel
theorem dX4_put_2 : decode cX4_put 2 = .ok (.invokevirtual 50, 3) := by decide +kernel
theorem dX4_put_5 : decode cX4_put 5 = .ok (.ifCond .eq 61, 3) := by decide +kernel
theorem dX4_put_8 : decode cX4_put 8 = .ok (.aload_n 2, 1) := by decide +kernel
theorem dX4_put_9 : decode cX4_put 9 = .ok (.invokevirtual 31, 3) := by decide +kernel
theorem dX4_put_12 : decode cX4_put 12 = .ok (.aload_n 0, 1) := by decide +kernel
theorem dX4_put_13 : decode cX4_put 13 = .ok (.getfield 9, 3) := by decide +kernel
theorem dX4_put_16 : decode cX4_put 16 = .ok (.invokestatic 54, 3) := by decide +kernel
theorem dX4_put_19 : decode cX4_put 19 = .ok (.istore_n 3, 1) := by decide +kernel
theorem dX4_put_20 : decode cX4_put 20 = .ok (.aload_n 0, 1) := by decide +kernel
theorem dX4_put_21 : decode cX4_put 21 = .ok (.getfield 28, 3) := by decide +kernel
theorem dX4_put_24 : decode cX4_put 24 = .ok (.iload_n 1, 1) := by decide +kernel
theorem dX4_put_25 : decode cX4_put 25 = .ok (.iload_n 3, 1) := by decide +kernel
theorem dX4_put_26 : decode cX4_put 26 = .ok (.invokevirtual 60, 3) := by decide +kernel
theorem dX4_put_29 : decode cX4_put 29 = .ok (.iconst 0, 1) := by decide +kernel
theorem dX4_put_30 : decode cX4_put 30 = .ok (.istore 4, 2) := by decide +kernel
theorem dX4_put_32 : decode cX4_put 32 = .ok (.iload 4, 2) := by decide +kernel
theorem dX4_put_34 : decode cX4_put 34 = .ok (.iload_n 3, 1) := by decide +kernel
theorem dX4_put_35 : decode cX4_put 35 = .ok (.if_icmp .ge 31, 3) := by decide +kernel
theorem dX4_put_38 : decode cX4_put 38 = .ok (.aload_n 0, 1) := by decide +kernel
theorem dX4_put_39 : decode cX4_put 39 = .ok (.getfield 20, 3) := by decide +kernel
theorem dX4_put_42 : decode cX4_put 42 = .ok (.iload_n 1, 1) := by decide +kernel
theorem dX4_put_43 : decode cX4_put 43 = .ok (.aload_n 0, 1) := by decide +kernel
theorem dX4_put_44 : decode cX4_put 44 = .ok (.getfield 9, 3) := by decide +kernel
theorem dX4_put_47 : decode cX4_put 47 = .ok (.imul, 1) := by decide +kernel
theorem dX4_put_48 : decode cX4_put 48 = .ok (.iload 4, 2) := by decide +kernel
theorem dX4_put_50 : decode cX4_put 50 = .ok (.iadd, 1) := by decide +kernel
theorem dX4_put_51 : decode cX4_put 51 = .ok (.aload_n 2, 1) := by decide +kernel
theorem dX4_put_52 : decode cX4_put 52 = .ok (.iload 4, 2) := by decide +kernel
theorem dX4_put_54 : decode cX4_put 54 = .ok (.invokevirtual 35, 3) := by decide +kernel
theorem dX4_put_57 : decode cX4_put 57 = .ok (.invokevirtual 60, 3) := by decide +kernel
theorem dX4_put_60 : decode cX4_put 60 = .ok (.iinc 4 1, 3) := by decide +kernel
theorem dX4_put_63 : decode cX4_put 63 = .ok (.goto (-31), 3) := by decide +kernel
theorem dX4_put_66 : decode cX4_put 66 = .ok (.return_, 1) := by decide +kernel
set_option maxRecDepth 20000 in
theorem ggX4_putOne_X4_has : GoodIn wsX4_putOne wsX4_has := goodIn_r _ [8, 2, 9, 10, 11, 12, 13, 14, 20, 21, 22, 23, 24] (by decide +kernel) (by decide +kernel)
set_option maxRecDepth 20000 in
theorem gX4_putOne_X4_has : GoodIn wsX4_putOne (wsV RX4 50 RX4 yX4_has wsX4_has) := goodIn_app (goodIn_of _ (by decide +kernel)) ggX4_putOne_X4_has
set_option maxRecDepth 20000 in
theorem ggX4_putOne_X3_set : GoodIn wsX4_putOne wsX3_set := goodIn_r _ [18, 14, 19, 23, 24] (by decide +kernel) (by decide +kernel)
set_option maxRecDepth 20000 in
theorem gX4_putOne_X3_set : GoodIn wsX4_putOne (wsV RX4 60 RX3 yX3_set wsX3_set) := goodIn_app (goodIn_of _ (by decide +kernel)) ggX4_putOne_X3_set
theorem dX4_putOne_0 : decode cX4_putOne 0 = .ok (.aload_n 0, 1) := by decide +kernel
theorem dX4_putOne_1 : decode cX4_putOne 1 = .ok (.iload_n 1, 1) := by decide +kernel
theorem dX4_putOne_2 : decode cX4_putOne 2 = .ok (.invokevirtual 50, 3) := by decide +kernel
theorem dX4_putOne_5 : decode cX4_putOne 5 = .ok (.ifCond .eq 33, 3) := by decide +kernel
theorem dX4_putOne_8 : decode cX4_putOne 8 = .ok (.aload_n 0, 1) := by decide +kernel
theorem dX4_putOne_9 : decode cX4_putOne 9 = .ok (.getfield 9, 3) := by decide +kernel
theorem dX4_putOne_12 : decode cX4_putOne 12 = .ok (.ifCond .le 26, 3) := by decide +kernel
theorem dX4_putOne_15 : decode cX4_putOne 15 = .ok (.aload_n 0, 1) := by decide +kernel
theorem dX4_putOne_16 : decode cX4_putOne 16 = .ok (.getfield 28, 3) := by decide +kernel
theorem dX4_putOne_19 : decode cX4_putOne 19 = .ok (.iload_n 1, 1) := by decide +kernel
theorem dX4_putOne_20 : decode cX4_putOne 20 = .ok (.iconst 1, 1) := by decide +kernel
theorem dX4_putOne_21 : decode cX4_putOne 21 = .ok (.invokevirtual 60, 3) := by decide +kernel
theorem dX4_putOne_24 : decode cX4_putOne 24 = .ok (.aload_n 0, 1) := by decide +kernel
theorem dX4_putOne_25 : decode cX4_putOne 25 = .ok (.getfield 20, 3) := by decide +kernel
theorem dX4_putOne_28 : decode cX4_putOne 28 = .ok (.iload_n 1, 1) := by decide +kernel
theorem dX4_putOne_29 : decode cX4_putOne 29 = .ok (.aload_n 0, 1) := by decide +kernel
theorem dX4_putOne_30 : decode cX4_putOne 30 = .ok (.getfield 9, 3) := by decide +kernel
theorem dX4_putOne_33 : decode cX4_putOne 33 = .ok (.imul, 1) := by decide +kernel
theorem dX4_putOne_34 : decode cX4_putOne 34 = .ok (.iload_n 2, 1) := by decide +kernel
theorem dX4_putOne_35 : decode cX4_putOne 35 = .ok (.invokevirtual 60, 3) := by decide +kernel
theorem dX4_putOne_38 : decode cX4_putOne 38 = .ok (.return_, 1) := by decide +kernel
set_option maxRecDepth 20000 in
theorem ggX4_copyTo_X3_clear : GoodIn wsX4_copyTo wsX3_clear := goodIn_r _ [6, 7, 27, 28] (by decide +kernel) (by decide +kernel)
set_option maxRecDepth 20000 in
theorem gX4_copyTo_X3_clear : GoodIn wsX4_copyTo (wsV RX4 63 RX3 yX3_clear wsX3_clear) := goodIn_app (goodIn_of _ (by decide +kernel)) ggX4_copyTo_X3_clear
set_option maxRecDepth 20000 in
theorem ggX4_copyTo_X3_get : GoodIn wsX4_copyTo wsX3_get := goodIn_r _ [11, 7, 12, 27, 28] (by decide +kernel) (by decide +kernel)
set_option maxRecDepth 20000 in
theorem gX4_copyTo_X3_get : GoodIn wsX4_copyTo (wsV RX4 35 RX3 yX3_get wsX3_get) := goodIn_app (goodIn_of _ (by decide +kernel)) ggX4_copyTo_X3_get
set_option maxRecDepth 20000 in
theorem ggX4_copyTo_X4_get : GoodIn wsX4_copyTo wsX4_get := goodIn_r _ [17, 1, 18, 19, 8, 9, 10, 5, 11, 7, 12, 24, 25, 26, 27, 28] (by decide +kernel) (by decide +kernel)
set_option maxRecDepth 20000 in
theorem gX4_copyTo_X4_get : GoodIn wsX4_copyTo (wsV RX4 66 RX4 yX4_get wsX4_get) := goodIn_app (goodIn_of _ (by decide +kernel)) ggX4_copyTo_X4_get
set_option maxRecDepth 20000 in
theorem ggX4_copyTo_X3_add : GoodIn wsX4_copyTo wsX3_add := goodIn_r _ [23, 7, 12, 27, 28] (by decide +kernel) (by decide +kernel)
set_option maxRecDepth 20000 in
theorem gX4_copyTo_X3_add : GoodIn wsX4_copyTo (wsV RX4 43 RX3 yX3_add wsX3_add) := goodIn_app (goodIn_of _ (by decide +kernel)) ggX4_copyTo_X3_add
theorem dX4_copyTo_0 : decode cX4_copyTo 0 = .ok (.aload_n 2, 1) := by decide +kernel
theorem dX4_copyTo_1 : decode cX4_copyTo 1 = .ok (.invokevirtual 63, 3) := by decide +kernel
theorem dX4_copyTo_4 : decode cX4_copyTo 4 = .ok (.iconst 0, 1) := by decide +kernel
theorem dX4_copyTo_5 : decode cX4_copyTo 5 = .ok (.istore_n 3, 1) := by decide +kernel
theorem dX4_copyTo_6 : decode cX4_copyTo 6 = .ok (.iload_n 3, 1) := by decide +kernel
theorem dX4_copyTo_7 : decode cX4_copyTo 7 = .ok (.aload_n 0, 1) := by decide +kernel
theorem dX4_copyTo_8 : decode cX4_copyTo 8 = .ok (.getfield 28, 3) := by decide +kernel
theorem dX4_copyTo_11 : decode cX4_copyTo 11 = .ok (.iload_n 1, 1) := by decide +kernel
theorem dX4_copyTo_12 : decode cX4_copyTo 12 = .ok (.invokevirtual 35, 3) := by decide +kernel
theorem dX4_copyTo_15 : decode cX4_copyTo 15 = .ok (.if_icmp .ge 19, 3) := by decide +kernel
theorem dX4_copyTo_18 : decode cX4_copyTo 18 = .ok (.aload_n 2, 1) := by decide +kernel
theorem dX4_copyTo_19 : decode cX4_copyTo 19 = .ok (.aload_n 0, 1) := by decide +kernel
theorem dX4_copyTo_20 : decode cX4_copyTo 20 = .ok (.iload_n 1, 1) := by decide +kernel
theorem dX4_copyTo_21 : decode cX4_copyTo 21 = .ok (.iload_n 3, 1) := by decide +kernel
theorem dX4_copyTo_22 : decode cX4_copyTo 22 = .ok (.invokevirtual 66, 3) := by decide +kernel
theorem dX4_copyTo_25 : decode cX4_copyTo 25 = .ok (.invokevirtual 43, 3) := by decide +kernel
theorem dX4_copyTo_28 : decode cX4_copyTo 28 = .ok (.iinc 3 1, 3) := by decide +kernel
theorem dX4_copyTo_31 : decode cX4_copyTo 31 = .ok (.goto (-25), 3) := by decide +kernel
theorem dX4_copyTo_34 : decode cX4_copyTo 34 = .ok (.return_, 1) := by decide +kernel
set_option maxRecDepth 20000 in
theorem ggX4_copyFrom_X3_copyFrom : GoodIn wsX4_copyFrom wsX3_copyFrom := goodIn_r _ [8, 9, 10, 11, 7, 12, 13, 14, 15, 16, 17, 18, 19, 20, 21, 22, 23, 24, 25, 26, 39, 40] (by decide +kernel) (by decide +kernel)
set_option maxRecDepth 20000 in
theorem gX4_copyFrom_X3_copyFrom : GoodIn wsX4_copyFrom (wsV RX4 68 RX3 yX3_copyFrom wsX3_copyFrom) := goodIn_app (goodIn_of _ (by decide +kernel)) ggX4_copyFrom_X3_copyFrom
set_option maxRecDepth 20000 in
theorem ggX4_copyFrom_X3_size : GoodIn wsX4_copyFrom wsX3_size := goodIn_r _ [30, 13, 39, 40] (by decide +kernel) (by decide +kernel)
set_option maxRecDepth 20000 in
theorem gX4_copyFrom_X3_size : GoodIn wsX4_copyFrom (wsV RX4 31 RX3 yX3_size wsX3_size) := goodIn_app (goodIn_of _ (by decide +kernel)) ggX4_copyFrom_X3_size
set_option maxRecDepth 20000 in
theorem ggX4_copyFrom_X3_get : GoodIn wsX4_copyFrom wsX3_get := goodIn_r _ [21, 13, 22, 39, 40] (by decide +kernel) (by decide +kernel)
set_option maxRecDepth 20000 in
theorem gX4_copyFrom_X3_get : GoodIn wsX4_copyFrom (wsV RX4 35 RX3 yX3_get wsX3_get) := goodIn_app (goodIn_of _ (by decide +kernel)) ggX4_copyFrom_X3_get
set_option maxRecDepth 20000 in
theorem ggX4_copyFrom_X3_set : GoodIn wsX4_copyFrom wsX3_set := goodIn_r _ [35, 13, 22, 39, 40] (by decide +kernel) (by decide +kernel)
set_option maxRecDepth 20000 in
theorem gX4_copyFrom_X3_set : GoodIn wsX4_copyFrom (wsV RX4 60 RX3 yX3_set wsX3_set) := goodIn_app (goodIn_of _ (by decide +kernel)) ggX4_copyFrom_X3_set
theorem dX4_copyFrom_0 : decode cX4_copyFrom 0 = .ok (.aload_n 0, 1) := by decide +kernel
theorem dX4_copyFrom_1 : decode cX4_copyFrom 1 = .ok (.getfield 28, 3) := by decide +kernel
theorem dX4_copyFrom_4 : decode cX4_copyFrom 4 = .ok (.aload_n 1, 1) := by decide +kernel
theorem dX4_copyFrom_5 : decode cX4_copyFrom 5 = .ok (.getfield 28, 3) := by decide +kernel
theorem dX4_copyFrom_8 : decode cX4_copyFrom 8 = .ok (.invokevirtual 68, 3) := by decide +kernel
theorem dX4_copyFrom_11 : decode cX4_copyFrom 11 = .ok (.iconst 0, 1) := by decide +kernel
theorem dX4_copyFrom_12 : decode cX4_copyFrom 12 = .ok (.istore_n 2, 1) := by decide +kernel
theorem dX4_copyFrom_13 : decode cX4_copyFrom 13 = .ok (.iload_n 2, 1) := by decide +kernel
theorem dX4_copyFrom_14 : decode cX4_copyFrom 14 = .ok (.aload_n 0, 1) := by decide +kernel
theorem dX4_copyFrom_15 : decode cX4_copyFrom 15 = .ok (.getfield 28, 3) := by decide +kernel
theorem dX4_copyFrom_18 : decode cX4_copyFrom 18 = .ok (.invokevirtual 31, 3) := by decide +kernel
theorem dX4_copyFrom_21 : decode cX4_copyFrom 21 = .ok (.aload_n 0, 1) := by decide +kernel
theorem dX4_copyFrom_22 : decode cX4_copyFrom 22 = .ok (.getfield 9, 3) := by decide +kernel
theorem dX4_copyFrom_25 : decode cX4_copyFrom 25 = .ok (.imul, 1) := by decide +kernel
theorem dX4_copyFrom_26 : decode cX4_copyFrom 26 = .ok (.if_icmp .ge 25, 3) := by decide +kernel
theorem dX4_copyFrom_29 : decode cX4_copyFrom 29 = .ok (.aload_n 0, 1) := by decide +kernel
theorem dX4_copyFrom_30 : decode cX4_copyFrom 30 = .ok (.getfield 20, 3) := by decide +kernel
theorem dX4_copyFrom_33 : decode cX4_copyFrom 33 = .ok (.iload_n 2, 1) := by decide +kernel
theorem dX4_copyFrom_34 : decode cX4_copyFrom 34 = .ok (.aload_n 1, 1) := by decide +kernel
theorem dX4_copyFrom_35 : decode cX4_copyFrom 35 = .ok (.getfield 20, 3) := by decide +kernel
theorem dX4_copyFrom_38 : decode cX4_copyFrom 38 = .ok (.iload_n 2, 1) := by decide +kernel
theorem dX4_copyFrom_39 : decode cX4_copyFrom 39 = .ok (.invokevirtual 35, 3) := by decide +kernel
theorem dX4_copyFrom_42 : decode cX4_copyFrom 42 = .ok (.invokevirtual 60, 3) := by decide +kernel
theorem dX4_copyFrom_45 : decode cX4_copyFrom 45 = .ok (.iinc 2 1, 3) := by decide +kernel
theorem dX4_copyFrom_48 : decode cX4_copyFrom 48 = .ok (.goto (-35), 3) := by decide +kernel
theorem dX4_copyFrom_51 : decode cX4_copyFrom 51 = .ok (.return_, 1) := by decide +kernel
set_option maxRecDepth 20000 in
theorem ggX4_clear_X3_clear : GoodIn wsX4_clear wsX3_clear := goodIn_r _ [6, 7, 11, 12] (by decide +kernel) (by decide +kernel)
set_option maxRecDepth 20000 in
theorem gX4_clear_X3_clear : GoodIn wsX4_clear (wsV RX4 63 RX3 yX3_clear wsX3_clear) := goodIn_app (goodIn_of _ (by decide +kernel)) ggX4_clear_X3_clear
theorem dX4_clear_0 : decode cX4_clear 0 = .ok (.aload_n 0, 1) := by decide +kernel
theorem dX4_clear_1 : decode cX4_clear 1 = .ok (.getfield 28, 3) := by decide +kernel
theorem dX4_clear_4 : decode cX4_clear 4 = .ok (.invokevirtual 63, 3) := by decide +kernel
theorem dX4_clear_7 : decode cX4_clear 7 = .ok (.return_, 1) := by decide +kernel
set_option maxRecDepth 20000 in
theorem ggX4_isLike_X3_get : GoodIn wsX4_isLike wsX3_get := goodIn_r _ [6, 7, 8, 23, 24] (by decide +kernel) (by decide +kernel)
set_option maxRecDepth 20000 in
theorem gX4_isLike_X3_get : GoodIn wsX4_isLike (wsV RX4 35 RX3 yX3_get wsX3_get) := goodIn_app (goodIn_of _ (by decide +kernel)) ggX4_isLike_X3_get
set_option maxRecDepth 20000 in
theorem ggX4_isLike_X3_size : GoodIn wsX4_isLike wsX3_size := goodIn_r _ [12, 7, 23, 24] (by decide +kernel) (by decide +kernel)
set_option maxRecDepth 20000 in
theorem gX4_isLike_X3_size : GoodIn wsX4_isLike (wsV RX4 31 RX3 yX3_size wsX3_size) := goodIn_app (goodIn_of _ (by decide +kernel)) ggX4_isLike_X3_size
set_option maxRecDepth 20000 in
theorem ggX4_isLike_X4_get : GoodIn wsX4_isLike wsX4_get := goodIn_r _ [17, 1, 18, 19, 2, 3, 4, 5, 6, 7, 8, 20, 21, 22, 23, 24] (by decide +kernel) (by decide +kernel)
set_option maxRecDepth 20000 in
theorem gX4_isLike_X4_get : GoodIn wsX4_isLike (wsV RX4 66 RX4 yX4_get wsX4_get) := goodIn_app (goodIn_of _ (by decide +kernel)) ggX4_isLike_X4_get
theorem dX4_isLike_0 : decode cX4_isLike 0 = .ok (.aload_n 0, 1) := by decide +kernel
theorem dX4_isLike_1 : decode cX4_isLike 1 = .ok (.getfield 28, 3) := by decide +kernel
theorem dX4_isLike_4 : decode cX4_isLike 4 = .ok (.iload_n 1, 1) := by decide +kernel
theorem dX4_isLike_5 : decode cX4_isLike 5 = .ok (.invokevirtual 35, 3) := by decide +kernel
theorem dX4_isLike_8 : decode cX4_isLike 8 = .ok (.aload_n 2, 1) := by decide +kernel
theorem dX4_isLike_9 : decode cX4_isLike 9 = .ok (.invokevirtual 31, 3) := by decide +kernel
theorem dX4_isLike_12 : decode cX4_isLike 12 = .ok (.if_icmp .eq 5, 3) := by decide +kernel
theorem dX4_isLike_15 : decode cX4_isLike 15 = .ok (.iconst 0, 1) := by decide +kernel
theorem dX4_isLike_16 : decode cX4_isLike 16 = .ok (.ireturn, 1) := by decide +kernel
theorem dX4_isLike_17 : decode cX4_isLike 17 = .ok (.iconst 0, 1) := by decide +kernel
theorem dX4_isLike_18 : decode cX4_isLike 18 = .ok (.istore_n 3, 1) := by decide +kernel
theorem dX4_isLike_19 : decode cX4_isLike 19 = .ok (.iload_n 3, 1) := by decide +kernel
theorem dX4_isLike_20 : decode cX4_isLike 20 = .ok (.aload_n 2, 1) := by decide +kernel
theorem dX4_isLike_21 : decode cX4_isLike 21 = .ok (.invokevirtual 31, 3) := by decide +kernel
theorem dX4_isLike_24 : decode cX4_isLike 24 = .ok (.if_icmp .ge 25, 3) := by decide +kernel
theorem dX4_isLike_27 : decode cX4_isLike 27 = .ok (.aload_n 0, 1) := by decide +kernel
theorem dX4_isLike_28 : decode cX4_isLike 28 = .ok (.iload_n 1, 1) := by decide +kernel
theorem dX4_isLike_29 : decode cX4_isLike 29 = .ok (.iload_n 3, 1) := by decide +kernel
theorem dX4_isLike_30 : decode cX4_isLike 30 = .ok (.invokevirtual 66, 3) := by decide +kernel
theorem dX4_isLike_33 : decode cX4_isLike 33 = .ok (.aload_n 2, 1) := by decide +kernel
theorem dX4_isLike_34 : decode cX4_isLike 34 = .ok (.iload_n 3, 1) := by decide +kernel
theorem dX4_isLike_35 : decode cX4_isLike 35 = .ok (.invokevirtual 35, 3) := by decide +kernel
theorem dX4_isLike_38 : decode cX4_isLike 38 = .ok (.if_icmp .eq 5, 3) := by decide +kernel
theorem dX4_isLike_41 : decode cX4_isLike 41 = .ok (.iconst 0, 1) := by decide +kernel
theorem dX4_isLike_42 : decode cX4_isLike 42 = .ok (.ireturn, 1) := by decide +kernel
theorem dX4_isLike_43 : decode cX4_isLike 43 = .ok (.iinc 3 1, 3) := by decide +kernel
theorem dX4_isLike_46 : decode cX4_isLike 46 = .ok (.goto (-27), 3) := by decide +kernel
theorem dX4_isLike_49 : decode cX4_isLike 49 = .ok (.iconst 1, 1) := by decide +kernel
theorem dX4_isLike_50 : decode cX4_isLike 50 = .ok (.ireturn, 1) := by decide +kernel
set_option maxRecDepth 20000 in
theorem ggX4_isLike__X3_get : GoodIn wsX4_isLike_ wsX3_get := goodIn_r _ [6, 7, 8, 19, 20] (by decide +kernel) (by decide +kernel)
set_option maxRecDepth 20000 in
theorem gX4_isLike__X3_get : GoodIn wsX4_isLike_ (wsV RX4 35 RX3 yX3_get wsX3_get) := goodIn_app (goodIn_of _ (by decide +kernel)) ggX4_isLike__X3_get
set_option maxRecDepth 20000 in
theorem ggX4_isLike__X4_get : GoodIn wsX4_isLike_ wsX4_get := goodIn_r _ [13, 1, 14, 15, 2, 3, 4, 5, 6, 7, 8, 16, 17, 18, 19, 20] (by decide +kernel) (by decide +kernel)
set_option maxRecDepth 20000 in
theorem gX4_isLike__X4_get : GoodIn wsX4_isLike_ (wsV RX4 66 RX4 yX4_get wsX4_get) := goodIn_app (goodIn_of _ (by decide +kernel)) ggX4_isLike__X4_get
theorem dX4_isLike__0 : decode cX4_isLike_ 0 = .ok (.aload_n 0, 1) := by decide +kernel
theorem dX4_isLike__1 : decode cX4_isLike_ 1 = .ok (.getfield 28, 3) := by decide +kernel
theorem dX4_isLike__4 : decode cX4_isLike_ 4 = .ok (.iload_n 1, 1) := by decide +kernel
theorem dX4_isLike__5 : decode cX4_isLike_ 5 = .ok (.invokevirtual 35, 3) := by decide +kernel
theorem dX4_isLike__8 : decode cX4_isLike_ 8 = .ok (.aload_n 2, 1) := by decide +kernel
theorem dX4_isLike__9 : decode cX4_isLike_ 9 = .ok (.getfield 28, 3) := by decide +kernel
theorem dX4_isLike__12 : decode cX4_isLike_ 12 = .ok (.iload_n 3, 1) := by decide +kernel
theorem dX4_isLike__13 : decode cX4_isLike_ 13 = .ok (.invokevirtual 35, 3) := by decide +kernel
theorem dX4_isLike__16 : decode cX4_isLike_ 16 = .ok (.if_icmp .eq 5, 3) := by decide +kernel
theorem dX4_isLike__19 : decode cX4_isLike_ 19 = .ok (.iconst 0, 1) := by decide +kernel
theorem dX4_isLike__20 : decode cX4_isLike_ 20 = .ok (.ireturn, 1) := by decide +kernel
theorem dX4_isLike__21 : decode cX4_isLike_ 21 = .ok (.iconst 0, 1) := by decide +kernel
theorem dX4_isLike__22 : decode cX4_isLike_ 22 = .ok (.istore 4, 2) := by decide +kernel
theorem dX4_isLike__24 : decode cX4_isLike_ 24 = .ok (.iload 4, 2) := by decide +kernel
theorem dX4_isLike__26 : decode cX4_isLike_ 26 = .ok (.aload_n 0, 1) := by decide +kernel
theorem dX4_isLike__27 : decode cX4_isLike_ 27 = .ok (.getfield 28, 3) := by decide +kernel
theorem dX4_isLike__30 : decode cX4_isLike_ 30 = .ok (.iload_n 1, 1) := by decide +kernel
theorem dX4_isLike__31 : decode cX4_isLike_ 31 = .ok (.invokevirtual 35, 3) := by decide +kernel
theorem dX4_isLike__34 : decode cX4_isLike_ 34 = .ok (.if_icmp .ge 28, 3) := by decide +kernel
theorem dX4_isLike__37 : decode cX4_isLike_ 37 = .ok (.aload_n 0, 1) := by decide +kernel
theorem dX4_isLike__38 : decode cX4_isLike_ 38 = .ok (.iload_n 1, 1) := by decide +kernel
theorem dX4_isLike__39 : decode cX4_isLike_ 39 = .ok (.iload 4, 2) := by decide +kernel
theorem dX4_isLike__41 : decode cX4_isLike_ 41 = .ok (.invokevirtual 66, 3) := by decide +kernel
theorem dX4_isLike__44 : decode cX4_isLike_ 44 = .ok (.aload_n 2, 1) := by decide +kernel
theorem dX4_isLike__45 : decode cX4_isLike_ 45 = .ok (.iload_n 3, 1) := by decide +kernel
theorem dX4_isLike__46 : decode cX4_isLike_ 46 = .ok (.iload 4, 2) := by decide +kernel
theorem dX4_isLike__48 : decode cX4_isLike_ 48 = .ok (.invokevirtual 66, 3) := by decide +kernel
theorem dX4_isLike__51 : decode cX4_isLike_ 51 = .ok (.if_icmp .eq 5, 3) := by decide +kernel
theorem dX4_isLike__54 : decode cX4_isLike_ 54 = .ok (.iconst 0, 1) := by decide +kernel
theorem dX4_isLike__55 : decode cX4_isLike_ 55 = .ok (.ireturn, 1) := by decide +kernel
theorem dX4_isLike__56 : decode cX4_isLike_ 56 = .ok (.iinc 4 1, 3) := by decide +kernel
theorem dX4_isLike__59 : decode cX4_isLike_ 59 = .ok (.goto (-35), 3) := by decide +kernel
theorem dX4_isLike__62 : decode cX4_isLike_ 62 = .ok (.iconst 1, 1) := by decide +kernel
theorem dX4_isLike__63 : decode cX4_isLike_ 63 = .ok (.ireturn, 1) := by decide +kernel
set_option maxRecDepth 20000 in
theorem ggX4_find_X3_size : GoodIn wsX4_find wsX3_size := goodIn_r _ [6, 7, 27, 28] (by decide +kernel) (by decide +kernel)
set_option maxRecDepth 20000 in
theorem gX4_find_X3_size : GoodIn wsX4_find (wsV RX4 31 RX3 yX3_size wsX3_size) := goodIn_app (goodIn_of _ (by decide +kernel)) ggX4_find_X3_size
set_option maxRecDepth 20000 in
theorem ggX4_find_X4_isLike : GoodIn wsX4_find wsX4_isLike := goodIn_r _ [12, 1, 13, 14, 15, 5, 16, 7, 17, 2, 3, 4, 6, 18, 19, 20, 11, 21, 22, 23, 24, 25, 26, 27, 28] (by decide +kernel) (by decide +kernel)
set_option maxRecDepth 20000 in
theorem gX4_find_X4_isLike : GoodIn wsX4_find (wsV RX4 72 RX4 yX4_isLike wsX4_isLike) := goodIn_app (goodIn_of _ (by decide +kernel)) ggX4_find_X4_isLike
theorem dX4_find_0 : decode cX4_find 0 = .ok (.iconst 0, 1) := by decide +kernel
theorem dX4_find_1 : decode cX4_find 1 = .ok (.istore_n 2, 1) := by decide +kernel
theorem dX4_find_2 : decode cX4_find 2 = .ok (.iload_n 2, 1) := by decide +kernel
theorem dX4_find_3 : decode cX4_find 3 = .ok (.aload_n 0, 1) := by decide +kernel
theorem dX4_find_4 : decode cX4_find 4 = .ok (.getfield 28, 3) := by decide +kernel
theorem dX4_find_7 : decode cX4_find 7 = .ok (.invokevirtual 31, 3) := by decide +kernel
theorem dX4_find_10 : decode cX4_find 10 = .ok (.if_icmp .ge 20, 3) := by decide +kernel
theorem dX4_find_13 : decode cX4_find 13 = .ok (.aload_n 0, 1) := by decide +kernel
theorem dX4_find_14 : decode cX4_find 14 = .ok (.iload_n 2, 1) := by decide +kernel
theorem dX4_find_15 : decode cX4_find 15 = .ok (.aload_n 1, 1) := by decide +kernel
theorem dX4_find_16 : decode cX4_find 16 = .ok (.invokevirtual 72, 3) := by decide +kernel
theorem dX4_find_19 : decode cX4_find 19 = .ok (.ifCond .eq 5, 3) := by decide +kernel
theorem dX4_find_22 : decode cX4_find 22 = .ok (.iload_n 2, 1) := by decide +kernel
theorem dX4_find_23 : decode cX4_find 23 = .ok (.ireturn, 1) := by decide +kernel
theorem dX4_find_24 : decode cX4_find 24 = .ok (.iinc 2 1, 3) := by decide +kernel
theorem dX4_find_27 : decode cX4_find 27 = .ok (.goto (-25), 3) := by decide +kernel
theorem dX4_find_30 : decode cX4_find 30 = .ok (.bipush (-5), 2) := by decide +kernel
theorem dX4_find_32 : decode cX4_find 32 = .ok (.ireturn, 1) := by decide +kernel
set_option maxRecDepth 20000 in
theorem ggX4_lowestLike_X4_isLike_ : GoodIn wsX4_lowestLike wsX4_isLike_ := goodIn_r _ [5, 6, 7, 8, 9, 10, 11, 12, 13, 14, 15, 16, 4, 17, 18, 19, 20, 21, 22, 23, 24] (by decide +kernel) (by decide +kernel)
set_option maxRecDepth 20000 in
theorem gX4_lowestLike_X4_isLike_ : GoodIn wsX4_lowestLike (wsV RX4 76 RX4 yX4_isLike_ wsX4_isLike_) := goodIn_app (goodIn_of _ (by decide +kernel)) ggX4_lowestLike_X4_isLike_
theorem dX4_lowestLike_0 : decode cX4_lowestLike 0 = .ok (.iconst 0, 1) := by decide +kernel
theorem dX4_lowestLike_1 : decode cX4_lowestLike 1 = .ok (.istore_n 2, 1) := by decide +kernel
theorem dX4_lowestLike_2 : decode cX4_lowestLike 2 = .ok (.iload_n 2, 1) := by decide +kernel
theorem dX4_lowestLike_3 : decode cX4_lowestLike 3 = .ok (.iload_n 1, 1) := by decide +kernel
theorem dX4_lowestLike_4 : decode cX4_lowestLike 4 = .ok (.if_icmp .ge 21, 3) := by decide +kernel
theorem dX4_lowestLike_7 : decode cX4_lowestLike 7 = .ok (.aload_n 0, 1) := by decide +kernel
theorem dX4_lowestLike_8 : decode cX4_lowestLike 8 = .ok (.iload_n 2, 1) := by decide +kernel
theorem dX4_lowestLike_9 : decode cX4_lowestLike 9 = .ok (.aload_n 0, 1) := by decide +kernel
theorem dX4_lowestLike_10 : decode cX4_lowestLike 10 = .ok (.iload_n 1, 1) := by decide +kernel
theorem dX4_lowestLike_11 : decode cX4_lowestLike 11 = .ok (.invokevirtual 76, 3) := by decide +kernel
theorem dX4_lowestLike_14 : decode cX4_lowestLike 14 = .ok (.ifCond .eq 5, 3) := by decide +kernel
theorem dX4_lowestLike_17 : decode cX4_lowestLike 17 = .ok (.iload_n 2, 1) := by decide +kernel
theorem dX4_lowestLike_18 : decode cX4_lowestLike 18 = .ok (.ireturn, 1) := by decide +kernel
theorem dX4_lowestLike_19 : decode cX4_lowestLike 19 = .ok (.iinc 2 1, 3) := by decide +kernel
theorem dX4_lowestLike_22 : decode cX4_lowestLike 22 = .ok (.goto (-20), 3) := by decide +kernel
theorem dX4_lowestLike_25 : decode cX4_lowestLike 25 = .ok (.iload_n 1, 1) := by decide +kernel
theorem dX4_lowestLike_26 : decode cX4_lowestLike 26 = .ok (.ireturn, 1) := by decide +kernel
set_option maxRecDepth 20000 in
theorem ggX4_countLike_X3_size : GoodIn wsX4_countLike wsX3_size := goodIn_r _ [6, 7, 27, 28] (by decide +kernel) (by decide +kernel)
set_option maxRecDepth 20000 in
theorem gX4_countLike_X3_size : GoodIn wsX4_countLike (wsV RX4 31 RX3 yX3_size wsX3_size) := goodIn_app (goodIn_of _ (by decide +kernel)) ggX4_countLike_X3_size
set_option maxRecDepth 20000 in
theorem ggX4_countLike_X4_isLike_ : GoodIn wsX4_countLike wsX4_isLike_ := goodIn_r _ [12, 1, 13, 14, 15, 5, 16, 7, 17, 18, 19, 20, 11, 21, 22, 23, 24, 25, 26, 27, 28] (by decide +kernel) (by decide +kernel)
set_option maxRecDepth 20000 in
theorem gX4_countLike_X4_isLike_ : GoodIn wsX4_countLike (wsV RX4 76 RX4 yX4_isLike_ wsX4_isLike_) := goodIn_app (goodIn_of _ (by decide +kernel)) ggX4_countLike_X4_isLike_
theorem dX4_countLike_0 : decode cX4_countLike 0 = .ok (.iconst 0, 1) := by decide +kernel
theorem dX4_countLike_1 : decode cX4_countLike 1 = .ok (.istore_n 2, 1) := by decide +kernel
theorem dX4_countLike_2 : decode cX4_countLike 2 = .ok (.iconst 0, 1) := by decide +kernel
theorem dX4_countLike_3 : decode cX4_countLike 3 = .ok (.istore_n 3, 1) := by decide +kernel
theorem dX4_countLike_4 : decode cX4_countLike 4 = .ok (.iload_n 3, 1) := by decide +kernel
theorem dX4_countLike_5 : decode cX4_countLike 5 = .ok (.aload_n 0, 1) := by decide +kernel
theorem dX4_countLike_6 : decode cX4_countLike 6 = .ok (.getfield 28, 3) := by decide +kernel
theorem dX4_countLike_9 : decode cX4_countLike 9 = .ok (.invokevirtual 31, 3) := by decide +kernel
theorem dX4_countLike_12 : decode cX4_countLike 12 = .ok (.if_icmp .ge 22, 3) := by decide +kernel
theorem dX4_countLike_15 : decode cX4_countLike 15 = .ok (.aload_n 0, 1) := by decide +kernel
theorem dX4_countLike_16 : decode cX4_countLike 16 = .ok (.iload_n 3, 1) := by decide +kernel
theorem dX4_countLike_17 : decode cX4_countLike 17 = .ok (.aload_n 0, 1) := by decide +kernel
theorem dX4_countLike_18 : decode cX4_countLike 18 = .ok (.iload_n 1, 1) := by decide +kernel
theorem dX4_countLike_19 : decode cX4_countLike 19 = .ok (.invokevirtual 76, 3) := by decide +kernel
theorem dX4_countLike_22 : decode cX4_countLike 22 = .ok (.ifCond .eq 6, 3) := by decide +kernel
theorem dX4_countLike_25 : decode cX4_countLike 25 = .ok (.iinc 2 1, 3) := by decide +kernel
theorem dX4_countLike_28 : decode cX4_countLike 28 = .ok (.iinc 3 1, 3) := by decide +kernel
theorem dX4_countLike_31 : decode cX4_countLike 31 = .ok (.goto (-27), 3) := by decide +kernel
theorem dX4_countLike_34 : decode cX4_countLike 34 = .ok (.iload_n 2, 1) := by decide +kernel
theorem dX4_countLike_35 : decode cX4_countLike 35 = .ok (.ireturn, 1) := by decide +kernel
set_option maxRecDepth 20000 in
theorem ggX4_swap_X3_swap : GoodIn wsX4_swap wsX3_swap := goodIn_r _ [8, 9, 10, 11, 7, 12, 13, 14, 15, 16, 17, 18, 22, 23] (by decide +kernel) (by decide +kernel)
set_option maxRecDepth 20000 in
theorem gX4_swap_X3_swap : GoodIn wsX4_swap (wsV RX4 79 RX3 yX3_swap wsX3_swap) := goodIn_app (goodIn_of _ (by decide +kernel)) ggX4_swap_X3_swap
theorem dX4_swap_0 : decode cX4_swap 0 = .ok (.aload_n 0, 1) := by decide +kernel
theorem dX4_swap_1 : decode cX4_swap 1 = .ok (.getfield 28, 3) := by decide +kernel
theorem dX4_swap_4 : decode cX4_swap 4 = .ok (.iload_n 1, 1) := by decide +kernel
theorem dX4_swap_5 : decode cX4_swap 5 = .ok (.iload_n 2, 1) := by decide +kernel
theorem dX4_swap_6 : decode cX4_swap 6 = .ok (.invokevirtual 79, 3) := by decide +kernel
theorem dX4_swap_9 : decode cX4_swap 9 = .ok (.iconst 0, 1) := by decide +kernel
theorem dX4_swap_10 : decode cX4_swap 10 = .ok (.istore_n 3, 1) := by decide +kernel
theorem dX4_swap_11 : decode cX4_swap 11 = .ok (.iload_n 3, 1) := by decide +kernel
theorem dX4_swap_12 : decode cX4_swap 12 = .ok (.aload_n 0, 1) := by decide +kernel
theorem dX4_swap_13 : decode cX4_swap 13 = .ok (.getfield 9, 3) := by decide +kernel
theorem dX4_swap_16 : decode cX4_swap 16 = .ok (.if_icmp .ge 32, 3) := by decide +kernel
theorem dX4_swap_19 : decode cX4_swap 19 = .ok (.aload_n 0, 1) := by decide +kernel
theorem dX4_swap_20 : decode cX4_swap 20 = .ok (.getfield 20, 3) := by decide +kernel
theorem dX4_swap_23 : decode cX4_swap 23 = .ok (.iload_n 1, 1) := by decide +kernel
theorem dX4_swap_24 : decode cX4_swap 24 = .ok (.aload_n 0, 1) := by decide +kernel
theorem dX4_swap_25 : decode cX4_swap 25 = .ok (.getfield 9, 3) := by decide +kernel
theorem dX4_swap_28 : decode cX4_swap 28 = .ok (.imul, 1) := by decide +kernel
theorem dX4_swap_29 : decode cX4_swap 29 = .ok (.iload_n 3, 1) := by decide +kernel
theorem dX4_swap_30 : decode cX4_swap 30 = .ok (.iadd, 1) := by decide +kernel
theorem dX4_swap_31 : decode cX4_swap 31 = .ok (.iload_n 2, 1) := by decide +kernel
theorem dX4_swap_32 : decode cX4_swap 32 = .ok (.aload_n 0, 1) := by decide +kernel
theorem dX4_swap_33 : decode cX4_swap 33 = .ok (.getfield 9, 3) := by decide +kernel
theorem dX4_swap_36 : decode cX4_swap 36 = .ok (.imul, 1) := by decide +kernel
theorem dX4_swap_37 : decode cX4_swap 37 = .ok (.iload_n 3, 1) := by decide +kernel
theorem dX4_swap_38 : decode cX4_swap 38 = .ok (.iadd, 1) := by decide +kernel
theorem dX4_swap_39 : decode cX4_swap 39 = .ok (.invokevirtual 79, 3) := by decide +kernel
theorem dX4_swap_42 : decode cX4_swap 42 = .ok (.iinc 3 1, 3) := by decide +kernel
theorem dX4_swap_45 : decode cX4_swap 45 = .ok (.goto (-34), 3) := by decide +kernel
theorem dX4_swap_48 : decode cX4_swap 48 = .ok (.return_, 1) := by decide +kernel
set_option maxRecDepth 20000 in
theorem ggX4_move_X4_swap : GoodIn wsX4_move wsX4_swap := goodIn_r _ [5, 6, 7, 8, 9, 10, 11, 12, 13, 14, 15, 16, 17, 18, 19, 20, 21, 22, 23, 24, 25, 26, 27, 28] (by decide +kernel) (by decide +kernel)
set_option maxRecDepth 20000 in
theorem gX4_move_X4_swap : GoodIn wsX4_move (wsV RX4 82 RX4 yX4_swap wsX4_swap) := goodIn_app (goodIn_of _ (by decide +kernel)) ggX4_move_X4_swap
theorem dX4_move_0 : decode cX4_move 0 = .ok (.iload_n 1, 1) := by decide +kernel
theorem dX4_move_1 : decode cX4_move 1 = .ok (.istore_n 3, 1) := by decide +kernel
theorem dX4_move_2 : decode cX4_move 2 = .ok (.iload_n 3, 1) := by decide +kernel
theorem dX4_move_3 : decode cX4_move 3 = .ok (.iload_n 2, 1) := by decide +kernel
theorem dX4_move_4 : decode cX4_move 4 = .ok (.if_icmp .ge 17, 3) := by decide +kernel
theorem dX4_move_7 : decode cX4_move 7 = .ok (.aload_n 0, 1) := by decide +kernel
theorem dX4_move_8 : decode cX4_move 8 = .ok (.iload_n 3, 1) := by decide +kernel
theorem dX4_move_9 : decode cX4_move 9 = .ok (.iload_n 3, 1) := by decide +kernel
theorem dX4_move_10 : decode cX4_move 10 = .ok (.iconst 1, 1) := by decide +kernel
theorem dX4_move_11 : decode cX4_move 11 = .ok (.iadd, 1) := by decide +kernel
theorem dX4_move_12 : decode cX4_move 12 = .ok (.invokevirtual 82, 3) := by decide +kernel
theorem dX4_move_15 : decode cX4_move 15 = .ok (.iinc 3 1, 3) := by decide +kernel
theorem dX4_move_18 : decode cX4_move 18 = .ok (.goto (-16), 3) := by decide +kernel
theorem dX4_move_21 : decode cX4_move 21 = .ok (.iload_n 1, 1) := by decide +kernel
theorem dX4_move_22 : decode cX4_move 22 = .ok (.istore_n 3, 1) := by decide +kernel
theorem dX4_move_23 : decode cX4_move 23 = .ok (.iload_n 3, 1) := by decide +kernel
theorem dX4_move_24 : decode cX4_move 24 = .ok (.iload_n 2, 1) := by decide +kernel
theorem dX4_move_25 : decode cX4_move 25 = .ok (.if_icmp .le 17, 3) := by decide +kernel
theorem dX4_move_28 : decode cX4_move 28 = .ok (.aload_n 0, 1) := by decide +kernel
theorem dX4_move_29 : decode cX4_move 29 = .ok (.iload_n 3, 1) := by decide +kernel
theorem dX4_move_30 : decode cX4_move 30 = .ok (.iload_n 3, 1) := by decide +kernel
theorem dX4_move_31 : decode cX4_move 31 = .ok (.iconst 1, 1) := by decide +kernel
theorem dX4_move_32 : decode cX4_move 32 = .ok (.isub, 1) := by decide +kernel
theorem dX4_move_33 : decode cX4_move 33 = .ok (.invokevirtual 82, 3) := by decide +kernel
theorem dX4_move_36 : decode cX4_move 36 = .ok (.iinc 3 (-1), 3) := by decide +kernel
theorem dX4_move_39 : decode cX4_move 39 = .ok (.goto (-16), 3) := by decide +kernel
theorem dX4_move_42 : decode cX4_move 42 = .ok (.return_, 1) := by decide +kernel
set_option maxRecDepth 20000 in
theorem ggX4_remove_X4_has : GoodIn wsX4_remove wsX4_has := goodIn_r _ [6, 1, 7, 8, 9, 10, 11, 12, 44, 45, 46, 47, 48] (by decide +kernel) (by decide +kernel)
set_option maxRecDepth 20000 in
theorem gX4_remove_X4_has : GoodIn wsX4_remove (wsV RX4 50 RX4 yX4_has wsX4_has) := goodIn_app (goodIn_of _ (by decide +kernel)) ggX4_remove_X4_has
set_option maxRecDepth 20000 in
theorem ggX4_remove_X3_size : GoodIn wsX4_remove wsX3_size := goodIn_r _ [11, 12, 47, 48] (by decide +kernel) (by decide +kernel)
set_option maxRecDepth 20000 in
theorem gX4_remove_X3_size : GoodIn wsX4_remove (wsV RX4 31 RX3 yX3_size wsX3_size) := goodIn_app (goodIn_of _ (by decide +kernel)) ggX4_remove_X3_size
set_option maxRecDepth 20000 in
theorem ggX4_remove_X4_move : GoodIn wsX4_remove wsX4_move := goodIn_r _ [16, 17, 18, 19, 5, 20, 1, 21, 22, 23, 24, 25, 10, 26, 27, 28, 29, 30, 12, 31, 32, 33, 34, 35, 44, 45, 46, 47, 48] (by decide +kernel) (by decide +kernel)
set_option maxRecDepth 20000 in
theorem gX4_remove_X4_move : GoodIn wsX4_remove (wsV RX4 83 RX4 yX4_move wsX4_move) := goodIn_app (goodIn_of _ (by decide +kernel)) ggX4_remove_X4_move
set_option maxRecDepth 20000 in
theorem ggX4_remove_X3_dropLast : GoodIn wsX4_remove wsX3_dropLast := goodIn_r _ [39, 12, 40, 41, 42, 43, 47, 48] (by decide +kernel) (by decide +kernel)
set_option maxRecDepth 20000 in
theorem gX4_remove_X3_dropLast : GoodIn wsX4_remove (wsV RX4 86 RX3 yX3_dropLast wsX3_dropLast) := goodIn_app (goodIn_of _ (by decide +kernel)) ggX4_remove_X3_dropLast
theorem dX4_remove_0 : decode cX4_remove 0 = .ok (.aload_n 0, 1) := by decide +kernel
theorem dX4_remove_1 : decode cX4_remove 1 = .ok (.iload_n 1, 1) := by decide +kernel
theorem dX4_remove_2 : decode cX4_remove 2 = .ok (.invokevirtual 50, 3) := by decide +kernel
theorem dX4_remove_5 : decode cX4_remove 5 = .ok (.ifCond .eq 24, 3) := by decide +kernel
theorem dX4_remove_8 : decode cX4_remove 8 = .ok (.aload_n 0, 1) := by decide +kernel
theorem dX4_remove_9 : decode cX4_remove 9 = .ok (.iload_n 1, 1) := by decide +kernel
theorem dX4_remove_10 : decode cX4_remove 10 = .ok (.aload_n 0, 1) := by decide +kernel
theorem dX4_remove_11 : decode cX4_remove 11 = .ok (.getfield 28, 3) := by decide +kernel
theorem dX4_remove_14 : decode cX4_remove 14 = .ok (.invokevirtual 31, 3) := by decide +kernel
theorem dX4_remove_17 : decode cX4_remove 17 = .ok (.iconst 1, 1) := by decide +kernel
theorem dX4_remove_18 : decode cX4_remove 18 = .ok (.isub, 1) := by decide +kernel
theorem dX4_remove_19 : decode cX4_remove 19 = .ok (.invokevirtual 83, 3) := by decide +kernel
theorem dX4_remove_22 : decode cX4_remove 22 = .ok (.aload_n 0, 1) := by decide +kernel
theorem dX4_remove_23 : decode cX4_remove 23 = .ok (.getfield 28, 3) := by decide +kernel
theorem dX4_remove_26 : decode cX4_remove 26 = .ok (.invokevirtual 86, 3) := by decide +kernel
theorem dX4_remove_29 : decode cX4_remove 29 = .ok (.return_, 1) := by decide +kernel
