theorem d_H_feed_0 : decode Y_H_feed.2.1 0 = .ok (.iload_n 1, 1) ∧ 0 + 1 = 1 := by decide +kernel
theorem d_H_feed_1 : decode Y_H_feed.2.1 1 = .ok (.iconst 1, 1) ∧ 1 + 1 = 2 := by decide +kernel
theorem d_H_feed_2 : decode Y_H_feed.2.1 2 = .ok (.if_icmp .lt 9, 3) ∧ ((2 : Nat) : Int) + 9 = ((11 : Nat) : Int) ∧ 2 + 3 = 5 := by decide +kernel
theorem d_H_feed_5 : decode Y_H_feed.2.1 5 = .ok (.iload_n 1, 1) ∧ 5 + 1 = 6 := by decide +kernel
theorem d_H_feed_6 : decode Y_H_feed.2.1 6 = .ok (.bipush 8, 2) ∧ 6 + 2 = 8 := by decide +kernel
theorem d_H_feed_8 : decode Y_H_feed.2.1 8 = .ok (.if_icmp .le 5, 3) ∧ ((8 : Nat) : Int) + 5 = ((13 : Nat) : Int) ∧ 8 + 3 = 11 := by decide +kernel
theorem d_H_feed_11 : decode Y_H_feed.2.1 11 = .ok (.iconst (-1), 1) ∧ 11 + 1 = 12 := by decide +kernel
theorem d_H_feed_12 : decode Y_H_feed.2.1 12 = .ok (.ireturn, 1) := by decide +kernel
theorem d_H_feed_13 : decode Y_H_feed.2.1 13 = .ok (.aload_n 0, 1) ∧ 13 + 1 = 14 := by decide +kernel
theorem d_H_feed_14 : decode Y_H_feed.2.1 14 = .ok (.getfield 100, 3) ∧ 14 + 3 = 17 := by decide +kernel
theorem d_H_feed_17 : decode Y_H_feed.2.1 17 = .ok (.iload_n 1, 1) ∧ 17 + 1 = 18 := by decide +kernel
theorem d_H_feed_18 : decode Y_H_feed.2.1 18 = .ok (.iadd, 1) ∧ 18 + 1 = 19 := by decide +kernel
theorem d_H_feed_19 : decode Y_H_feed.2.1 19 = .ok (.sipush 1200, 3) ∧ 19 + 3 = 22 := by decide +kernel
theorem d_H_feed_22 : decode Y_H_feed.2.1 22 = .ok (.if_icmp .le 6, 3) ∧ ((22 : Nat) : Int) + 6 = ((28 : Nat) : Int) ∧ 22 + 3 = 25 := by decide +kernel
theorem d_H_feed_25 : decode Y_H_feed.2.1 25 = .ok (.bipush (-3), 2) ∧ 25 + 2 = 27 := by decide +kernel
theorem d_H_feed_27 : decode Y_H_feed.2.1 27 = .ok (.ireturn, 1) := by decide +kernel
theorem d_H_feed_28 : decode Y_H_feed.2.1 28 = .ok (.iload_n 1, 1) ∧ 28 + 1 = 29 := by decide +kernel
theorem d_H_feed_29 : decode Y_H_feed.2.1 29 = .ok (.iconst 1, 1) ∧ 29 + 1 = 30 := by decide +kernel
theorem d_H_feed_30 : decode Y_H_feed.2.1 30 = .ok (.isub, 1) ∧ 30 + 1 = 31 := by decide +kernel
theorem d_H_feed_31 : decode Y_H_feed.2.1 31 = .ok (.istore 4, 2) ∧ 31 + 2 = 33 := by decide +kernel
theorem d_H_feed_33 : decode Y_H_feed.2.1 33 = .ok (.iload 4, 2) ∧ 33 + 2 = 35 := by decide +kernel
theorem d_H_feed_35 : decode Y_H_feed.2.1 35 = .ok (.ifCond .lt 40, 3) ∧ ((35 : Nat) : Int) + 40 = ((75 : Nat) : Int) ∧ 35 + 3 = 38 := by decide +kernel
theorem d_H_feed_38 : decode Y_H_feed.2.1 38 = .ok (.aload_n 0, 1) ∧ 38 + 1 = 39 := by decide +kernel
theorem d_H_feed_39 : decode Y_H_feed.2.1 39 = .ok (.getfield 9, 3) ∧ 39 + 3 = 42 := by decide +kernel
theorem d_H_feed_42 : decode Y_H_feed.2.1 42 = .ok (.aload_n 0, 1) ∧ 42 + 1 = 43 := by decide +kernel
theorem d_H_feed_43 : decode Y_H_feed.2.1 43 = .ok (.getfield 100, 3) ∧ 43 + 3 = 46 := by decide +kernel
theorem d_H_feed_46 : decode Y_H_feed.2.1 46 = .ok (.lload_n 2, 1) ∧ 46 + 1 = 47 := by decide +kernel
theorem d_H_feed_47 : decode Y_H_feed.2.1 47 = .ok (.bipush 8, 2) ∧ 47 + 2 = 49 := by decide +kernel
theorem d_H_feed_49 : decode Y_H_feed.2.1 49 = .ok (.iload 4, 2) ∧ 49 + 2 = 51 := by decide +kernel
theorem d_H_feed_51 : decode Y_H_feed.2.1 51 = .ok (.imul, 1) ∧ 51 + 1 = 52 := by decide +kernel
theorem d_H_feed_52 : decode Y_H_feed.2.1 52 = .ok (.lushr, 1) ∧ 52 + 1 = 53 := by decide +kernel
theorem d_H_feed_53 : decode Y_H_feed.2.1 53 = .ok (.l2i, 1) ∧ 53 + 1 = 54 := by decide +kernel
theorem d_H_feed_54 : decode Y_H_feed.2.1 54 = .ok (.sipush 255, 3) ∧ 54 + 3 = 57 := by decide +kernel
theorem d_H_feed_57 : decode Y_H_feed.2.1 57 = .ok (.iand, 1) ∧ 57 + 1 = 58 := by decide +kernel
theorem d_H_feed_58 : decode Y_H_feed.2.1 58 = .ok (.iastore, 1) ∧ 58 + 1 = 59 := by decide +kernel
theorem d_H_feed_59 : decode Y_H_feed.2.1 59 = .ok (.aload_n 0, 1) ∧ 59 + 1 = 60 := by decide +kernel
theorem d_H_feed_60 : decode Y_H_feed.2.1 60 = .ok (.dup, 1) ∧ 60 + 1 = 61 := by decide +kernel
theorem d_H_feed_61 : decode Y_H_feed.2.1 61 = .ok (.getfield 100, 3) ∧ 61 + 3 = 64 := by decide +kernel
theorem d_H_feed_64 : decode Y_H_feed.2.1 64 = .ok (.iconst 1, 1) ∧ 64 + 1 = 65 := by decide +kernel
theorem d_H_feed_65 : decode Y_H_feed.2.1 65 = .ok (.iadd, 1) ∧ 65 + 1 = 66 := by decide +kernel
theorem d_H_feed_66 : decode Y_H_feed.2.1 66 = .ok (.putfield 100, 3) ∧ 66 + 3 = 69 := by decide +kernel
theorem d_H_feed_69 : decode Y_H_feed.2.1 69 = .ok (.iinc 4 (-1), 3) ∧ 69 + 3 = 72 := by decide +kernel
theorem d_H_feed_72 : decode Y_H_feed.2.1 72 = .ok (.goto (-39), 3) ∧ ((72 : Nat) : Int) + (-39) = ((33 : Nat) : Int) ∧ 72 + 3 = 75 := by decide +kernel
theorem d_H_feed_75 : decode Y_H_feed.2.1 75 = .ok (.aload_n 0, 1) ∧ 75 + 1 = 76 := by decide +kernel
theorem d_H_feed_76 : decode Y_H_feed.2.1 76 = .ok (.getfield 100, 3) ∧ 76 + 3 = 79 := by decide +kernel
theorem d_H_feed_79 : decode Y_H_feed.2.1 79 = .ok (.ireturn, 1) := by decide +kernel
theorem d_H_cut_0 : decode Y_H_cut.2.1 0 = .ok (.iload_n 1, 1) ∧ 0 + 1 = 1 := by decide +kernel
theorem d_H_cut_1 : decode Y_H_cut.2.1 1 = .ok (.ifCond .lt 11, 3) ∧ ((1 : Nat) : Int) + 11 = ((12 : Nat) : Int) ∧ 1 + 3 = 4 := by decide +kernel
theorem d_H_cut_4 : decode Y_H_cut.2.1 4 = .ok (.iload_n 1, 1) ∧ 4 + 1 = 5 := by decide +kernel
theorem d_H_cut_5 : decode Y_H_cut.2.1 5 = .ok (.aload_n 0, 1) ∧ 5 + 1 = 6 := by decide +kernel
theorem d_H_cut_6 : decode Y_H_cut.2.1 6 = .ok (.getfield 100, 3) ∧ 6 + 3 = 9 := by decide +kernel
theorem d_H_cut_9 : decode Y_H_cut.2.1 9 = .ok (.if_icmp .le 5, 3) ∧ ((9 : Nat) : Int) + 5 = ((14 : Nat) : Int) ∧ 9 + 3 = 12 := by decide +kernel
theorem d_H_cut_12 : decode Y_H_cut.2.1 12 = .ok (.iconst (-1), 1) ∧ 12 + 1 = 13 := by decide +kernel
theorem d_H_cut_13 : decode Y_H_cut.2.1 13 = .ok (.ireturn, 1) := by decide +kernel
theorem d_H_cut_14 : decode Y_H_cut.2.1 14 = .ok (.aload_n 0, 1) ∧ 14 + 1 = 15 := by decide +kernel
theorem d_H_cut_15 : decode Y_H_cut.2.1 15 = .ok (.getfield 100, 3) ∧ 15 + 3 = 18 := by decide +kernel
theorem d_H_cut_18 : decode Y_H_cut.2.1 18 = .ok (.iload_n 1, 1) ∧ 18 + 1 = 19 := by decide +kernel
theorem d_H_cut_19 : decode Y_H_cut.2.1 19 = .ok (.isub, 1) ∧ 19 + 1 = 20 := by decide +kernel
theorem d_H_cut_20 : decode Y_H_cut.2.1 20 = .ok (.istore_n 2, 1) ∧ 20 + 1 = 21 := by decide +kernel
theorem d_H_cut_21 : decode Y_H_cut.2.1 21 = .ok (.aload_n 0, 1) ∧ 21 + 1 = 22 := by decide +kernel
theorem d_H_cut_22 : decode Y_H_cut.2.1 22 = .ok (.iload_n 1, 1) ∧ 22 + 1 = 23 := by decide +kernel
theorem d_H_cut_23 : decode Y_H_cut.2.1 23 = .ok (.putfield 100, 3) ∧ 23 + 3 = 26 := by decide +kernel
theorem d_H_cut_26 : decode Y_H_cut.2.1 26 = .ok (.iload_n 2, 1) ∧ 26 + 1 = 27 := by decide +kernel
theorem d_H_cut_27 : decode Y_H_cut.2.1 27 = .ok (.ireturn, 1) := by decide +kernel
theorem d_H_tick_0 : decode Y_H_tick.2.1 0 = .ok (.iload_n 1, 1) ∧ 0 + 1 = 1 := by decide +kernel
theorem d_H_tick_1 : decode Y_H_tick.2.1 1 = .ok (.ifCond .lt 9, 3) ∧ ((1 : Nat) : Int) + 9 = ((10 : Nat) : Int) ∧ 1 + 3 = 4 := by decide +kernel
theorem d_H_tick_4 : decode Y_H_tick.2.1 4 = .ok (.iload_n 1, 1) ∧ 4 + 1 = 5 := by decide +kernel
theorem d_H_tick_5 : decode Y_H_tick.2.1 5 = .ok (.ldc 104, 2) ∧ 5 + 2 = 7 := by decide +kernel
theorem d_H_tick_7 : decode Y_H_tick.2.1 7 = .ok (.if_icmp .le 5, 3) ∧ ((7 : Nat) : Int) + 5 = ((12 : Nat) : Int) ∧ 7 + 3 = 10 := by decide +kernel
theorem d_H_tick_10 : decode Y_H_tick.2.1 10 = .ok (.iconst (-1), 1) ∧ 10 + 1 = 11 := by decide +kernel
theorem d_H_tick_11 : decode Y_H_tick.2.1 11 = .ok (.ireturn, 1) := by decide +kernel
theorem d_H_tick_12 : decode Y_H_tick.2.1 12 = .ok (.aload_n 0, 1) ∧ 12 + 1 = 13 := by decide +kernel
theorem d_H_tick_13 : decode Y_H_tick.2.1 13 = .ok (.getfield 105, 3) ∧ 13 + 3 = 16 := by decide +kernel
theorem d_H_tick_16 : decode Y_H_tick.2.1 16 = .ok (.iload_n 1, 1) ∧ 16 + 1 = 17 := by decide +kernel
theorem d_H_tick_17 : decode Y_H_tick.2.1 17 = .ok (.iadd, 1) ∧ 17 + 1 = 18 := by decide +kernel
theorem d_H_tick_18 : decode Y_H_tick.2.1 18 = .ok (.ldc 108, 2) ∧ 18 + 2 = 20 := by decide +kernel
theorem d_H_tick_20 : decode Y_H_tick.2.1 20 = .ok (.if_icmp .le 6, 3) ∧ ((20 : Nat) : Int) + 6 = ((26 : Nat) : Int) ∧ 20 + 3 = 23 := by decide +kernel
theorem d_H_tick_23 : decode Y_H_tick.2.1 23 = .ok (.bipush (-2), 2) ∧ 23 + 2 = 25 := by decide +kernel
theorem d_H_tick_25 : decode Y_H_tick.2.1 25 = .ok (.ireturn, 1) := by decide +kernel
theorem d_H_tick_26 : decode Y_H_tick.2.1 26 = .ok (.aload_n 0, 1) ∧ 26 + 1 = 27 := by decide +kernel
theorem d_H_tick_27 : decode Y_H_tick.2.1 27 = .ok (.dup, 1) ∧ 27 + 1 = 28 := by decide +kernel
theorem d_H_tick_28 : decode Y_H_tick.2.1 28 = .ok (.getfield 105, 3) ∧ 28 + 3 = 31 := by decide +kernel
theorem d_H_tick_31 : decode Y_H_tick.2.1 31 = .ok (.iload_n 1, 1) ∧ 31 + 1 = 32 := by decide +kernel
theorem d_H_tick_32 : decode Y_H_tick.2.1 32 = .ok (.iadd, 1) ∧ 32 + 1 = 33 := by decide +kernel
theorem d_H_tick_33 : decode Y_H_tick.2.1 33 = .ok (.putfield 105, 3) ∧ 33 + 3 = 36 := by decide +kernel
theorem d_H_tick_36 : decode Y_H_tick.2.1 36 = .ok (.aload_n 0, 1) ∧ 36 + 1 = 37 := by decide +kernel
theorem d_H_tick_37 : decode Y_H_tick.2.1 37 = .ok (.getfield 105, 3) ∧ 37 + 3 = 40 := by decide +kernel
theorem d_H_tick_40 : decode Y_H_tick.2.1 40 = .ok (.ireturn, 1) := by decide +kernel
theorem d_H_isMoment_0 : decode Y_H_isMoment.2.1 0 = .ok (.iload_n 0, 1) ∧ 0 + 1 = 1 := by decide +kernel
theorem d_H_isMoment_1 : decode Y_H_isMoment.2.1 1 = .ok (.ifCond .lt 13, 3) ∧ ((1 : Nat) : Int) + 13 = ((14 : Nat) : Int) ∧ 1 + 3 = 4 := by decide +kernel
theorem d_H_isMoment_4 : decode Y_H_isMoment.2.1 4 = .ok (.iload_n 0, 1) ∧ 4 + 1 = 5 := by decide +kernel
theorem d_H_isMoment_5 : decode Y_H_isMoment.2.1 5 = .ok (.ldc 108, 2) ∧ 5 + 2 = 7 := by decide +kernel
theorem d_H_isMoment_7 : decode Y_H_isMoment.2.1 7 = .ok (.if_icmp .gt 7, 3) ∧ ((7 : Nat) : Int) + 7 = ((14 : Nat) : Int) ∧ 7 + 3 = 10 := by decide +kernel
theorem d_H_isMoment_10 : decode Y_H_isMoment.2.1 10 = .ok (.iconst 1, 1) ∧ 10 + 1 = 11 := by decide +kernel
theorem d_H_isMoment_11 : decode Y_H_isMoment.2.1 11 = .ok (.goto 4, 3) ∧ ((11 : Nat) : Int) + 4 = ((15 : Nat) : Int) ∧ 11 + 3 = 14 := by decide +kernel
theorem d_H_isMoment_14 : decode Y_H_isMoment.2.1 14 = .ok (.iconst 0, 1) ∧ 14 + 1 = 15 := by decide +kernel
theorem d_H_isMoment_15 : decode Y_H_isMoment.2.1 15 = .ok (.ireturn, 1) := by decide +kernel
theorem d_H_person_0 : decode Y_H_person.2.1 0 = .ok (.aload_n 0, 1) ∧ 0 + 1 = 1 := by decide +kernel
theorem d_H_person_1 : decode Y_H_person.2.1 1 = .ok (.getfield 25, 3) ∧ 1 + 3 = 4 := by decide +kernel
theorem d_H_person_4 : decode Y_H_person.2.1 4 = .ok (.getfield 109, 3) ∧ 4 + 3 = 7 := by decide +kernel
theorem d_H_person_7 : decode Y_H_person.2.1 7 = .ok (.bipush 20, 2) ∧ 7 + 2 = 9 := by decide +kernel
theorem d_H_person_9 : decode Y_H_person.2.1 9 = .ok (.if_icmp .lt 6, 3) ∧ ((9 : Nat) : Int) + 6 = ((15 : Nat) : Int) ∧ 9 + 3 = 12 := by decide +kernel
theorem d_H_person_12 : decode Y_H_person.2.1 12 = .ok (.bipush (-3), 2) ∧ 12 + 2 = 14 := by decide +kernel
theorem d_H_person_14 : decode Y_H_person.2.1 14 = .ok (.ireturn, 1) := by decide +kernel
theorem d_H_person_15 : decode Y_H_person.2.1 15 = .ok (.aload_n 0, 1) ∧ 15 + 1 = 16 := by decide +kernel
theorem d_H_person_16 : decode Y_H_person.2.1 16 = .ok (.getfield 25, 3) ∧ 16 + 3 = 19 := by decide +kernel
theorem d_H_person_19 : decode Y_H_person.2.1 19 = .ok (.dup, 1) ∧ 19 + 1 = 20 := by decide +kernel
theorem d_H_person_20 : decode Y_H_person.2.1 20 = .ok (.getfield 109, 3) ∧ 20 + 3 = 23 := by decide +kernel
theorem d_H_person_23 : decode Y_H_person.2.1 23 = .ok (.iconst 1, 1) ∧ 23 + 1 = 24 := by decide +kernel
theorem d_H_person_24 : decode Y_H_person.2.1 24 = .ok (.iadd, 1) ∧ 24 + 1 = 25 := by decide +kernel
theorem d_H_person_25 : decode Y_H_person.2.1 25 = .ok (.putfield 109, 3) ∧ 25 + 3 = 28 := by decide +kernel
theorem d_H_person_28 : decode Y_H_person.2.1 28 = .ok (.aload_n 0, 1) ∧ 28 + 1 = 29 := by decide +kernel
theorem d_H_person_29 : decode Y_H_person.2.1 29 = .ok (.getfield 25, 3) ∧ 29 + 3 = 32 := by decide +kernel
theorem d_H_person_32 : decode Y_H_person.2.1 32 = .ok (.getfield 109, 3) ∧ 32 + 3 = 35 := by decide +kernel
theorem d_H_person_35 : decode Y_H_person.2.1 35 = .ok (.iconst 1, 1) ∧ 35 + 1 = 36 := by decide +kernel
theorem d_H_person_36 : decode Y_H_person.2.1 36 = .ok (.isub, 1) ∧ 36 + 1 = 37 := by decide +kernel
theorem d_H_person_37 : decode Y_H_person.2.1 37 = .ok (.ireturn, 1) := by decide +kernel
theorem d_H_belongs_0 : decode Y_H_belongs.2.1 0 = .ok (.aload_n 0, 1) ∧ 0 + 1 = 1 := by decide +kernel
theorem d_H_belongs_1 : decode Y_H_belongs.2.1 1 = .ok (.getfield 25, 3) ∧ 1 + 3 = 4 := by decide +kernel
theorem d_H_belongs_4 : decode Y_H_belongs.2.1 4 = .ok (.iload_n 1, 1) ∧ 4 + 1 = 5 := by decide +kernel
theorem d_H_belongs_5 : decode Y_H_belongs.2.1 5 = .ok (.invokevirtual 146, 3) ∧ 5 + 3 = 8 := by decide +kernel
theorem d_H_belongs_8 : decode Y_H_belongs.2.1 8 = .ok (.ifCond .eq 29, 3) ∧ ((8 : Nat) : Int) + 29 = ((37 : Nat) : Int) ∧ 8 + 3 = 11 := by decide +kernel
theorem d_H_belongs_11 : decode Y_H_belongs.2.1 11 = .ok (.aload_n 0, 1) ∧ 11 + 1 = 12 := by decide +kernel
theorem d_H_belongs_12 : decode Y_H_belongs.2.1 12 = .ok (.getfield 25, 3) ∧ 12 + 3 = 15 := by decide +kernel
theorem d_H_belongs_15 : decode Y_H_belongs.2.1 15 = .ok (.iload_n 2, 1) ∧ 15 + 1 = 16 := by decide +kernel
theorem d_H_belongs_16 : decode Y_H_belongs.2.1 16 = .ok (.invokevirtual 119, 3) ∧ 16 + 3 = 19 := by decide +kernel
theorem d_H_belongs_19 : decode Y_H_belongs.2.1 19 = .ok (.ifCond .eq 18, 3) ∧ ((19 : Nat) : Int) + 18 = ((37 : Nat) : Int) ∧ 19 + 3 = 22 := by decide +kernel
theorem d_H_belongs_22 : decode Y_H_belongs.2.1 22 = .ok (.iload_n 3, 1) ∧ 22 + 1 = 23 := by decide +kernel
theorem d_H_belongs_23 : decode Y_H_belongs.2.1 23 = .ok (.invokestatic 122, 3) ∧ 23 + 3 = 26 := by decide +kernel
theorem d_H_belongs_26 : decode Y_H_belongs.2.1 26 = .ok (.ifCond .eq 11, 3) ∧ ((26 : Nat) : Int) + 11 = ((37 : Nat) : Int) ∧ 26 + 3 = 29 := by decide +kernel
theorem d_H_belongs_29 : decode Y_H_belongs.2.1 29 = .ok (.iload 4, 2) ∧ 29 + 2 = 31 := by decide +kernel
theorem d_H_belongs_31 : decode Y_H_belongs.2.1 31 = .ok (.invokestatic 122, 3) ∧ 31 + 3 = 34 := by decide +kernel
theorem d_H_belongs_34 : decode Y_H_belongs.2.1 34 = .ok (.ifCond .ne 5, 3) ∧ ((34 : Nat) : Int) + 5 = ((39 : Nat) : Int) ∧ 34 + 3 = 37 := by decide +kernel
theorem d_H_belongs_37 : decode Y_H_belongs.2.1 37 = .ok (.iconst (-1), 1) ∧ 37 + 1 = 38 := by decide +kernel
theorem d_H_belongs_38 : decode Y_H_belongs.2.1 38 = .ok (.ireturn, 1) := by decide +kernel
theorem d_H_belongs_39 : decode Y_H_belongs.2.1 39 = .ok (.aload_n 0, 1) ∧ 39 + 1 = 40 := by decide +kernel
theorem d_H_belongs_40 : decode Y_H_belongs.2.1 40 = .ok (.getfield 25, 3) ∧ 40 + 3 = 43 := by decide +kernel
theorem d_H_belongs_43 : decode Y_H_belongs.2.1 43 = .ok (.iload_n 1, 1) ∧ 43 + 1 = 44 := by decide +kernel
theorem d_H_belongs_44 : decode Y_H_belongs.2.1 44 = .ok (.iload_n 3, 1) ∧ 44 + 1 = 45 := by decide +kernel
theorem d_H_belongs_45 : decode Y_H_belongs.2.1 45 = .ok (.iload 4, 2) ∧ 45 + 2 = 47 := by decide +kernel
theorem d_H_belongs_47 : decode Y_H_belongs.2.1 47 = .ok (.invokevirtual 149, 3) ∧ 47 + 3 = 50 := by decide +kernel
theorem d_H_belongs_50 : decode Y_H_belongs.2.1 50 = .ok (.iload_n 2, 1) ∧ 50 + 1 = 51 := by decide +kernel
theorem d_H_belongs_51 : decode Y_H_belongs.2.1 51 = .ok (.ishr, 1) ∧ 51 + 1 = 52 := by decide +kernel
theorem d_H_belongs_52 : decode Y_H_belongs.2.1 52 = .ok (.iconst 1, 1) ∧ 52 + 1 = 53 := by decide +kernel
theorem d_H_belongs_53 : decode Y_H_belongs.2.1 53 = .ok (.iand, 1) ∧ 53 + 1 = 54 := by decide +kernel
theorem d_H_belongs_54 : decode Y_H_belongs.2.1 54 = .ok (.ireturn, 1) := by decide +kernel
theorem d_Wh_isPerson_0 : decode Y_Wh_isPerson.2.1 0 = .ok (.iload_n 1, 1) ∧ 0 + 1 = 1 := by decide +kernel
theorem d_Wh_isPerson_1 : decode Y_Wh_isPerson.2.1 1 = .ok (.ifCond .lt 15, 3) ∧ ((1 : Nat) : Int) + 15 = ((16 : Nat) : Int) ∧ 1 + 3 = 4 := by decide +kernel
theorem d_Wh_isPerson_4 : decode Y_Wh_isPerson.2.1 4 = .ok (.iload_n 1, 1) ∧ 4 + 1 = 5 := by decide +kernel
theorem d_Wh_isPerson_5 : decode Y_Wh_isPerson.2.1 5 = .ok (.aload_n 0, 1) ∧ 5 + 1 = 6 := by decide +kernel
theorem d_Wh_isPerson_6 : decode Y_Wh_isPerson.2.1 6 = .ok (.getfield 27, 3) ∧ 6 + 3 = 9 := by decide +kernel
theorem d_Wh_isPerson_9 : decode Y_Wh_isPerson.2.1 9 = .ok (.if_icmp .ge 7, 3) ∧ ((9 : Nat) : Int) + 7 = ((16 : Nat) : Int) ∧ 9 + 3 = 12 := by decide +kernel
theorem d_Wh_isPerson_12 : decode Y_Wh_isPerson.2.1 12 = .ok (.iconst 1, 1) ∧ 12 + 1 = 13 := by decide +kernel
theorem d_Wh_isPerson_13 : decode Y_Wh_isPerson.2.1 13 = .ok (.goto 4, 3) ∧ ((13 : Nat) : Int) + 4 = ((17 : Nat) : Int) ∧ 13 + 3 = 16 := by decide +kernel
theorem d_Wh_isPerson_16 : decode Y_Wh_isPerson.2.1 16 = .ok (.iconst 0, 1) ∧ 16 + 1 = 17 := by decide +kernel
theorem d_Wh_isPerson_17 : decode Y_Wh_isPerson.2.1 17 = .ok (.ireturn, 1) := by decide +kernel
theorem d_Wh_isGroup_0 : decode Y_Wh_isGroup.2.1 0 = .ok (.iload_n 1, 1) ∧ 0 + 1 = 1 := by decide +kernel
theorem d_Wh_isGroup_1 : decode Y_Wh_isGroup.2.1 1 = .ok (.ifCond .lt 15, 3) ∧ ((1 : Nat) : Int) + 15 = ((16 : Nat) : Int) ∧ 1 + 3 = 4 := by decide +kernel
theorem d_Wh_isGroup_4 : decode Y_Wh_isGroup.2.1 4 = .ok (.iload_n 1, 1) ∧ 4 + 1 = 5 := by decide +kernel
theorem d_Wh_isGroup_5 : decode Y_Wh_isGroup.2.1 5 = .ok (.aload_n 0, 1) ∧ 5 + 1 = 6 := by decide +kernel
theorem d_Wh_isGroup_6 : decode Y_Wh_isGroup.2.1 6 = .ok (.getfield 31, 3) ∧ 6 + 3 = 9 := by decide +kernel
theorem d_Wh_isGroup_9 : decode Y_Wh_isGroup.2.1 9 = .ok (.if_icmp .ge 7, 3) ∧ ((9 : Nat) : Int) + 7 = ((16 : Nat) : Int) ∧ 9 + 3 = 12 := by decide +kernel
theorem d_Wh_isGroup_12 : decode Y_Wh_isGroup.2.1 12 = .ok (.iconst 1, 1) ∧ 12 + 1 = 13 := by decide +kernel
theorem d_Wh_isGroup_13 : decode Y_Wh_isGroup.2.1 13 = .ok (.goto 4, 3) ∧ ((13 : Nat) : Int) + 4 = ((17 : Nat) : Int) ∧ 13 + 3 = 16 := by decide +kernel
theorem d_Wh_isGroup_16 : decode Y_Wh_isGroup.2.1 16 = .ok (.iconst 0, 1) ∧ 16 + 1 = 17 := by decide +kernel
theorem d_Wh_isGroup_17 : decode Y_Wh_isGroup.2.1 17 = .ok (.ireturn, 1) := by decide +kernel
theorem d_Wh_isMember_0 : decode Y_Wh_isMember.2.1 0 = .ok (.aload_n 0, 1) ∧ 0 + 1 = 1 := by decide +kernel
theorem d_Wh_isMember_1 : decode Y_Wh_isMember.2.1 1 = .ok (.iload_n 1, 1) ∧ 1 + 1 = 2 := by decide +kernel
theorem d_Wh_isMember_2 : decode Y_Wh_isMember.2.1 2 = .ok (.invokevirtual 34, 3) ∧ 2 + 3 = 5 := by decide +kernel
theorem d_Wh_isMember_5 : decode Y_Wh_isMember.2.1 5 = .ok (.ifCond .ne 20, 3) ∧ ((5 : Nat) : Int) + 20 = ((25 : Nat) : Int) ∧ 5 + 3 = 8 := by decide +kernel
theorem d_Wh_isMember_8 : decode Y_Wh_isMember.2.1 8 = .ok (.iload_n 1, 1) ∧ 8 + 1 = 9 := by decide +kernel
theorem d_Wh_isMember_9 : decode Y_Wh_isMember.2.1 9 = .ok (.bipush 100, 2) ∧ 9 + 2 = 11 := by decide +kernel
theorem d_Wh_isMember_11 : decode Y_Wh_isMember.2.1 11 = .ok (.if_icmp .lt 18, 3) ∧ ((11 : Nat) : Int) + 18 = ((29 : Nat) : Int) ∧ 11 + 3 = 14 := by decide +kernel
theorem d_Wh_isMember_14 : decode Y_Wh_isMember.2.1 14 = .ok (.aload_n 0, 1) ∧ 14 + 1 = 15 := by decide +kernel
theorem d_Wh_isMember_15 : decode Y_Wh_isMember.2.1 15 = .ok (.iload_n 1, 1) ∧ 15 + 1 = 16 := by decide +kernel
theorem d_Wh_isMember_16 : decode Y_Wh_isMember.2.1 16 = .ok (.bipush 100, 2) ∧ 16 + 2 = 18 := by decide +kernel
theorem d_Wh_isMember_18 : decode Y_Wh_isMember.2.1 18 = .ok (.isub, 1) ∧ 18 + 1 = 19 := by decide +kernel
theorem d_Wh_isMember_19 : decode Y_Wh_isMember.2.1 19 = .ok (.invokevirtual 38, 3) ∧ 19 + 3 = 22 := by decide +kernel
theorem d_Wh_isMember_22 : decode Y_Wh_isMember.2.1 22 = .ok (.ifCond .eq 7, 3) ∧ ((22 : Nat) : Int) + 7 = ((29 : Nat) : Int) ∧ 22 + 3 = 25 := by decide +kernel
theorem d_Wh_isMember_25 : decode Y_Wh_isMember.2.1 25 = .ok (.iconst 1, 1) ∧ 25 + 1 = 26 := by decide +kernel
theorem d_Wh_isMember_26 : decode Y_Wh_isMember.2.1 26 = .ok (.goto 4, 3) ∧ ((26 : Nat) : Int) + 4 = ((30 : Nat) : Int) ∧ 26 + 3 = 29 := by decide +kernel
theorem d_Wh_isMember_29 : decode Y_Wh_isMember.2.1 29 = .ok (.iconst 0, 1) ∧ 29 + 1 = 30 := by decide +kernel
theorem d_Wh_isMember_30 : decode Y_Wh_isMember.2.1 30 = .ok (.ireturn, 1) := by decide +kernel
theorem d_Wh_addRow_0 : decode Y_Wh_addRow.2.1 0 = .ok (.aload_n 0, 1) ∧ 0 + 1 = 1 := by decide +kernel
theorem d_Wh_addRow_1 : decode Y_Wh_addRow.2.1 1 = .ok (.getfield 41, 3) ∧ 1 + 3 = 4 := by decide +kernel
theorem d_Wh_addRow_4 : decode Y_Wh_addRow.2.1 4 = .ok (.bipush 6, 2) ∧ 4 + 2 = 6 := by decide +kernel
theorem d_Wh_addRow_6 : decode Y_Wh_addRow.2.1 6 = .ok (.imul, 1) ∧ 6 + 1 = 7 := by decide +kernel
theorem d_Wh_addRow_7 : decode Y_Wh_addRow.2.1 7 = .ok (.istore 6, 2) ∧ 7 + 2 = 9 := by decide +kernel
theorem d_Wh_addRow_9 : decode Y_Wh_addRow.2.1 9 = .ok (.aload_n 0, 1) ∧ 9 + 1 = 10 := by decide +kernel
theorem d_Wh_addRow_10 : decode Y_Wh_addRow.2.1 10 = .ok (.getfield 13, 3) ∧ 10 + 3 = 13 := by decide +kernel
theorem d_Wh_addRow_13 : decode Y_Wh_addRow.2.1 13 = .ok (.iload 6, 2) ∧ 13 + 2 = 15 := by decide +kernel
theorem d_Wh_addRow_15 : decode Y_Wh_addRow.2.1 15 = .ok (.iconst 0, 1) ∧ 15 + 1 = 16 := by decide +kernel
theorem d_Wh_addRow_16 : decode Y_Wh_addRow.2.1 16 = .ok (.iadd, 1) ∧ 16 + 1 = 17 := by decide +kernel
theorem d_Wh_addRow_17 : decode Y_Wh_addRow.2.1 17 = .ok (.iload_n 1, 1) ∧ 17 + 1 = 18 := by decide +kernel
theorem d_Wh_addRow_18 : decode Y_Wh_addRow.2.1 18 = .ok (.iastore, 1) ∧ 18 + 1 = 19 := by decide +kernel
theorem d_Wh_addRow_19 : decode Y_Wh_addRow.2.1 19 = .ok (.aload_n 0, 1) ∧ 19 + 1 = 20 := by decide +kernel
theorem d_Wh_addRow_20 : decode Y_Wh_addRow.2.1 20 = .ok (.getfield 13, 3) ∧ 20 + 3 = 23 := by decide +kernel
theorem d_Wh_addRow_23 : decode Y_Wh_addRow.2.1 23 = .ok (.iload 6, 2) ∧ 23 + 2 = 25 := by decide +kernel
theorem d_Wh_addRow_25 : decode Y_Wh_addRow.2.1 25 = .ok (.iconst 1, 1) ∧ 25 + 1 = 26 := by decide +kernel
theorem d_Wh_addRow_26 : decode Y_Wh_addRow.2.1 26 = .ok (.iadd, 1) ∧ 26 + 1 = 27 := by decide +kernel
theorem d_Wh_addRow_27 : decode Y_Wh_addRow.2.1 27 = .ok (.iload_n 2, 1) ∧ 27 + 1 = 28 := by decide +kernel
theorem d_Wh_addRow_28 : decode Y_Wh_addRow.2.1 28 = .ok (.iastore, 1) ∧ 28 + 1 = 29 := by decide +kernel
theorem d_Wh_addRow_29 : decode Y_Wh_addRow.2.1 29 = .ok (.aload_n 0, 1) ∧ 29 + 1 = 30 := by decide +kernel
theorem d_Wh_addRow_30 : decode Y_Wh_addRow.2.1 30 = .ok (.getfield 13, 3) ∧ 30 + 3 = 33 := by decide +kernel
theorem d_Wh_addRow_33 : decode Y_Wh_addRow.2.1 33 = .ok (.iload 6, 2) ∧ 33 + 2 = 35 := by decide +kernel
theorem d_Wh_addRow_35 : decode Y_Wh_addRow.2.1 35 = .ok (.iconst 2, 1) ∧ 35 + 1 = 36 := by decide +kernel
theorem d_Wh_addRow_36 : decode Y_Wh_addRow.2.1 36 = .ok (.iadd, 1) ∧ 36 + 1 = 37 := by decide +kernel
theorem d_Wh_addRow_37 : decode Y_Wh_addRow.2.1 37 = .ok (.iload_n 3, 1) ∧ 37 + 1 = 38 := by decide +kernel
theorem d_Wh_addRow_38 : decode Y_Wh_addRow.2.1 38 = .ok (.iastore, 1) ∧ 38 + 1 = 39 := by decide +kernel
theorem d_Wh_addRow_39 : decode Y_Wh_addRow.2.1 39 = .ok (.aload_n 0, 1) ∧ 39 + 1 = 40 := by decide +kernel
theorem d_Wh_addRow_40 : decode Y_Wh_addRow.2.1 40 = .ok (.getfield 13, 3) ∧ 40 + 3 = 43 := by decide +kernel
theorem d_Wh_addRow_43 : decode Y_Wh_addRow.2.1 43 = .ok (.iload 6, 2) ∧ 43 + 2 = 45 := by decide +kernel
theorem d_Wh_addRow_45 : decode Y_Wh_addRow.2.1 45 = .ok (.iconst 3, 1) ∧ 45 + 1 = 46 := by decide +kernel
theorem d_Wh_addRow_46 : decode Y_Wh_addRow.2.1 46 = .ok (.iadd, 1) ∧ 46 + 1 = 47 := by decide +kernel
theorem d_Wh_addRow_47 : decode Y_Wh_addRow.2.1 47 = .ok (.iload 4, 2) ∧ 47 + 2 = 49 := by decide +kernel
theorem d_Wh_addRow_49 : decode Y_Wh_addRow.2.1 49 = .ok (.iastore, 1) ∧ 49 + 1 = 50 := by decide +kernel
theorem d_Wh_addRow_50 : decode Y_Wh_addRow.2.1 50 = .ok (.aload_n 0, 1) ∧ 50 + 1 = 51 := by decide +kernel
theorem d_Wh_addRow_51 : decode Y_Wh_addRow.2.1 51 = .ok (.getfield 13, 3) ∧ 51 + 3 = 54 := by decide +kernel
theorem d_Wh_addRow_54 : decode Y_Wh_addRow.2.1 54 = .ok (.iload 6, 2) ∧ 54 + 2 = 56 := by decide +kernel
theorem d_Wh_addRow_56 : decode Y_Wh_addRow.2.1 56 = .ok (.iconst 4, 1) ∧ 56 + 1 = 57 := by decide +kernel
theorem d_Wh_addRow_57 : decode Y_Wh_addRow.2.1 57 = .ok (.iadd, 1) ∧ 57 + 1 = 58 := by decide +kernel
theorem d_Wh_addRow_58 : decode Y_Wh_addRow.2.1 58 = .ok (.iload 5, 2) ∧ 58 + 2 = 60 := by decide +kernel
theorem d_Wh_addRow_60 : decode Y_Wh_addRow.2.1 60 = .ok (.iastore, 1) ∧ 60 + 1 = 61 := by decide +kernel
theorem d_Wh_addRow_61 : decode Y_Wh_addRow.2.1 61 = .ok (.aload_n 0, 1) ∧ 61 + 1 = 62 := by decide +kernel
theorem d_Wh_addRow_62 : decode Y_Wh_addRow.2.1 62 = .ok (.getfield 13, 3) ∧ 62 + 3 = 65 := by decide +kernel
theorem d_Wh_addRow_65 : decode Y_Wh_addRow.2.1 65 = .ok (.iload 6, 2) ∧ 65 + 2 = 67 := by decide +kernel
theorem d_Wh_addRow_67 : decode Y_Wh_addRow.2.1 67 = .ok (.iconst 5, 1) ∧ 67 + 1 = 68 := by decide +kernel
theorem d_Wh_addRow_68 : decode Y_Wh_addRow.2.1 68 = .ok (.iadd, 1) ∧ 68 + 1 = 69 := by decide +kernel
theorem d_Wh_addRow_69 : decode Y_Wh_addRow.2.1 69 = .ok (.bipush (-4), 2) ∧ 69 + 2 = 71 := by decide +kernel
theorem d_Wh_addRow_71 : decode Y_Wh_addRow.2.1 71 = .ok (.iastore, 1) ∧ 71 + 1 = 72 := by decide +kernel
theorem d_Wh_addRow_72 : decode Y_Wh_addRow.2.1 72 = .ok (.aload_n 0, 1) ∧ 72 + 1 = 73 := by decide +kernel
theorem d_Wh_addRow_73 : decode Y_Wh_addRow.2.1 73 = .ok (.dup, 1) ∧ 73 + 1 = 74 := by decide +kernel
theorem d_Wh_addRow_74 : decode Y_Wh_addRow.2.1 74 = .ok (.getfield 41, 3) ∧ 74 + 3 = 77 := by decide +kernel
theorem d_Wh_addRow_77 : decode Y_Wh_addRow.2.1 77 = .ok (.iconst 1, 1) ∧ 77 + 1 = 78 := by decide +kernel
theorem d_Wh_addRow_78 : decode Y_Wh_addRow.2.1 78 = .ok (.iadd, 1) ∧ 78 + 1 = 79 := by decide +kernel
theorem d_Wh_addRow_79 : decode Y_Wh_addRow.2.1 79 = .ok (.putfield 41, 3) ∧ 79 + 3 = 82 := by decide +kernel
theorem d_Wh_addRow_82 : decode Y_Wh_addRow.2.1 82 = .ok (.aload_n 0, 1) ∧ 82 + 1 = 83 := by decide +kernel
theorem d_Wh_addRow_83 : decode Y_Wh_addRow.2.1 83 = .ok (.getfield 41, 3) ∧ 83 + 3 = 86 := by decide +kernel
theorem d_Wh_addRow_86 : decode Y_Wh_addRow.2.1 86 = .ok (.iconst 1, 1) ∧ 86 + 1 = 87 := by decide +kernel
theorem d_Wh_addRow_87 : decode Y_Wh_addRow.2.1 87 = .ok (.isub, 1) ∧ 87 + 1 = 88 := by decide +kernel
theorem d_Wh_addRow_88 : decode Y_Wh_addRow.2.1 88 = .ok (.ireturn, 1) := by decide +kernel
theorem d_Wh_isLasting_0 : decode Y_Wh_isLasting.2.1 0 = .ok (.aload_n 0, 1) ∧ 0 + 1 = 1 := by decide +kernel
theorem d_Wh_isLasting_1 : decode Y_Wh_isLasting.2.1 1 = .ok (.getfield 13, 3) ∧ 1 + 3 = 4 := by decide +kernel
theorem d_Wh_isLasting_4 : decode Y_Wh_isLasting.2.1 4 = .ok (.iload_n 1, 1) ∧ 4 + 1 = 5 := by decide +kernel
theorem d_Wh_isLasting_5 : decode Y_Wh_isLasting.2.1 5 = .ok (.bipush 6, 2) ∧ 5 + 2 = 7 := by decide +kernel
theorem d_Wh_isLasting_7 : decode Y_Wh_isLasting.2.1 7 = .ok (.imul, 1) ∧ 7 + 1 = 8 := by decide +kernel
theorem d_Wh_isLasting_8 : decode Y_Wh_isLasting.2.1 8 = .ok (.iconst 5, 1) ∧ 8 + 1 = 9 := by decide +kernel
theorem d_Wh_isLasting_9 : decode Y_Wh_isLasting.2.1 9 = .ok (.iadd, 1) ∧ 9 + 1 = 10 := by decide +kernel
theorem d_Wh_isLasting_10 : decode Y_Wh_isLasting.2.1 10 = .ok (.iaload, 1) ∧ 10 + 1 = 11 := by decide +kernel
theorem d_Wh_isLasting_11 : decode Y_Wh_isLasting.2.1 11 = .ok (.bipush (-4), 2) ∧ 11 + 2 = 13 := by decide +kernel
theorem d_Wh_isLasting_13 : decode Y_Wh_isLasting.2.1 13 = .ok (.if_icmp .ne 7, 3) ∧ ((13 : Nat) : Int) + 7 = ((20 : Nat) : Int) ∧ 13 + 3 = 16 := by decide +kernel
theorem d_Wh_isLasting_16 : decode Y_Wh_isLasting.2.1 16 = .ok (.iconst 1, 1) ∧ 16 + 1 = 17 := by decide +kernel
theorem d_Wh_isLasting_17 : decode Y_Wh_isLasting.2.1 17 = .ok (.goto 4, 3) ∧ ((17 : Nat) : Int) + 4 = ((21 : Nat) : Int) ∧ 17 + 3 = 20 := by decide +kernel
theorem d_Wh_isLasting_20 : decode Y_Wh_isLasting.2.1 20 = .ok (.iconst 0, 1) ∧ 20 + 1 = 21 := by decide +kernel
theorem d_Wh_isLasting_21 : decode Y_Wh_isLasting.2.1 21 = .ok (.ireturn, 1) := by decide +kernel
theorem d_Wh_endRow_0 : decode Y_Wh_endRow.2.1 0 = .ok (.aload_n 0, 1) ∧ 0 + 1 = 1 := by decide +kernel
theorem d_Wh_endRow_1 : decode Y_Wh_endRow.2.1 1 = .ok (.getfield 13, 3) ∧ 1 + 3 = 4 := by decide +kernel
theorem d_Wh_endRow_4 : decode Y_Wh_endRow.2.1 4 = .ok (.iload_n 1, 1) ∧ 4 + 1 = 5 := by decide +kernel
theorem d_Wh_endRow_5 : decode Y_Wh_endRow.2.1 5 = .ok (.bipush 6, 2) ∧ 5 + 2 = 7 := by decide +kernel
theorem d_Wh_endRow_7 : decode Y_Wh_endRow.2.1 7 = .ok (.imul, 1) ∧ 7 + 1 = 8 := by decide +kernel
theorem d_Wh_endRow_8 : decode Y_Wh_endRow.2.1 8 = .ok (.iconst 5, 1) ∧ 8 + 1 = 9 := by decide +kernel
theorem d_Wh_endRow_9 : decode Y_Wh_endRow.2.1 9 = .ok (.iadd, 1) ∧ 9 + 1 = 10 := by decide +kernel
theorem d_Wh_endRow_10 : decode Y_Wh_endRow.2.1 10 = .ok (.iload_n 2, 1) ∧ 10 + 1 = 11 := by decide +kernel
theorem d_Wh_endRow_11 : decode Y_Wh_endRow.2.1 11 = .ok (.iastore, 1) ∧ 11 + 1 = 12 := by decide +kernel
theorem d_Wh_endRow_12 : decode Y_Wh_endRow.2.1 12 = .ok (.return_, 1) := by decide +kernel
theorem d_Wh_endRows_0 : decode Y_Wh_endRows.2.1 0 = .ok (.iconst 0, 1) ∧ 0 + 1 = 1 := by decide +kernel
theorem d_Wh_endRows_1 : decode Y_Wh_endRows.2.1 1 = .ok (.istore 4, 2) ∧ 1 + 2 = 3 := by decide +kernel
theorem d_Wh_endRows_3 : decode Y_Wh_endRows.2.1 3 = .ok (.iconst 0, 1) ∧ 3 + 1 = 4 := by decide +kernel
theorem d_Wh_endRows_4 : decode Y_Wh_endRows.2.1 4 = .ok (.istore 5, 2) ∧ 4 + 2 = 6 := by decide +kernel
theorem d_Wh_endRows_6 : decode Y_Wh_endRows.2.1 6 = .ok (.iload 5, 2) ∧ 6 + 2 = 8 := by decide +kernel
theorem d_Wh_endRows_8 : decode Y_Wh_endRows.2.1 8 = .ok (.aload_n 0, 1) ∧ 8 + 1 = 9 := by decide +kernel
theorem d_Wh_endRows_9 : decode Y_Wh_endRows.2.1 9 = .ok (.getfield 41, 3) ∧ 9 + 3 = 12 := by decide +kernel
theorem d_Wh_endRows_12 : decode Y_Wh_endRows.2.1 12 = .ok (.if_icmp .ge 61, 3) ∧ ((12 : Nat) : Int) + 61 = ((73 : Nat) : Int) ∧ 12 + 3 = 15 := by decide +kernel
theorem d_Wh_endRows_15 : decode Y_Wh_endRows.2.1 15 = .ok (.iload 5, 2) ∧ 15 + 2 = 17 := by decide +kernel
theorem d_Wh_endRows_17 : decode Y_Wh_endRows.2.1 17 = .ok (.bipush 6, 2) ∧ 17 + 2 = 19 := by decide +kernel
theorem d_Wh_endRows_19 : decode Y_Wh_endRows.2.1 19 = .ok (.imul, 1) ∧ 19 + 1 = 20 := by decide +kernel
theorem d_Wh_endRows_20 : decode Y_Wh_endRows.2.1 20 = .ok (.istore 6, 2) ∧ 20 + 2 = 22 := by decide +kernel
theorem d_Wh_endRows_22 : decode Y_Wh_endRows.2.1 22 = .ok (.aload_n 0, 1) ∧ 22 + 1 = 23 := by decide +kernel
theorem d_Wh_endRows_23 : decode Y_Wh_endRows.2.1 23 = .ok (.getfield 13, 3) ∧ 23 + 3 = 26 := by decide +kernel
theorem d_Wh_endRows_26 : decode Y_Wh_endRows.2.1 26 = .ok (.iload 6, 2) ∧ 26 + 2 = 28 := by decide +kernel
theorem d_Wh_endRows_28 : decode Y_Wh_endRows.2.1 28 = .ok (.iconst 0, 1) ∧ 28 + 1 = 29 := by decide +kernel
theorem d_Wh_endRows_29 : decode Y_Wh_endRows.2.1 29 = .ok (.iadd, 1) ∧ 29 + 1 = 30 := by decide +kernel
theorem d_Wh_endRows_30 : decode Y_Wh_endRows.2.1 30 = .ok (.iaload, 1) ∧ 30 + 1 = 31 := by decide +kernel
theorem d_Wh_endRows_31 : decode Y_Wh_endRows.2.1 31 = .ok (.iload_n 1, 1) ∧ 31 + 1 = 32 := by decide +kernel
theorem d_Wh_endRows_32 : decode Y_Wh_endRows.2.1 32 = .ok (.if_icmp .ne 35, 3) ∧ ((32 : Nat) : Int) + 35 = ((67 : Nat) : Int) ∧ 32 + 3 = 35 := by decide +kernel
theorem d_Wh_endRows_35 : decode Y_Wh_endRows.2.1 35 = .ok (.aload_n 0, 1) ∧ 35 + 1 = 36 := by decide +kernel
theorem d_Wh_endRows_36 : decode Y_Wh_endRows.2.1 36 = .ok (.getfield 13, 3) ∧ 36 + 3 = 39 := by decide +kernel
theorem d_Wh_endRows_39 : decode Y_Wh_endRows.2.1 39 = .ok (.iload 6, 2) ∧ 39 + 2 = 41 := by decide +kernel
theorem d_Wh_endRows_41 : decode Y_Wh_endRows.2.1 41 = .ok (.iconst 1, 1) ∧ 41 + 1 = 42 := by decide +kernel
theorem d_Wh_endRows_42 : decode Y_Wh_endRows.2.1 42 = .ok (.iadd, 1) ∧ 42 + 1 = 43 := by decide +kernel
theorem d_Wh_endRows_43 : decode Y_Wh_endRows.2.1 43 = .ok (.iaload, 1) ∧ 43 + 1 = 44 := by decide +kernel
theorem d_Wh_endRows_44 : decode Y_Wh_endRows.2.1 44 = .ok (.iload_n 2, 1) ∧ 44 + 1 = 45 := by decide +kernel
theorem d_Wh_endRows_45 : decode Y_Wh_endRows.2.1 45 = .ok (.if_icmp .ne 22, 3) ∧ ((45 : Nat) : Int) + 22 = ((67 : Nat) : Int) ∧ 45 + 3 = 48 := by decide +kernel
theorem d_Wh_endRows_48 : decode Y_Wh_endRows.2.1 48 = .ok (.aload_n 0, 1) ∧ 48 + 1 = 49 := by decide +kernel
theorem d_Wh_endRows_49 : decode Y_Wh_endRows.2.1 49 = .ok (.iload 5, 2) ∧ 49 + 2 = 51 := by decide +kernel
theorem d_Wh_endRows_51 : decode Y_Wh_endRows.2.1 51 = .ok (.invokevirtual 44, 3) ∧ 51 + 3 = 54 := by decide +kernel
theorem d_Wh_endRows_54 : decode Y_Wh_endRows.2.1 54 = .ok (.ifCond .eq 13, 3) ∧ ((54 : Nat) : Int) + 13 = ((67 : Nat) : Int) ∧ 54 + 3 = 57 := by decide +kernel
theorem d_Wh_endRows_57 : decode Y_Wh_endRows.2.1 57 = .ok (.aload_n 0, 1) ∧ 57 + 1 = 58 := by decide +kernel
theorem d_Wh_endRows_58 : decode Y_Wh_endRows.2.1 58 = .ok (.iload 5, 2) ∧ 58 + 2 = 60 := by decide +kernel
theorem d_Wh_endRows_60 : decode Y_Wh_endRows.2.1 60 = .ok (.iload_n 3, 1) ∧ 60 + 1 = 61 := by decide +kernel
theorem d_Wh_endRows_61 : decode Y_Wh_endRows.2.1 61 = .ok (.invokevirtual 47, 3) ∧ 61 + 3 = 64 := by decide +kernel
theorem d_Wh_endRows_64 : decode Y_Wh_endRows.2.1 64 = .ok (.iinc 4 1, 3) ∧ 64 + 3 = 67 := by decide +kernel
theorem d_Wh_endRows_67 : decode Y_Wh_endRows.2.1 67 = .ok (.iinc 5 1, 3) ∧ 67 + 3 = 70 := by decide +kernel
theorem d_Wh_endRows_70 : decode Y_Wh_endRows.2.1 70 = .ok (.goto (-64), 3) ∧ ((70 : Nat) : Int) + (-64) = ((6 : Nat) : Int) ∧ 70 + 3 = 73 := by decide +kernel
theorem d_Wh_endRows_73 : decode Y_Wh_endRows.2.1 73 = .ok (.iload 4, 2) ∧ 73 + 2 = 75 := by decide +kernel
theorem d_Wh_endRows_75 : decode Y_Wh_endRows.2.1 75 = .ok (.ireturn, 1) := by decide +kernel
theorem d_Wh_counts_0 : decode Y_Wh_counts.2.1 0 = .ok (.iload_n 2, 1) ∧ 0 + 1 = 1 := by decide +kernel
theorem d_Wh_counts_1 : decode Y_Wh_counts.2.1 1 = .ok (.iconst (-1), 1) ∧ 1 + 1 = 2 := by decide +kernel
theorem d_Wh_counts_2 : decode Y_Wh_counts.2.1 2 = .ok (.if_icmp .ne 9, 3) ∧ ((2 : Nat) : Int) + 9 = ((11 : Nat) : Int) ∧ 2 + 3 = 5 := by decide +kernel
theorem d_Wh_counts_5 : decode Y_Wh_counts.2.1 5 = .ok (.aload_n 0, 1) ∧ 5 + 1 = 6 := by decide +kernel
theorem d_Wh_counts_6 : decode Y_Wh_counts.2.1 6 = .ok (.iload_n 1, 1) ∧ 6 + 1 = 7 := by decide +kernel
theorem d_Wh_counts_7 : decode Y_Wh_counts.2.1 7 = .ok (.invokevirtual 44, 3) ∧ 7 + 3 = 10 := by decide +kernel
theorem d_Wh_counts_10 : decode Y_Wh_counts.2.1 10 = .ok (.ireturn, 1) := by decide +kernel
theorem d_Wh_counts_11 : decode Y_Wh_counts.2.1 11 = .ok (.iload_n 1, 1) ∧ 11 + 1 = 12 := by decide +kernel
theorem d_Wh_counts_12 : decode Y_Wh_counts.2.1 12 = .ok (.bipush 6, 2) ∧ 12 + 2 = 14 := by decide +kernel
theorem d_Wh_counts_14 : decode Y_Wh_counts.2.1 14 = .ok (.imul, 1) ∧ 14 + 1 = 15 := by decide +kernel
theorem d_Wh_counts_15 : decode Y_Wh_counts.2.1 15 = .ok (.istore 4, 2) ∧ 15 + 2 = 17 := by decide +kernel
theorem d_Wh_counts_17 : decode Y_Wh_counts.2.1 17 = .ok (.aload_n 0, 1) ∧ 17 + 1 = 18 := by decide +kernel
theorem d_Wh_counts_18 : decode Y_Wh_counts.2.1 18 = .ok (.getfield 13, 3) ∧ 18 + 3 = 21 := by decide +kernel
theorem d_Wh_counts_21 : decode Y_Wh_counts.2.1 21 = .ok (.iload 4, 2) ∧ 21 + 2 = 23 := by decide +kernel
theorem d_Wh_counts_23 : decode Y_Wh_counts.2.1 23 = .ok (.iconst 2, 1) ∧ 23 + 1 = 24 := by decide +kernel
theorem d_Wh_counts_24 : decode Y_Wh_counts.2.1 24 = .ok (.iadd, 1) ∧ 24 + 1 = 25 := by decide +kernel
theorem d_Wh_counts_25 : decode Y_Wh_counts.2.1 25 = .ok (.iaload, 1) ∧ 25 + 1 = 26 := by decide +kernel
theorem d_Wh_counts_26 : decode Y_Wh_counts.2.1 26 = .ok (.iload_n 2, 1) ∧ 26 + 1 = 27 := by decide +kernel
theorem d_Wh_counts_27 : decode Y_Wh_counts.2.1 27 = .ok (.if_icmp .gt 20, 3) ∧ ((27 : Nat) : Int) + 20 = ((47 : Nat) : Int) ∧ 27 + 3 = 30 := by decide +kernel
theorem d_Wh_counts_30 : decode Y_Wh_counts.2.1 30 = .ok (.iload_n 2, 1) ∧ 30 + 1 = 31 := by decide +kernel
theorem d_Wh_counts_31 : decode Y_Wh_counts.2.1 31 = .ok (.aload_n 0, 1) ∧ 31 + 1 = 32 := by decide +kernel
theorem d_Wh_counts_32 : decode Y_Wh_counts.2.1 32 = .ok (.getfield 13, 3) ∧ 32 + 3 = 35 := by decide +kernel
theorem d_Wh_counts_35 : decode Y_Wh_counts.2.1 35 = .ok (.iload 4, 2) ∧ 35 + 2 = 37 := by decide +kernel
theorem d_Wh_counts_37 : decode Y_Wh_counts.2.1 37 = .ok (.iconst 3, 1) ∧ 37 + 1 = 38 := by decide +kernel
theorem d_Wh_counts_38 : decode Y_Wh_counts.2.1 38 = .ok (.iadd, 1) ∧ 38 + 1 = 39 := by decide +kernel
theorem d_Wh_counts_39 : decode Y_Wh_counts.2.1 39 = .ok (.iaload, 1) ∧ 39 + 1 = 40 := by decide +kernel
theorem d_Wh_counts_40 : decode Y_Wh_counts.2.1 40 = .ok (.if_icmp .ge 7, 3) ∧ ((40 : Nat) : Int) + 7 = ((47 : Nat) : Int) ∧ 40 + 3 = 43 := by decide +kernel
theorem d_Wh_counts_43 : decode Y_Wh_counts.2.1 43 = .ok (.iconst 1, 1) ∧ 43 + 1 = 44 := by decide +kernel
theorem d_Wh_counts_44 : decode Y_Wh_counts.2.1 44 = .ok (.goto 4, 3) ∧ ((44 : Nat) : Int) + 4 = ((48 : Nat) : Int) ∧ 44 + 3 = 47 := by decide +kernel
theorem d_Wh_counts_47 : decode Y_Wh_counts.2.1 47 = .ok (.iconst 0, 1) ∧ 47 + 1 = 48 := by decide +kernel
theorem d_Wh_counts_48 : decode Y_Wh_counts.2.1 48 = .ok (.istore 5, 2) ∧ 48 + 2 = 50 := by decide +kernel
theorem d_Wh_counts_50 : decode Y_Wh_counts.2.1 50 = .ok (.iload 5, 2) ∧ 50 + 2 = 52 := by decide +kernel
theorem d_Wh_counts_52 : decode Y_Wh_counts.2.1 52 = .ok (.ifCond .eq 41, 3) ∧ ((52 : Nat) : Int) + 41 = ((93 : Nat) : Int) ∧ 52 + 3 = 55 := by decide +kernel
theorem d_Wh_counts_55 : decode Y_Wh_counts.2.1 55 = .ok (.aload_n 0, 1) ∧ 55 + 1 = 56 := by decide +kernel
theorem d_Wh_counts_56 : decode Y_Wh_counts.2.1 56 = .ok (.getfield 13, 3) ∧ 56 + 3 = 59 := by decide +kernel
theorem d_Wh_counts_59 : decode Y_Wh_counts.2.1 59 = .ok (.iload 4, 2) ∧ 59 + 2 = 61 := by decide +kernel
theorem d_Wh_counts_61 : decode Y_Wh_counts.2.1 61 = .ok (.iconst 4, 1) ∧ 61 + 1 = 62 := by decide +kernel
theorem d_Wh_counts_62 : decode Y_Wh_counts.2.1 62 = .ok (.iadd, 1) ∧ 62 + 1 = 63 := by decide +kernel
theorem d_Wh_counts_63 : decode Y_Wh_counts.2.1 63 = .ok (.iaload, 1) ∧ 63 + 1 = 64 := by decide +kernel
theorem d_Wh_counts_64 : decode Y_Wh_counts.2.1 64 = .ok (.iload_n 3, 1) ∧ 64 + 1 = 65 := by decide +kernel
theorem d_Wh_counts_65 : decode Y_Wh_counts.2.1 65 = .ok (.if_icmp .gt 28, 3) ∧ ((65 : Nat) : Int) + 28 = ((93 : Nat) : Int) ∧ 65 + 3 = 68 := by decide +kernel
theorem d_Wh_counts_68 : decode Y_Wh_counts.2.1 68 = .ok (.aload_n 0, 1) ∧ 68 + 1 = 69 := by decide +kernel
theorem d_Wh_counts_69 : decode Y_Wh_counts.2.1 69 = .ok (.iload_n 1, 1) ∧ 69 + 1 = 70 := by decide +kernel
theorem d_Wh_counts_70 : decode Y_Wh_counts.2.1 70 = .ok (.invokevirtual 44, 3) ∧ 70 + 3 = 73 := by decide +kernel
theorem d_Wh_counts_73 : decode Y_Wh_counts.2.1 73 = .ok (.ifCond .ne 16, 3) ∧ ((73 : Nat) : Int) + 16 = ((89 : Nat) : Int) ∧ 73 + 3 = 76 := by decide +kernel
theorem d_Wh_counts_76 : decode Y_Wh_counts.2.1 76 = .ok (.iload_n 3, 1) ∧ 76 + 1 = 77 := by decide +kernel
theorem d_Wh_counts_77 : decode Y_Wh_counts.2.1 77 = .ok (.aload_n 0, 1) ∧ 77 + 1 = 78 := by decide +kernel
theorem d_Wh_counts_78 : decode Y_Wh_counts.2.1 78 = .ok (.getfield 13, 3) ∧ 78 + 3 = 81 := by decide +kernel
theorem d_Wh_counts_81 : decode Y_Wh_counts.2.1 81 = .ok (.iload 4, 2) ∧ 81 + 2 = 83 := by decide +kernel
theorem d_Wh_counts_83 : decode Y_Wh_counts.2.1 83 = .ok (.iconst 5, 1) ∧ 83 + 1 = 84 := by decide +kernel
theorem d_Wh_counts_84 : decode Y_Wh_counts.2.1 84 = .ok (.iadd, 1) ∧ 84 + 1 = 85 := by decide +kernel
theorem d_Wh_counts_85 : decode Y_Wh_counts.2.1 85 = .ok (.iaload, 1) ∧ 85 + 1 = 86 := by decide +kernel
theorem d_Wh_counts_86 : decode Y_Wh_counts.2.1 86 = .ok (.if_icmp .ge 7, 3) ∧ ((86 : Nat) : Int) + 7 = ((93 : Nat) : Int) ∧ 86 + 3 = 89 := by decide +kernel
theorem d_Wh_counts_89 : decode Y_Wh_counts.2.1 89 = .ok (.iconst 1, 1) ∧ 89 + 1 = 90 := by decide +kernel
theorem d_Wh_counts_90 : decode Y_Wh_counts.2.1 90 = .ok (.goto 4, 3) ∧ ((90 : Nat) : Int) + 4 = ((94 : Nat) : Int) ∧ 90 + 3 = 93 := by decide +kernel
theorem d_Wh_counts_93 : decode Y_Wh_counts.2.1 93 = .ok (.iconst 0, 1) ∧ 93 + 1 = 94 := by decide +kernel
theorem d_Wh_counts_94 : decode Y_Wh_counts.2.1 94 = .ok (.ireturn, 1) := by decide +kernel
theorem d_Wh_groupsOf_0 : decode Y_Wh_groupsOf.2.1 0 = .ok (.iconst 0, 1) ∧ 0 + 1 = 1 := by decide +kernel
theorem d_Wh_groupsOf_1 : decode Y_Wh_groupsOf.2.1 1 = .ok (.istore 4, 2) ∧ 1 + 2 = 3 := by decide +kernel
theorem d_Wh_groupsOf_3 : decode Y_Wh_groupsOf.2.1 3 = .ok (.iconst 0, 1) ∧ 3 + 1 = 4 := by decide +kernel
theorem d_Wh_groupsOf_4 : decode Y_Wh_groupsOf.2.1 4 = .ok (.istore 5, 2) ∧ 4 + 2 = 6 := by decide +kernel
theorem d_Wh_groupsOf_6 : decode Y_Wh_groupsOf.2.1 6 = .ok (.iload 5, 2) ∧ 6 + 2 = 8 := by decide +kernel
theorem d_Wh_groupsOf_8 : decode Y_Wh_groupsOf.2.1 8 = .ok (.aload_n 0, 1) ∧ 8 + 1 = 9 := by decide +kernel
theorem d_Wh_groupsOf_9 : decode Y_Wh_groupsOf.2.1 9 = .ok (.getfield 41, 3) ∧ 9 + 3 = 12 := by decide +kernel
theorem d_Wh_groupsOf_12 : decode Y_Wh_groupsOf.2.1 12 = .ok (.if_icmp .ge 55, 3) ∧ ((12 : Nat) : Int) + 55 = ((67 : Nat) : Int) ∧ 12 + 3 = 15 := by decide +kernel
theorem d_Wh_groupsOf_15 : decode Y_Wh_groupsOf.2.1 15 = .ok (.aload_n 0, 1) ∧ 15 + 1 = 16 := by decide +kernel
theorem d_Wh_groupsOf_16 : decode Y_Wh_groupsOf.2.1 16 = .ok (.getfield 13, 3) ∧ 16 + 3 = 19 := by decide +kernel
theorem d_Wh_groupsOf_19 : decode Y_Wh_groupsOf.2.1 19 = .ok (.iload 5, 2) ∧ 19 + 2 = 21 := by decide +kernel
theorem d_Wh_groupsOf_21 : decode Y_Wh_groupsOf.2.1 21 = .ok (.bipush 6, 2) ∧ 21 + 2 = 23 := by decide +kernel
theorem d_Wh_groupsOf_23 : decode Y_Wh_groupsOf.2.1 23 = .ok (.imul, 1) ∧ 23 + 1 = 24 := by decide +kernel
theorem d_Wh_groupsOf_24 : decode Y_Wh_groupsOf.2.1 24 = .ok (.iconst 0, 1) ∧ 24 + 1 = 25 := by decide +kernel
theorem d_Wh_groupsOf_25 : decode Y_Wh_groupsOf.2.1 25 = .ok (.iadd, 1) ∧ 25 + 1 = 26 := by decide +kernel
theorem d_Wh_groupsOf_26 : decode Y_Wh_groupsOf.2.1 26 = .ok (.iaload, 1) ∧ 26 + 1 = 27 := by decide +kernel
theorem d_Wh_groupsOf_27 : decode Y_Wh_groupsOf.2.1 27 = .ok (.iload_n 1, 1) ∧ 27 + 1 = 28 := by decide +kernel
theorem d_Wh_groupsOf_28 : decode Y_Wh_groupsOf.2.1 28 = .ok (.if_icmp .ne 33, 3) ∧ ((28 : Nat) : Int) + 33 = ((61 : Nat) : Int) ∧ 28 + 3 = 31 := by decide +kernel
theorem d_Wh_groupsOf_31 : decode Y_Wh_groupsOf.2.1 31 = .ok (.aload_n 0, 1) ∧ 31 + 1 = 32 := by decide +kernel
theorem d_Wh_groupsOf_32 : decode Y_Wh_groupsOf.2.1 32 = .ok (.iload 5, 2) ∧ 32 + 2 = 34 := by decide +kernel
theorem d_Wh_groupsOf_34 : decode Y_Wh_groupsOf.2.1 34 = .ok (.iload_n 2, 1) ∧ 34 + 1 = 35 := by decide +kernel
theorem d_Wh_groupsOf_35 : decode Y_Wh_groupsOf.2.1 35 = .ok (.iload_n 3, 1) ∧ 35 + 1 = 36 := by decide +kernel
theorem d_Wh_groupsOf_36 : decode Y_Wh_groupsOf.2.1 36 = .ok (.invokevirtual 51, 3) ∧ 36 + 3 = 39 := by decide +kernel
theorem d_Wh_groupsOf_39 : decode Y_Wh_groupsOf.2.1 39 = .ok (.ifCond .eq 22, 3) ∧ ((39 : Nat) : Int) + 22 = ((61 : Nat) : Int) ∧ 39 + 3 = 42 := by decide +kernel
theorem d_Wh_groupsOf_42 : decode Y_Wh_groupsOf.2.1 42 = .ok (.iload 4, 2) ∧ 42 + 2 = 44 := by decide +kernel
theorem d_Wh_groupsOf_44 : decode Y_Wh_groupsOf.2.1 44 = .ok (.iconst 1, 1) ∧ 44 + 1 = 45 := by decide +kernel
theorem d_Wh_groupsOf_45 : decode Y_Wh_groupsOf.2.1 45 = .ok (.aload_n 0, 1) ∧ 45 + 1 = 46 := by decide +kernel
theorem d_Wh_groupsOf_46 : decode Y_Wh_groupsOf.2.1 46 = .ok (.getfield 13, 3) ∧ 46 + 3 = 49 := by decide +kernel
theorem d_Wh_groupsOf_49 : decode Y_Wh_groupsOf.2.1 49 = .ok (.iload 5, 2) ∧ 49 + 2 = 51 := by decide +kernel
theorem d_Wh_groupsOf_51 : decode Y_Wh_groupsOf.2.1 51 = .ok (.bipush 6, 2) ∧ 51 + 2 = 53 := by decide +kernel
theorem d_Wh_groupsOf_53 : decode Y_Wh_groupsOf.2.1 53 = .ok (.imul, 1) ∧ 53 + 1 = 54 := by decide +kernel
theorem d_Wh_groupsOf_54 : decode Y_Wh_groupsOf.2.1 54 = .ok (.iconst 1, 1) ∧ 54 + 1 = 55 := by decide +kernel
theorem d_Wh_groupsOf_55 : decode Y_Wh_groupsOf.2.1 55 = .ok (.iadd, 1) ∧ 55 + 1 = 56 := by decide +kernel
theorem d_Wh_groupsOf_56 : decode Y_Wh_groupsOf.2.1 56 = .ok (.iaload, 1) ∧ 56 + 1 = 57 := by decide +kernel
theorem d_Wh_groupsOf_57 : decode Y_Wh_groupsOf.2.1 57 = .ok (.ishl, 1) ∧ 57 + 1 = 58 := by decide +kernel
theorem d_Wh_groupsOf_58 : decode Y_Wh_groupsOf.2.1 58 = .ok (.ior, 1) ∧ 58 + 1 = 59 := by decide +kernel
theorem d_Wh_groupsOf_59 : decode Y_Wh_groupsOf.2.1 59 = .ok (.istore 4, 2) ∧ 59 + 2 = 61 := by decide +kernel
theorem d_Wh_groupsOf_61 : decode Y_Wh_groupsOf.2.1 61 = .ok (.iinc 5 1, 3) ∧ 61 + 3 = 64 := by decide +kernel
theorem d_Wh_groupsOf_64 : decode Y_Wh_groupsOf.2.1 64 = .ok (.goto (-58), 3) ∧ ((64 : Nat) : Int) + (-58) = ((6 : Nat) : Int) ∧ 64 + 3 = 67 := by decide +kernel
theorem d_Wh_groupsOf_67 : decode Y_Wh_groupsOf.2.1 67 = .ok (.iload 4, 2) ∧ 67 + 2 = 69 := by decide +kernel
theorem d_Wh_groupsOf_69 : decode Y_Wh_groupsOf.2.1 69 = .ok (.ifCond .ne 7, 3) ∧ ((69 : Nat) : Int) + 7 = ((76 : Nat) : Int) ∧ 69 + 3 = 72 := by decide +kernel
theorem d_Wh_groupsOf_72 : decode Y_Wh_groupsOf.2.1 72 = .ok (.iconst 0, 1) ∧ 72 + 1 = 73 := by decide +kernel
theorem d_Wh_groupsOf_73 : decode Y_Wh_groupsOf.2.1 73 = .ok (.goto 11, 3) ∧ ((73 : Nat) : Int) + 11 = ((84 : Nat) : Int) ∧ 73 + 3 = 76 := by decide +kernel
theorem d_Wh_groupsOf_76 : decode Y_Wh_groupsOf.2.1 76 = .ok (.aload_n 0, 1) ∧ 76 + 1 = 77 := by decide +kernel
theorem d_Wh_groupsOf_77 : decode Y_Wh_groupsOf.2.1 77 = .ok (.iload 4, 2) ∧ 77 + 2 = 79 := by decide +kernel
theorem d_Wh_groupsOf_79 : decode Y_Wh_groupsOf.2.1 79 = .ok (.iload_n 2, 1) ∧ 79 + 1 = 80 := by decide +kernel
theorem d_Wh_groupsOf_80 : decode Y_Wh_groupsOf.2.1 80 = .ok (.iload_n 3, 1) ∧ 80 + 1 = 81 := by decide +kernel
theorem d_Wh_groupsOf_81 : decode Y_Wh_groupsOf.2.1 81 = .ok (.invokevirtual 55, 3) ∧ 81 + 3 = 84 := by decide +kernel
theorem d_Wh_groupsOf_84 : decode Y_Wh_groupsOf.2.1 84 = .ok (.ireturn, 1) := by decide +kernel
theorem d_Wh_reachedFrom_0 : decode Y_Wh_reachedFrom.2.1 0 = .ok (.iload_n 1, 1) ∧ 0 + 1 = 1 := by decide +kernel
theorem d_Wh_reachedFrom_1 : decode Y_Wh_reachedFrom.2.1 1 = .ok (.istore 4, 2) ∧ 1 + 2 = 3 := by decide +kernel
theorem d_Wh_reachedFrom_3 : decode Y_Wh_reachedFrom.2.1 3 = .ok (.iconst 0, 1) ∧ 3 + 1 = 4 := by decide +kernel
theorem d_Wh_reachedFrom_4 : decode Y_Wh_reachedFrom.2.1 4 = .ok (.istore 5, 2) ∧ 4 + 2 = 6 := by decide +kernel
theorem d_Wh_reachedFrom_6 : decode Y_Wh_reachedFrom.2.1 6 = .ok (.iload 5, 2) ∧ 6 + 2 = 8 := by decide +kernel
theorem d_Wh_reachedFrom_8 : decode Y_Wh_reachedFrom.2.1 8 = .ok (.bipush 16, 2) ∧ 8 + 2 = 10 := by decide +kernel
theorem d_Wh_reachedFrom_10 : decode Y_Wh_reachedFrom.2.1 10 = .ok (.if_icmp .ge 82, 3) ∧ ((10 : Nat) : Int) + 82 = ((92 : Nat) : Int) ∧ 10 + 3 = 13 := by decide +kernel
theorem d_Wh_reachedFrom_13 : decode Y_Wh_reachedFrom.2.1 13 = .ok (.iload 4, 2) ∧ 13 + 2 = 15 := by decide +kernel
theorem d_Wh_reachedFrom_15 : decode Y_Wh_reachedFrom.2.1 15 = .ok (.istore 6, 2) ∧ 15 + 2 = 17 := by decide +kernel
theorem d_Wh_reachedFrom_17 : decode Y_Wh_reachedFrom.2.1 17 = .ok (.iconst 0, 1) ∧ 17 + 1 = 18 := by decide +kernel
theorem d_Wh_reachedFrom_18 : decode Y_Wh_reachedFrom.2.1 18 = .ok (.istore 7, 2) ∧ 18 + 2 = 20 := by decide +kernel
theorem d_Wh_reachedFrom_20 : decode Y_Wh_reachedFrom.2.1 20 = .ok (.iload 7, 2) ∧ 20 + 2 = 22 := by decide +kernel
theorem d_Wh_reachedFrom_22 : decode Y_Wh_reachedFrom.2.1 22 = .ok (.aload_n 0, 1) ∧ 22 + 1 = 23 := by decide +kernel
theorem d_Wh_reachedFrom_23 : decode Y_Wh_reachedFrom.2.1 23 = .ok (.getfield 41, 3) ∧ 23 + 3 = 26 := by decide +kernel
theorem d_Wh_reachedFrom_26 : decode Y_Wh_reachedFrom.2.1 26 = .ok (.if_icmp .ge 50, 3) ∧ ((26 : Nat) : Int) + 50 = ((76 : Nat) : Int) ∧ 26 + 3 = 29 := by decide +kernel
theorem d_Wh_reachedFrom_29 : decode Y_Wh_reachedFrom.2.1 29 = .ok (.aload_n 0, 1) ∧ 29 + 1 = 30 := by decide +kernel
theorem d_Wh_reachedFrom_30 : decode Y_Wh_reachedFrom.2.1 30 = .ok (.iload 7, 2) ∧ 30 + 2 = 32 := by decide +kernel
theorem d_Wh_reachedFrom_32 : decode Y_Wh_reachedFrom.2.1 32 = .ok (.iload 4, 2) ∧ 32 + 2 = 34 := by decide +kernel
theorem d_Wh_reachedFrom_34 : decode Y_Wh_reachedFrom.2.1 34 = .ok (.invokevirtual 59, 3) ∧ 34 + 3 = 37 := by decide +kernel
theorem d_Wh_reachedFrom_37 : decode Y_Wh_reachedFrom.2.1 37 = .ok (.ifCond .eq 33, 3) ∧ ((37 : Nat) : Int) + 33 = ((70 : Nat) : Int) ∧ 37 + 3 = 40 := by decide +kernel
theorem d_Wh_reachedFrom_40 : decode Y_Wh_reachedFrom.2.1 40 = .ok (.aload_n 0, 1) ∧ 40 + 1 = 41 := by decide +kernel
theorem d_Wh_reachedFrom_41 : decode Y_Wh_reachedFrom.2.1 41 = .ok (.iload 7, 2) ∧ 41 + 2 = 43 := by decide +kernel
theorem d_Wh_reachedFrom_43 : decode Y_Wh_reachedFrom.2.1 43 = .ok (.iload_n 2, 1) ∧ 43 + 1 = 44 := by decide +kernel
theorem d_Wh_reachedFrom_44 : decode Y_Wh_reachedFrom.2.1 44 = .ok (.iload_n 3, 1) ∧ 44 + 1 = 45 := by decide +kernel
theorem d_Wh_reachedFrom_45 : decode Y_Wh_reachedFrom.2.1 45 = .ok (.invokevirtual 51, 3) ∧ 45 + 3 = 48 := by decide +kernel
theorem d_Wh_reachedFrom_48 : decode Y_Wh_reachedFrom.2.1 48 = .ok (.ifCond .eq 22, 3) ∧ ((48 : Nat) : Int) + 22 = ((70 : Nat) : Int) ∧ 48 + 3 = 51 := by decide +kernel
theorem d_Wh_reachedFrom_51 : decode Y_Wh_reachedFrom.2.1 51 = .ok (.iload 4, 2) ∧ 51 + 2 = 53 := by decide +kernel
theorem d_Wh_reachedFrom_53 : decode Y_Wh_reachedFrom.2.1 53 = .ok (.iconst 1, 1) ∧ 53 + 1 = 54 := by decide +kernel
theorem d_Wh_reachedFrom_54 : decode Y_Wh_reachedFrom.2.1 54 = .ok (.aload_n 0, 1) ∧ 54 + 1 = 55 := by decide +kernel
theorem d_Wh_reachedFrom_55 : decode Y_Wh_reachedFrom.2.1 55 = .ok (.getfield 13, 3) ∧ 55 + 3 = 58 := by decide +kernel
theorem d_Wh_reachedFrom_58 : decode Y_Wh_reachedFrom.2.1 58 = .ok (.iload 7, 2) ∧ 58 + 2 = 60 := by decide +kernel
theorem d_Wh_reachedFrom_60 : decode Y_Wh_reachedFrom.2.1 60 = .ok (.bipush 6, 2) ∧ 60 + 2 = 62 := by decide +kernel
theorem d_Wh_reachedFrom_62 : decode Y_Wh_reachedFrom.2.1 62 = .ok (.imul, 1) ∧ 62 + 1 = 63 := by decide +kernel
theorem d_Wh_reachedFrom_63 : decode Y_Wh_reachedFrom.2.1 63 = .ok (.iconst 1, 1) ∧ 63 + 1 = 64 := by decide +kernel
theorem d_Wh_reachedFrom_64 : decode Y_Wh_reachedFrom.2.1 64 = .ok (.iadd, 1) ∧ 64 + 1 = 65 := by decide +kernel
theorem d_Wh_reachedFrom_65 : decode Y_Wh_reachedFrom.2.1 65 = .ok (.iaload, 1) ∧ 65 + 1 = 66 := by decide +kernel
theorem d_Wh_reachedFrom_66 : decode Y_Wh_reachedFrom.2.1 66 = .ok (.ishl, 1) ∧ 66 + 1 = 67 := by decide +kernel
theorem d_Wh_reachedFrom_67 : decode Y_Wh_reachedFrom.2.1 67 = .ok (.ior, 1) ∧ 67 + 1 = 68 := by decide +kernel
theorem d_Wh_reachedFrom_68 : decode Y_Wh_reachedFrom.2.1 68 = .ok (.istore 4, 2) ∧ 68 + 2 = 70 := by decide +kernel
theorem d_Wh_reachedFrom_70 : decode Y_Wh_reachedFrom.2.1 70 = .ok (.iinc 7 1, 3) ∧ 70 + 3 = 73 := by decide +kernel
theorem d_Wh_reachedFrom_73 : decode Y_Wh_reachedFrom.2.1 73 = .ok (.goto (-53), 3) ∧ ((73 : Nat) : Int) + (-53) = ((20 : Nat) : Int) ∧ 73 + 3 = 76 := by decide +kernel
theorem d_Wh_reachedFrom_76 : decode Y_Wh_reachedFrom.2.1 76 = .ok (.iload 4, 2) ∧ 76 + 2 = 78 := by decide +kernel
theorem d_Wh_reachedFrom_78 : decode Y_Wh_reachedFrom.2.1 78 = .ok (.iload 6, 2) ∧ 78 + 2 = 80 := by decide +kernel
theorem d_Wh_reachedFrom_80 : decode Y_Wh_reachedFrom.2.1 80 = .ok (.if_icmp .ne 6, 3) ∧ ((80 : Nat) : Int) + 6 = ((86 : Nat) : Int) ∧ 80 + 3 = 83 := by decide +kernel
theorem d_Wh_reachedFrom_83 : decode Y_Wh_reachedFrom.2.1 83 = .ok (.goto 9, 3) ∧ ((83 : Nat) : Int) + 9 = ((92 : Nat) : Int) ∧ 83 + 3 = 86 := by decide +kernel
theorem d_Wh_reachedFrom_86 : decode Y_Wh_reachedFrom.2.1 86 = .ok (.iinc 5 1, 3) ∧ 86 + 3 = 89 := by decide +kernel
theorem d_Wh_reachedFrom_89 : decode Y_Wh_reachedFrom.2.1 89 = .ok (.goto (-83), 3) ∧ ((89 : Nat) : Int) + (-83) = ((6 : Nat) : Int) ∧ 89 + 3 = 92 := by decide +kernel
theorem d_Wh_reachedFrom_92 : decode Y_Wh_reachedFrom.2.1 92 = .ok (.iload 4, 2) ∧ 92 + 2 = 94 := by decide +kernel
theorem d_Wh_reachedFrom_94 : decode Y_Wh_reachedFrom.2.1 94 = .ok (.ireturn, 1) := by decide +kernel
theorem d_Wh_isFromAmong_0 : decode Y_Wh_isFromAmong.2.1 0 = .ok (.aload_n 0, 1) ∧ 0 + 1 = 1 := by decide +kernel
theorem d_Wh_isFromAmong_1 : decode Y_Wh_isFromAmong.2.1 1 = .ok (.getfield 13, 3) ∧ 1 + 3 = 4 := by decide +kernel
theorem d_Wh_isFromAmong_4 : decode Y_Wh_isFromAmong.2.1 4 = .ok (.iload_n 1, 1) ∧ 4 + 1 = 5 := by decide +kernel
theorem d_Wh_isFromAmong_5 : decode Y_Wh_isFromAmong.2.1 5 = .ok (.bipush 6, 2) ∧ 5 + 2 = 7 := by decide +kernel
theorem d_Wh_isFromAmong_7 : decode Y_Wh_isFromAmong.2.1 7 = .ok (.imul, 1) ∧ 7 + 1 = 8 := by decide +kernel
theorem d_Wh_isFromAmong_8 : decode Y_Wh_isFromAmong.2.1 8 = .ok (.iconst 0, 1) ∧ 8 + 1 = 9 := by decide +kernel
theorem d_Wh_isFromAmong_9 : decode Y_Wh_isFromAmong.2.1 9 = .ok (.iadd, 1) ∧ 9 + 1 = 10 := by decide +kernel
theorem d_Wh_isFromAmong_10 : decode Y_Wh_isFromAmong.2.1 10 = .ok (.iaload, 1) ∧ 10 + 1 = 11 := by decide +kernel
theorem d_Wh_isFromAmong_11 : decode Y_Wh_isFromAmong.2.1 11 = .ok (.istore_n 3, 1) ∧ 11 + 1 = 12 := by decide +kernel
theorem d_Wh_isFromAmong_12 : decode Y_Wh_isFromAmong.2.1 12 = .ok (.iload_n 3, 1) ∧ 12 + 1 = 13 := by decide +kernel
theorem d_Wh_isFromAmong_13 : decode Y_Wh_isFromAmong.2.1 13 = .ok (.bipush 100, 2) ∧ 13 + 2 = 15 := by decide +kernel
theorem d_Wh_isFromAmong_15 : decode Y_Wh_isFromAmong.2.1 15 = .ok (.if_icmp .lt 19, 3) ∧ ((15 : Nat) : Int) + 19 = ((34 : Nat) : Int) ∧ 15 + 3 = 18 := by decide +kernel
theorem d_Wh_isFromAmong_18 : decode Y_Wh_isFromAmong.2.1 18 = .ok (.iload_n 2, 1) ∧ 18 + 1 = 19 := by decide +kernel
theorem d_Wh_isFromAmong_19 : decode Y_Wh_isFromAmong.2.1 19 = .ok (.iload_n 3, 1) ∧ 19 + 1 = 20 := by decide +kernel
theorem d_Wh_isFromAmong_20 : decode Y_Wh_isFromAmong.2.1 20 = .ok (.bipush 100, 2) ∧ 20 + 2 = 22 := by decide +kernel
theorem d_Wh_isFromAmong_22 : decode Y_Wh_isFromAmong.2.1 22 = .ok (.isub, 1) ∧ 22 + 1 = 23 := by decide +kernel
theorem d_Wh_isFromAmong_23 : decode Y_Wh_isFromAmong.2.1 23 = .ok (.ishr, 1) ∧ 23 + 1 = 24 := by decide +kernel
theorem d_Wh_isFromAmong_24 : decode Y_Wh_isFromAmong.2.1 24 = .ok (.iconst 1, 1) ∧ 24 + 1 = 25 := by decide +kernel
theorem d_Wh_isFromAmong_25 : decode Y_Wh_isFromAmong.2.1 25 = .ok (.iand, 1) ∧ 25 + 1 = 26 := by decide +kernel
theorem d_Wh_isFromAmong_26 : decode Y_Wh_isFromAmong.2.1 26 = .ok (.iconst 1, 1) ∧ 26 + 1 = 27 := by decide +kernel
theorem d_Wh_isFromAmong_27 : decode Y_Wh_isFromAmong.2.1 27 = .ok (.if_icmp .ne 7, 3) ∧ ((27 : Nat) : Int) + 7 = ((34 : Nat) : Int) ∧ 27 + 3 = 30 := by decide +kernel
theorem d_Wh_isFromAmong_30 : decode Y_Wh_isFromAmong.2.1 30 = .ok (.iconst 1, 1) ∧ 30 + 1 = 31 := by decide +kernel
theorem d_Wh_isFromAmong_31 : decode Y_Wh_isFromAmong.2.1 31 = .ok (.goto 4, 3) ∧ ((31 : Nat) : Int) + 4 = ((35 : Nat) : Int) ∧ 31 + 3 = 34 := by decide +kernel
theorem d_Wh_isFromAmong_34 : decode Y_Wh_isFromAmong.2.1 34 = .ok (.iconst 0, 1) ∧ 34 + 1 = 35 := by decide +kernel
theorem d_Wh_isFromAmong_35 : decode Y_Wh_isFromAmong.2.1 35 = .ok (.ireturn, 1) := by decide +kernel
theorem d_Wh_wouldRing_0 : decode Y_Wh_wouldRing.2.1 0 = .ok (.iload_n 1, 1) ∧ 0 + 1 = 1 := by decide +kernel
theorem d_Wh_wouldRing_1 : decode Y_Wh_wouldRing.2.1 1 = .ok (.bipush 100, 2) ∧ 1 + 2 = 3 := by decide +kernel
theorem d_Wh_wouldRing_3 : decode Y_Wh_wouldRing.2.1 3 = .ok (.if_icmp .lt 27, 3) ∧ ((3 : Nat) : Int) + 27 = ((30 : Nat) : Int) ∧ 3 + 3 = 6 := by decide +kernel
theorem d_Wh_wouldRing_6 : decode Y_Wh_wouldRing.2.1 6 = .ok (.aload_n 0, 1) ∧ 6 + 1 = 7 := by decide +kernel
theorem d_Wh_wouldRing_7 : decode Y_Wh_wouldRing.2.1 7 = .ok (.iconst 1, 1) ∧ 7 + 1 = 8 := by decide +kernel
theorem d_Wh_wouldRing_8 : decode Y_Wh_wouldRing.2.1 8 = .ok (.iload_n 2, 1) ∧ 8 + 1 = 9 := by decide +kernel
theorem d_Wh_wouldRing_9 : decode Y_Wh_wouldRing.2.1 9 = .ok (.ishl, 1) ∧ 9 + 1 = 10 := by decide +kernel
theorem d_Wh_wouldRing_10 : decode Y_Wh_wouldRing.2.1 10 = .ok (.iconst (-1), 1) ∧ 10 + 1 = 11 := by decide +kernel
theorem d_Wh_wouldRing_11 : decode Y_Wh_wouldRing.2.1 11 = .ok (.iconst (-1), 1) ∧ 11 + 1 = 12 := by decide +kernel
theorem d_Wh_wouldRing_12 : decode Y_Wh_wouldRing.2.1 12 = .ok (.invokevirtual 55, 3) ∧ 12 + 3 = 15 := by decide +kernel
theorem d_Wh_wouldRing_15 : decode Y_Wh_wouldRing.2.1 15 = .ok (.iload_n 1, 1) ∧ 15 + 1 = 16 := by decide +kernel
theorem d_Wh_wouldRing_16 : decode Y_Wh_wouldRing.2.1 16 = .ok (.bipush 100, 2) ∧ 16 + 2 = 18 := by decide +kernel
theorem d_Wh_wouldRing_18 : decode Y_Wh_wouldRing.2.1 18 = .ok (.isub, 1) ∧ 18 + 1 = 19 := by decide +kernel
theorem d_Wh_wouldRing_19 : decode Y_Wh_wouldRing.2.1 19 = .ok (.ishr, 1) ∧ 19 + 1 = 20 := by decide +kernel
theorem d_Wh_wouldRing_20 : decode Y_Wh_wouldRing.2.1 20 = .ok (.iconst 1, 1) ∧ 20 + 1 = 21 := by decide +kernel
theorem d_Wh_wouldRing_21 : decode Y_Wh_wouldRing.2.1 21 = .ok (.iand, 1) ∧ 21 + 1 = 22 := by decide +kernel
theorem d_Wh_wouldRing_22 : decode Y_Wh_wouldRing.2.1 22 = .ok (.iconst 1, 1) ∧ 22 + 1 = 23 := by decide +kernel
theorem d_Wh_wouldRing_23 : decode Y_Wh_wouldRing.2.1 23 = .ok (.if_icmp .ne 7, 3) ∧ ((23 : Nat) : Int) + 7 = ((30 : Nat) : Int) ∧ 23 + 3 = 26 := by decide +kernel
theorem d_Wh_wouldRing_26 : decode Y_Wh_wouldRing.2.1 26 = .ok (.iconst 1, 1) ∧ 26 + 1 = 27 := by decide +kernel
theorem d_Wh_wouldRing_27 : decode Y_Wh_wouldRing.2.1 27 = .ok (.goto 4, 3) ∧ ((27 : Nat) : Int) + 4 = ((31 : Nat) : Int) ∧ 27 + 3 = 30 := by decide +kernel
theorem d_Wh_wouldRing_30 : decode Y_Wh_wouldRing.2.1 30 = .ok (.iconst 0, 1) ∧ 30 + 1 = 31 := by decide +kernel
theorem d_Wh_wouldRing_31 : decode Y_Wh_wouldRing.2.1 31 = .ok (.ireturn, 1) := by decide +kernel
theorem d_Wh_slotOfPerson_0 : decode Y_Wh_slotOfPerson.2.1 0 = .ok (.iload_n 0, 1) ∧ 0 + 1 = 1 := by decide +kernel
theorem d_Wh_slotOfPerson_1 : decode Y_Wh_slotOfPerson.2.1 1 = .ok (.bipush 8, 2) ∧ 1 + 2 = 3 := by decide +kernel
theorem d_Wh_slotOfPerson_3 : decode Y_Wh_slotOfPerson.2.1 3 = .ok (.imul, 1) ∧ 3 + 1 = 4 := by decide +kernel
theorem d_Wh_slotOfPerson_4 : decode Y_Wh_slotOfPerson.2.1 4 = .ok (.iload_n 1, 1) ∧ 4 + 1 = 5 := by decide +kernel
theorem d_Wh_slotOfPerson_5 : decode Y_Wh_slotOfPerson.2.1 5 = .ok (.iadd, 1) ∧ 5 + 1 = 6 := by decide +kernel
theorem d_Wh_slotOfPerson_6 : decode Y_Wh_slotOfPerson.2.1 6 = .ok (.ireturn, 1) := by decide +kernel
theorem d_Wh_slotOfThing_0 : decode Y_Wh_slotOfThing.2.1 0 = .ok (.bipush 20, 2) ∧ 0 + 2 = 2 := by decide +kernel
theorem d_Wh_slotOfThing_2 : decode Y_Wh_slotOfThing.2.1 2 = .ok (.iload_n 0, 1) ∧ 2 + 1 = 3 := by decide +kernel
theorem d_Wh_slotOfThing_3 : decode Y_Wh_slotOfThing.2.1 3 = .ok (.iadd, 1) ∧ 3 + 1 = 4 := by decide +kernel
theorem d_Wh_slotOfThing_4 : decode Y_Wh_slotOfThing.2.1 4 = .ok (.bipush 8, 2) ∧ 4 + 2 = 6 := by decide +kernel
theorem d_Wh_slotOfThing_6 : decode Y_Wh_slotOfThing.2.1 6 = .ok (.imul, 1) ∧ 6 + 1 = 7 := by decide +kernel
theorem d_Wh_slotOfThing_7 : decode Y_Wh_slotOfThing.2.1 7 = .ok (.iload_n 1, 1) ∧ 7 + 1 = 8 := by decide +kernel
theorem d_Wh_slotOfThing_8 : decode Y_Wh_slotOfThing.2.1 8 = .ok (.iadd, 1) ∧ 8 + 1 = 9 := by decide +kernel
theorem d_Wh_slotOfThing_9 : decode Y_Wh_slotOfThing.2.1 9 = .ok (.ireturn, 1) := by decide +kernel
theorem d_Wh_setFeature_0 : decode Y_Wh_setFeature.2.1 0 = .ok (.aload_n 0, 1) ∧ 0 + 1 = 1 := by decide +kernel
theorem d_Wh_setFeature_1 : decode Y_Wh_setFeature.2.1 1 = .ok (.getfield 17, 3) ∧ 1 + 3 = 4 := by decide +kernel
theorem d_Wh_setFeature_4 : decode Y_Wh_setFeature.2.1 4 = .ok (.iload_n 1, 1) ∧ 4 + 1 = 5 := by decide +kernel
theorem d_Wh_setFeature_5 : decode Y_Wh_setFeature.2.1 5 = .ok (.iload_n 2, 1) ∧ 5 + 1 = 6 := by decide +kernel
theorem d_Wh_setFeature_6 : decode Y_Wh_setFeature.2.1 6 = .ok (.iastore, 1) ∧ 6 + 1 = 7 := by decide +kernel
theorem d_Wh_setFeature_7 : decode Y_Wh_setFeature.2.1 7 = .ok (.aload_n 0, 1) ∧ 7 + 1 = 8 := by decide +kernel
theorem d_Wh_setFeature_8 : decode Y_Wh_setFeature.2.1 8 = .ok (.getfield 20, 3) ∧ 8 + 3 = 11 := by decide +kernel
theorem d_Wh_setFeature_11 : decode Y_Wh_setFeature.2.1 11 = .ok (.iload_n 1, 1) ∧ 11 + 1 = 12 := by decide +kernel
theorem d_Wh_setFeature_12 : decode Y_Wh_setFeature.2.1 12 = .ok (.iload_n 3, 1) ∧ 12 + 1 = 13 := by decide +kernel
theorem d_Wh_setFeature_13 : decode Y_Wh_setFeature.2.1 13 = .ok (.iastore, 1) ∧ 13 + 1 = 14 := by decide +kernel
theorem d_Wh_setFeature_14 : decode Y_Wh_setFeature.2.1 14 = .ok (.iconst 0, 1) ∧ 14 + 1 = 15 := by decide +kernel
theorem d_Wh_setFeature_15 : decode Y_Wh_setFeature.2.1 15 = .ok (.istore 4, 2) ∧ 15 + 2 = 17 := by decide +kernel
theorem d_Wh_setFeature_17 : decode Y_Wh_setFeature.2.1 17 = .ok (.iload 4, 2) ∧ 17 + 2 = 19 := by decide +kernel
theorem d_Wh_setFeature_19 : decode Y_Wh_setFeature.2.1 19 = .ok (.bipush 20, 2) ∧ 19 + 2 = 21 := by decide +kernel
theorem d_Wh_setFeature_21 : decode Y_Wh_setFeature.2.1 21 = .ok (.if_icmp .ge 22, 3) ∧ ((21 : Nat) : Int) + 22 = ((43 : Nat) : Int) ∧ 21 + 3 = 24 := by decide +kernel
theorem d_Wh_setFeature_24 : decode Y_Wh_setFeature.2.1 24 = .ok (.aload_n 0, 1) ∧ 24 + 1 = 25 := by decide +kernel
theorem d_Wh_setFeature_25 : decode Y_Wh_setFeature.2.1 25 = .ok (.getfield 23, 3) ∧ 25 + 3 = 28 := by decide +kernel
theorem d_Wh_setFeature_28 : decode Y_Wh_setFeature.2.1 28 = .ok (.iload_n 1, 1) ∧ 28 + 1 = 29 := by decide +kernel
theorem d_Wh_setFeature_29 : decode Y_Wh_setFeature.2.1 29 = .ok (.bipush 20, 2) ∧ 29 + 2 = 31 := by decide +kernel
theorem d_Wh_setFeature_31 : decode Y_Wh_setFeature.2.1 31 = .ok (.imul, 1) ∧ 31 + 1 = 32 := by decide +kernel
theorem d_Wh_setFeature_32 : decode Y_Wh_setFeature.2.1 32 = .ok (.iload 4, 2) ∧ 32 + 2 = 34 := by decide +kernel
theorem d_Wh_setFeature_34 : decode Y_Wh_setFeature.2.1 34 = .ok (.iadd, 1) ∧ 34 + 1 = 35 := by decide +kernel
theorem d_Wh_setFeature_35 : decode Y_Wh_setFeature.2.1 35 = .ok (.lconst 0, 1) ∧ 35 + 1 = 36 := by decide +kernel
theorem d_Wh_setFeature_36 : decode Y_Wh_setFeature.2.1 36 = .ok (.lastore, 1) ∧ 36 + 1 = 37 := by decide +kernel
theorem d_Wh_setFeature_37 : decode Y_Wh_setFeature.2.1 37 = .ok (.iinc 4 1, 3) ∧ 37 + 3 = 40 := by decide +kernel
theorem d_Wh_setFeature_40 : decode Y_Wh_setFeature.2.1 40 = .ok (.goto (-23), 3) ∧ ((40 : Nat) : Int) + (-23) = ((17 : Nat) : Int) ∧ 40 + 3 = 43 := by decide +kernel
theorem d_Wh_setFeature_43 : decode Y_Wh_setFeature.2.1 43 = .ok (.return_, 1) := by decide +kernel
theorem d_Wh_setItem_0 : decode Y_Wh_setItem.2.1 0 = .ok (.lload_n 3, 1) ∧ 0 + 1 = 1 := by decide +kernel
theorem d_Wh_setItem_1 : decode Y_Wh_setItem.2.1 1 = .ok (.lstore 5, 2) ∧ 1 + 2 = 3 := by decide +kernel
theorem d_Wh_setItem_3 : decode Y_Wh_setItem.2.1 3 = .ok (.aload_n 0, 1) ∧ 3 + 1 = 4 := by decide +kernel
theorem d_Wh_setItem_4 : decode Y_Wh_setItem.2.1 4 = .ok (.getfield 17, 3) ∧ 4 + 3 = 7 := by decide +kernel
theorem d_Wh_setItem_7 : decode Y_Wh_setItem.2.1 7 = .ok (.iload_n 1, 1) ∧ 7 + 1 = 8 := by decide +kernel
theorem d_Wh_setItem_8 : decode Y_Wh_setItem.2.1 8 = .ok (.iaload, 1) ∧ 8 + 1 = 9 := by decide +kernel
theorem d_Wh_setItem_9 : decode Y_Wh_setItem.2.1 9 = .ok (.iconst 3, 1) ∧ 9 + 1 = 10 := by decide +kernel
theorem d_Wh_setItem_10 : decode Y_Wh_setItem.2.1 10 = .ok (.if_icmp .ne 11, 3) ∧ ((10 : Nat) : Int) + 11 = ((21 : Nat) : Int) ∧ 10 + 3 = 13 := by decide +kernel
theorem d_Wh_setItem_13 : decode Y_Wh_setItem.2.1 13 = .ok (.lload_n 3, 1) ∧ 13 + 1 = 14 := by decide +kernel
theorem d_Wh_setItem_14 : decode Y_Wh_setItem.2.1 14 = .ok (.l2i, 1) ∧ 14 + 1 = 15 := by decide +kernel
theorem d_Wh_setItem_15 : decode Y_Wh_setItem.2.1 15 = .ok (.i2l, 1) ∧ 15 + 1 = 16 := by decide +kernel
theorem d_Wh_setItem_16 : decode Y_Wh_setItem.2.1 16 = .ok (.lstore 5, 2) ∧ 16 + 2 = 18 := by decide +kernel
theorem d_Wh_setItem_18 : decode Y_Wh_setItem.2.1 18 = .ok (.goto 25, 3) ∧ ((18 : Nat) : Int) + 25 = ((43 : Nat) : Int) ∧ 18 + 3 = 21 := by decide +kernel
theorem d_Wh_setItem_21 : decode Y_Wh_setItem.2.1 21 = .ok (.aload_n 0, 1) ∧ 21 + 1 = 22 := by decide +kernel
theorem d_Wh_setItem_22 : decode Y_Wh_setItem.2.1 22 = .ok (.getfield 17, 3) ∧ 22 + 3 = 25 := by decide +kernel
theorem d_Wh_setItem_25 : decode Y_Wh_setItem.2.1 25 = .ok (.iload_n 1, 1) ∧ 25 + 1 = 26 := by decide +kernel
theorem d_Wh_setItem_26 : decode Y_Wh_setItem.2.1 26 = .ok (.iaload, 1) ∧ 26 + 1 = 27 := by decide +kernel
theorem d_Wh_setItem_27 : decode Y_Wh_setItem.2.1 27 = .ok (.iconst 2, 1) ∧ 27 + 1 = 28 := by decide +kernel
theorem d_Wh_setItem_28 : decode Y_Wh_setItem.2.1 28 = .ok (.if_icmp .ne 15, 3) ∧ ((28 : Nat) : Int) + 15 = ((43 : Nat) : Int) ∧ 28 + 3 = 31 := by decide +kernel
theorem d_Wh_setItem_31 : decode Y_Wh_setItem.2.1 31 = .ok (.lload_n 3, 1) ∧ 31 + 1 = 32 := by decide +kernel
theorem d_Wh_setItem_32 : decode Y_Wh_setItem.2.1 32 = .ok (.invokestatic 63, 3) ∧ 32 + 3 = 35 := by decide +kernel
theorem d_Wh_setItem_35 : decode Y_Wh_setItem.2.1 35 = .ok (.ifCond .eq 8, 3) ∧ ((35 : Nat) : Int) + 8 = ((43 : Nat) : Int) ∧ 35 + 3 = 38 := by decide +kernel
theorem d_Wh_setItem_38 : decode Y_Wh_setItem.2.1 38 = .ok (.ldc2_w 69, 3) ∧ 38 + 3 = 41 := by decide +kernel
theorem d_Wh_setItem_41 : decode Y_Wh_setItem.2.1 41 = .ok (.lstore 5, 2) ∧ 41 + 2 = 43 := by decide +kernel
theorem d_Wh_setItem_43 : decode Y_Wh_setItem.2.1 43 = .ok (.aload_n 0, 1) ∧ 43 + 1 = 44 := by decide +kernel
theorem d_Wh_setItem_44 : decode Y_Wh_setItem.2.1 44 = .ok (.getfield 23, 3) ∧ 44 + 3 = 47 := by decide +kernel
theorem d_Wh_setItem_47 : decode Y_Wh_setItem.2.1 47 = .ok (.iload_n 1, 1) ∧ 47 + 1 = 48 := by decide +kernel
theorem d_Wh_setItem_48 : decode Y_Wh_setItem.2.1 48 = .ok (.bipush 20, 2) ∧ 48 + 2 = 50 := by decide +kernel
theorem d_Wh_setItem_50 : decode Y_Wh_setItem.2.1 50 = .ok (.imul, 1) ∧ 50 + 1 = 51 := by decide +kernel
theorem d_Wh_setItem_51 : decode Y_Wh_setItem.2.1 51 = .ok (.iload_n 2, 1) ∧ 51 + 1 = 52 := by decide +kernel
theorem d_Wh_setItem_52 : decode Y_Wh_setItem.2.1 52 = .ok (.iadd, 1) ∧ 52 + 1 = 53 := by decide +kernel
theorem d_Wh_setItem_53 : decode Y_Wh_setItem.2.1 53 = .ok (.lload 5, 2) ∧ 53 + 2 = 55 := by decide +kernel
theorem d_Wh_setItem_55 : decode Y_Wh_setItem.2.1 55 = .ok (.lastore, 1) ∧ 55 + 1 = 56 := by decide +kernel
theorem d_Wh_setItem_56 : decode Y_Wh_setItem.2.1 56 = .ok (.return_, 1) := by decide +kernel
theorem d_Wh_hasItems_0 : decode Y_Wh_hasItems.2.1 0 = .ok (.iload_n 2, 1) ∧ 0 + 1 = 1 := by decide +kernel
theorem d_Wh_hasItems_1 : decode Y_Wh_hasItems.2.1 1 = .ok (.ifCond .lt 33, 3) ∧ ((1 : Nat) : Int) + 33 = ((34 : Nat) : Int) ∧ 1 + 3 = 4 := by decide +kernel
theorem d_Wh_hasItems_4 : decode Y_Wh_hasItems.2.1 4 = .ok (.iload_n 3, 1) ∧ 4 + 1 = 5 := by decide +kernel
theorem d_Wh_hasItems_5 : decode Y_Wh_hasItems.2.1 5 = .ok (.ifCond .lt 29, 3) ∧ ((5 : Nat) : Int) + 29 = ((34 : Nat) : Int) ∧ 5 + 3 = 8 := by decide +kernel
theorem d_Wh_hasItems_8 : decode Y_Wh_hasItems.2.1 8 = .ok (.iload_n 2, 1) ∧ 8 + 1 = 9 := by decide +kernel
theorem d_Wh_hasItems_9 : decode Y_Wh_hasItems.2.1 9 = .ok (.aload_n 0, 1) ∧ 9 + 1 = 10 := by decide +kernel
theorem d_Wh_hasItems_10 : decode Y_Wh_hasItems.2.1 10 = .ok (.getfield 20, 3) ∧ 10 + 3 = 13 := by decide +kernel
theorem d_Wh_hasItems_13 : decode Y_Wh_hasItems.2.1 13 = .ok (.iload_n 1, 1) ∧ 13 + 1 = 14 := by decide +kernel
theorem d_Wh_hasItems_14 : decode Y_Wh_hasItems.2.1 14 = .ok (.iaload, 1) ∧ 14 + 1 = 15 := by decide +kernel
theorem d_Wh_hasItems_15 : decode Y_Wh_hasItems.2.1 15 = .ok (.if_icmp .gt 19, 3) ∧ ((15 : Nat) : Int) + 19 = ((34 : Nat) : Int) ∧ 15 + 3 = 18 := by decide +kernel
theorem d_Wh_hasItems_18 : decode Y_Wh_hasItems.2.1 18 = .ok (.iload_n 3, 1) ∧ 18 + 1 = 19 := by decide +kernel
theorem d_Wh_hasItems_19 : decode Y_Wh_hasItems.2.1 19 = .ok (.aload_n 0, 1) ∧ 19 + 1 = 20 := by decide +kernel
theorem d_Wh_hasItems_20 : decode Y_Wh_hasItems.2.1 20 = .ok (.getfield 20, 3) ∧ 20 + 3 = 23 := by decide +kernel
theorem d_Wh_hasItems_23 : decode Y_Wh_hasItems.2.1 23 = .ok (.iload_n 1, 1) ∧ 23 + 1 = 24 := by decide +kernel
theorem d_Wh_hasItems_24 : decode Y_Wh_hasItems.2.1 24 = .ok (.iaload, 1) ∧ 24 + 1 = 25 := by decide +kernel
theorem d_Wh_hasItems_25 : decode Y_Wh_hasItems.2.1 25 = .ok (.iload_n 2, 1) ∧ 25 + 1 = 26 := by decide +kernel
theorem d_Wh_hasItems_26 : decode Y_Wh_hasItems.2.1 26 = .ok (.isub, 1) ∧ 26 + 1 = 27 := by decide +kernel
theorem d_Wh_hasItems_27 : decode Y_Wh_hasItems.2.1 27 = .ok (.if_icmp .gt 7, 3) ∧ ((27 : Nat) : Int) + 7 = ((34 : Nat) : Int) ∧ 27 + 3 = 30 := by decide +kernel
theorem d_Wh_hasItems_30 : decode Y_Wh_hasItems.2.1 30 = .ok (.iconst 1, 1) ∧ 30 + 1 = 31 := by decide +kernel
theorem d_Wh_hasItems_31 : decode Y_Wh_hasItems.2.1 31 = .ok (.goto 4, 3) ∧ ((31 : Nat) : Int) + 4 = ((35 : Nat) : Int) ∧ 31 + 3 = 34 := by decide +kernel
theorem d_Wh_hasItems_34 : decode Y_Wh_hasItems.2.1 34 = .ok (.iconst 0, 1) ∧ 34 + 1 = 35 := by decide +kernel
theorem d_Wh_hasItems_35 : decode Y_Wh_hasItems.2.1 35 = .ok (.ireturn, 1) := by decide +kernel
theorem d_Wh_hasMark_0 : decode Y_Wh_hasMark.2.1 0 = .ok (.iconst 0, 1) ∧ 0 + 1 = 1 := by decide +kernel
theorem d_Wh_hasMark_1 : decode Y_Wh_hasMark.2.1 1 = .ok (.istore 4, 2) ∧ 1 + 2 = 3 := by decide +kernel
theorem d_Wh_hasMark_3 : decode Y_Wh_hasMark.2.1 3 = .ok (.iload 4, 2) ∧ 3 + 2 = 5 := by decide +kernel
theorem d_Wh_hasMark_5 : decode Y_Wh_hasMark.2.1 5 = .ok (.aload_n 0, 1) ∧ 5 + 1 = 6 := by decide +kernel
theorem d_Wh_hasMark_6 : decode Y_Wh_hasMark.2.1 6 = .ok (.getfield 20, 3) ∧ 6 + 3 = 9 := by decide +kernel
theorem d_Wh_hasMark_9 : decode Y_Wh_hasMark.2.1 9 = .ok (.iload_n 1, 1) ∧ 9 + 1 = 10 := by decide +kernel
theorem d_Wh_hasMark_10 : decode Y_Wh_hasMark.2.1 10 = .ok (.iaload, 1) ∧ 10 + 1 = 11 := by decide +kernel
theorem d_Wh_hasMark_11 : decode Y_Wh_hasMark.2.1 11 = .ok (.if_icmp .ge 28, 3) ∧ ((11 : Nat) : Int) + 28 = ((39 : Nat) : Int) ∧ 11 + 3 = 14 := by decide +kernel
theorem d_Wh_hasMark_14 : decode Y_Wh_hasMark.2.1 14 = .ok (.aload_n 0, 1) ∧ 14 + 1 = 15 := by decide +kernel
theorem d_Wh_hasMark_15 : decode Y_Wh_hasMark.2.1 15 = .ok (.getfield 23, 3) ∧ 15 + 3 = 18 := by decide +kernel
theorem d_Wh_hasMark_18 : decode Y_Wh_hasMark.2.1 18 = .ok (.iload_n 1, 1) ∧ 18 + 1 = 19 := by decide +kernel
theorem d_Wh_hasMark_19 : decode Y_Wh_hasMark.2.1 19 = .ok (.bipush 20, 2) ∧ 19 + 2 = 21 := by decide +kernel
theorem d_Wh_hasMark_21 : decode Y_Wh_hasMark.2.1 21 = .ok (.imul, 1) ∧ 21 + 1 = 22 := by decide +kernel
theorem d_Wh_hasMark_22 : decode Y_Wh_hasMark.2.1 22 = .ok (.iload 4, 2) ∧ 22 + 2 = 24 := by decide +kernel
theorem d_Wh_hasMark_24 : decode Y_Wh_hasMark.2.1 24 = .ok (.iadd, 1) ∧ 24 + 1 = 25 := by decide +kernel
theorem d_Wh_hasMark_25 : decode Y_Wh_hasMark.2.1 25 = .ok (.laload, 1) ∧ 25 + 1 = 26 := by decide +kernel
theorem d_Wh_hasMark_26 : decode Y_Wh_hasMark.2.1 26 = .ok (.lload_n 2, 1) ∧ 26 + 1 = 27 := by decide +kernel
theorem d_Wh_hasMark_27 : decode Y_Wh_hasMark.2.1 27 = .ok (.lcmp, 1) ∧ 27 + 1 = 28 := by decide +kernel
theorem d_Wh_hasMark_28 : decode Y_Wh_hasMark.2.1 28 = .ok (.ifCond .ne 5, 3) ∧ ((28 : Nat) : Int) + 5 = ((33 : Nat) : Int) ∧ 28 + 3 = 31 := by decide +kernel
theorem d_Wh_hasMark_31 : decode Y_Wh_hasMark.2.1 31 = .ok (.iconst 1, 1) ∧ 31 + 1 = 32 := by decide +kernel
theorem d_Wh_hasMark_32 : decode Y_Wh_hasMark.2.1 32 = .ok (.ireturn, 1) := by decide +kernel
theorem d_Wh_hasMark_33 : decode Y_Wh_hasMark.2.1 33 = .ok (.iinc 4 1, 3) ∧ 33 + 3 = 36 := by decide +kernel
theorem d_Wh_hasMark_36 : decode Y_Wh_hasMark.2.1 36 = .ok (.goto (-33), 3) ∧ ((36 : Nat) : Int) + (-33) = ((3 : Nat) : Int) ∧ 36 + 3 = 39 := by decide +kernel
theorem d_Wh_hasMark_39 : decode Y_Wh_hasMark.2.1 39 = .ok (.iconst 0, 1) ∧ 39 + 1 = 40 := by decide +kernel
theorem d_Wh_hasMark_40 : decode Y_Wh_hasMark.2.1 40 = .ok (.ireturn, 1) := by decide +kernel
